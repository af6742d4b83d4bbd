theorem wct_upd {p p' : Nat → Bool} {w : Nat} (h : ∀ j, j ≠ w → p' j = p j) : ∀ k : Nat, wct p' k = wct p k + if w < k then ((if p' w = true then 1 else 0) - (if p w = true then 1 else 0)) else 0
  | 0 => by simp [wct]
  | k + 1 => by
    have ih := wct_upd h k
    unfold wct
    rw [ih]
    by_cases e : k = w
    · subst e
      rw [if_neg (Nat.lt_irrefl _), if_pos (Nat.lt_succ_self _)]
      omega
    · rw [h k e]
      by_cases c : w < k
      · rw [if_pos c, if_pos (show w < k + 1 by omega)]
        omega
      · rw [if_neg c, if_neg (show ¬ w < k + 1 by omega)]
        omega
theorem wmx_none (f : Nat → Int) : ∀ n : Nat, wmxi f n = -1 → wmxv f n = -1
  | 0, _ => rfl
  | n + 1, h => by
    have ih := wmx_none f n
    unfold wmxi at h
    unfold wmxv
    by_cases c : wmxv f n < f n
    · rw [if_pos c] at h
      omega
    · rw [if_neg c] at h ⊢
      exact ih h
theorem wG_te {S : zM} {m wh co : Int} {te : Nat} (hte : te < 20) (hc : co < qn S 1) : wG S (gadd (gt S) (nf S) te wh co) (nf S + 1) kall (so0 S) (fst S) m 19 = if wh = m then wcar S m co te else wV S m 19 := by
  have := (wseg_new (S := S) (g := gt S) (kp := kall) (by_ := wby (so0 S m)) (m := m) (wh := wh) (co := co) (te := te) (n := nf S) (v := wstart (so0 S m) (fst S m)) rfl hc 20).2 (by omega)
  have e : wG S (gadd (gt S) (nf S) te wh co) (nf S + 1) kall (so0 S) (fst S) m 19 = wseg S (gadd (gt S) (nf S) te wh co) (nf S + 1) kall (wby (so0 S m)) m 0 20 (wstart (so0 S m) (fst S m)) := rfl
  rw [e, this, show 20 - te - 1 = 19 - te by omega]
  by_cases c : wh = m
  · rw [if_pos c, if_pos c]
    rfl
  · rw [if_neg c, if_neg c]
    have := wseg_add S (gt S) (nf S) kall (wby (so0 S m)) m 0 (te + 1) (19 - te) (wstart (so0 S m) (fst S m))
    rw [Nat.zero_add, show te + 1 + (19 - te) = 20 by omega] at this
    exact this.symm
set_option maxRecDepth 100000 in
set_option maxHeartbeats 4000000 in
theorem s_carryOf {S M : zM} {F : zV → zM → Prop} {te qu wh : Int} (hW : WX S) (h : RM S M) (hg : (0 ≤ te ∧ te < 20) ∧ (0 ≤ qu ∧ qu < 4) ∧ (0 ≤ wh ∧ wh < 3)) (hR : ∀ M', YQ M M' → RC S M' → F (.inl (aCarry S te qu wh)) M') : zcv (zv 8 tX8_carryOf) [.inr (.inr 46), .inl te, .inl qu, .inl wh] M F := by
  refine zcvv rfl ?_
  have hk := W_k hW
  have hqk := hk.2.2.1
  have hck := hk.2.2.2.1
  have hnf := hk.2.2.2.2.1
  have hqk8 := hk.2.2.2.2.2.1
  have hck8 := hk.2.2.2.2.2.2.1
  have hnf8 := hk.2.2.2.2.2.2.2
  have hqr : QR S := by obtain ⟨M0, hX⟩ := hW; exact hX.2.2.2.1.1
  have hF3 : ∀ f : Nat, f < nf S → 0 ≤ gt S 3 f := by obtain ⟨M0, hX⟩ := hW; exact fun f hf => (hX.2.2.2.2.1.2.2.2.2 f hf).2.2.2.1
  unfold aCarry at hR
  rw [if_pos hg] at hR
  obtain ⟨T, rfl⟩ : ∃ T : Nat, te = T := ⟨te.toNat, by omega⟩
  rw [Int.toNat_natCast] at hR
  have hfs : ∀ c, wcf S T qu c = wcs S T qu (c / ck S) (c % ck S) := fun c => rfl
  have hw1 : ∀ n, wcw S T qu n = if wmxi (wcf S T qu) n = -1 then -1 else wmxi (wcf S T qu) n / ck S := fun n => rfl
  have hw2 : ∀ n, wcx S T qu n = if wmxi (wcf S T qu) n = -1 then -1 else wmxi (wcf S T qu) n % ck S := fun n => rfl
  rw [hw1, hw2] at hR
  generalize hfd : wcf S T qu = f at *
  have hprod : qk S * ck S ≤ 64 := Nat.mul_le_mul hqk8 hck8
  have hpI : ((qk S * ck S : Nat) : Int) = qn S 0 * qn S 1 := by rw [Int.natCast_mul, hqk, hck]
  simp only [↓eX8_carryOf, ↓rX8_carryOf_0, ↓rX8_carryOf_1, ↓reduceIte, zkeep_n, zkeep_i, zkeep_r, zkeep_l, zup_eq, zIR, zLR, List.length_cons, List.length_nil, Nat.reduceAdd, Nat.reduceLeDiff, Nat.reduceEqDiff, Nat.reduceSub, Int.reduceLE, Int.reduceLT, Int.reduceEq, Int.reduceNe, Int.reduceNeg, Int.reduceAdd, Int.reduceSub, Int.reduceMul, Int.reduceToNat, Nat.le_refl, Nat.zero_le, Nat.zero_add, Int.zero_add, Int.add_zero, and_true, true_and, and_false, false_and, not_true_eq_false, not_false_eq_true, eq_self, ne_eq, true_implies, false_implies, implies_true, or_true, true_or, or_false, false_or, reduceCtorEq, Option.some.injEq, Sum.inl.injEq, exists_eq_left', exists_eq_left, zite]
  refine zcnv rfl (s_asTold hW h (fun M1 f1 f2 f3 f4 f5 => ⟨rfl, ?_⟩))
  have hCT := told_CF hW f2 f3 f5
  have hM1 := RM_yq h f1.yq
  have e8 : M1 46 8 = S 3 0 := hM1.2.2.2.1.1
  have hfB : ∀ n, f n ≤ 100 := fun n => by
    rw [hfs]
    have := wct_R (pay S 19 qu) (qk S)
    unfold wcs
    (repeat' split) <;> omega
  have L : ∀ t : Nat × zM, (t.1 ≤ qk S * ck S ∧ YS M1 t.2 ∧ t.2 46 12 = S 3 0 + 1 ∧ (∀ f : Int, f < nf S → t.2 56 f = M1 56 f ∧ t.2 57 f = M1 57 f ∧ t.2 58 f = M1 58 f)) → ∀ x7, uX8_carryOf (fun r M' => ∃ v, r = some v ∧ F v M') 23 [some (.inr (.inr 46)), some (.inl (T : Int)), some (.inl qu), some (.inl wh), some (.inl (wmxi f t.1)), some (.inl (wmxv f t.1)), some (.inl (t.1 : Int)), x7] [] t.2 := by
    refine zind (fun t => qk S * ck S - t.1) ?_
    rintro ⟨c, N⟩ ⟨hc, hN, h12, hI⟩ ih x7
    simp only at hc hN h12 hI ih
    have n2 : N 46 2 = qn S 0 := (hN _ _ (by decide) (by decide)).trans f2.1
    have n5 : N 46 5 = qn S 1 := (hN _ _ (by decide) (by decide)).trans f2.2.1
    have n8 : N 46 8 = S 3 0 := (hN _ _ (by decide) (by decide)).trans e8
    have iR := wmxi_R f c
    have vR := wmxv_R2 (f := f) (B := 100) hfB (by decide) c
    refine rX8_carryOf_23.mpr ?_
    by_cases he : c = qk S * ck S
    · have fin := hR N (f1.yq.trans (fun k i x y => hN k i (by omega) (fun e => (y e).2.2.1))) (hN.rc f2)
      rw [← he] at fin
      have hnone := wmx_none f c
      have c0 : wmxi f c ≠ -1 → (ck S : Int) ≠ 0 := fun q z => by
        have : c = 0 := by rw [he, show ck S = 0 by omega, Nat.mul_zero]
        subst this
        exact q rfl
      generalize wmxi f c = b at *
      generalize wmxv f c = w at *
      have ed : 0 ≤ b → b.tdiv (qn S 1) = b / ck S := fun q => by rw [← hck]; exact Int.tdiv_eq_ediv_of_nonneg q
      have em : 0 ≤ b → b.tmod (qn S 1) = b % ck S := fun q => by rw [← hck]; exact Int.tmod_eq_emod_of_nonneg q
      have cc : ((c : Nat) : Int) = qn S 0 * qn S 1 := by rw [he, hpI]
      by_cases hb : b = -1
      · have ew := hnone hb
        subst hb
        rw [if_pos rfl, if_pos rfl, ew] at fin
        have fin : F (.inl (-1)) N := by
          (repeat' split at fin) <;> exact fin
        rw [ew]
        simp only [↓rX8_carryOf_25, ↓rX8_carryOf_26, ↓rX8_carryOf_29, ↓rX8_carryOf_30, ↓rX8_carryOf_33, ↓rX8_carryOf_34, ↓rX8_carryOf_111, ↓rX8_carryOf_113, ↓rX8_carryOf_114, ↓rX8_carryOf_117, ↓rX8_carryOf_118, ↓rX8_carryOf_152, ↓hg_fX8_127_46, ↓hg_fX8_131_46, ↓reduceIte, zkeep_n, zkeep_i, zkeep_r, zkeep_l, zup_eq, zIR, zLR, List.length_cons, List.length_nil, Nat.reduceAdd, Nat.reduceLeDiff, Nat.reduceEqDiff, Nat.reduceSub, Int.reduceLE, Int.reduceLT, Int.reduceEq, Int.reduceNe, Int.reduceNeg, Int.reduceAdd, Int.reduceSub, Int.reduceMul, Int.reduceToNat, Nat.le_refl, Nat.zero_le, Nat.zero_add, Int.zero_add, Int.add_zero, and_true, true_and, and_false, false_and, not_true_eq_false, not_false_eq_true, eq_self, ne_eq, true_implies, false_implies, implies_true, or_true, true_or, or_false, false_or, reduceCtorEq, Option.some.injEq, Sum.inl.injEq, exists_eq_left', exists_eq_left, n2, n5, zite]
        rw [← cc]
        repeat' (first | with_reducible apply And.intro | with_reducible intro _)
        all_goals first | omega | (exact fin)
      · rw [if_neg hb, if_neg hb] at fin
        have ed := ed (by omega)
        have em := em (by omega)
        have c0 := c0 hb
        simp only [↓rX8_carryOf_25, ↓rX8_carryOf_26, ↓rX8_carryOf_29, ↓rX8_carryOf_30, ↓rX8_carryOf_33, ↓rX8_carryOf_34, ↓rX8_carryOf_111, ↓rX8_carryOf_113, ↓rX8_carryOf_114, ↓rX8_carryOf_117, ↓rX8_carryOf_118, ↓rX8_carryOf_152, ↓rX8_carryOf_121, ↓rX8_carryOf_122, ↓rX8_carryOf_125, ↓rX8_carryOf_127, ↓rX8_carryOf_128, ↓rX8_carryOf_131, ↓rX8_carryOf_132, ↓rX8_carryOf_135, ↓rX8_carryOf_136, ↓rX8_carryOf_137, ↓rX8_carryOf_140, ↓rX8_carryOf_142, ↓rX8_carryOf_143, ↓rX8_carryOf_146, ↓rX8_carryOf_147, ↓rX8_carryOf_150, ↓hg_fX8_127_46, ↓hg_fX8_131_46, ↓reduceIte, zkeep_n, zkeep_i, zkeep_r, zkeep_l, zup_eq, zIR, zLR, List.length_cons, List.length_nil, Nat.reduceAdd, Nat.reduceLeDiff, Nat.reduceEqDiff, Nat.reduceSub, Int.reduceLE, Int.reduceLT, Int.reduceEq, Int.reduceNe, Int.reduceNeg, Int.reduceAdd, Int.reduceSub, Int.reduceMul, Int.reduceToNat, Nat.le_refl, Nat.zero_le, Nat.zero_add, Int.zero_add, Int.add_zero, and_true, true_and, and_false, false_and, not_true_eq_false, not_false_eq_true, eq_self, ne_eq, true_implies, false_implies, implies_true, or_true, true_or, or_false, false_or, reduceCtorEq, Option.some.injEq, Sum.inl.injEq, exists_eq_left', exists_eq_left, n2, n5, ed, em, zite]
        rw [← cc]
        repeat' (first | with_reducible apply And.intro | with_reducible intro _)
        all_goals first | omega | (rw [if_pos (by omega)] at fin; exact fin) | (rw [if_neg (by omega), if_pos (by omega)] at fin; exact fin) | (rw [if_neg (by omega), if_neg (by omega)] at fin; exact fin)
    · have hcp : 0 < ck S := by
        rcases Nat.eq_zero_or_pos (ck S) with z | z
        · rw [z, Nat.mul_zero] at hc he
          omega
        · exact z
      have ha : c / ck S < qk S := (Nat.div_lt_iff_lt_mul hcp).mpr (by omega)
      have hb : c % ck S < ck S := Nat.mod_lt _ hcp
      have ed : (c : Int).tdiv (qn S 1) = ((c / ck S : Nat) : Int) := by rw [← hck, Int.tdiv_eq_ediv_of_nonneg (by omega), Int.natCast_ediv]
      have em : (c : Int).tmod (qn S 1) = ((c % ck S : Nat) : Int) := by rw [← hck, Int.tmod_eq_emod_of_nonneg (by omega), Int.natCast_emod]
      have hfc := hfs c
      generalize c / ck S = a at *
      generalize c % ck S = d at *
      have hlt : (c : Int) < qn S 0 * qn S 1 := by rw [← hpI]; omega
      have hN2 : YS M1 (zup (zup (zup N 56 (S 3 0) T) 57 (S 3 0) a) 58 (S 3 0) d) := hN.trans (fun k i x y => by simp only [zup_ne (show k ≠ 56 by omega), zup_ne (show k ≠ 57 by omega), zup_ne (show k ≠ 58 by omega)])
      have hI2 : ∀ f : Int, f < nf S → zup (zup (zup N 56 (S 3 0) T) 57 (S 3 0) a) 58 (S 3 0) d 56 f = M1 56 f ∧ zup (zup (zup N 56 (S 3 0) T) 57 (S 3 0) a) 58 (S 3 0) d 57 f = M1 57 f ∧ zup (zup (zup N 56 (S 3 0) T) 57 (S 3 0) a) 58 (S 3 0) d 58 f = M1 58 f := fun f hf => by
        simp only [zup_eq, Nat.reduceEqDiff, false_and, true_and, if_false]
        rw [if_neg (by omega), if_neg (by omega), if_neg (by omega)]
        exact hI f hf
      have hC2 : CF S (zup (zup (zup N 56 (S 3 0) T) 57 (S 3 0) a) 58 (S 3 0) d) (gadd (gt S) (nf S) T a d) (nf S + 1) (so0 S) (fst S) := by
        refine CF_add (M := zup M1 46 12 (nf S)) (CF_fr hCT (fun k i z => ?_)) (by omega) (by omega) (by omega) (by omega) ?_ ?_ ?_ (fun k i z => ?_) (fun f hf => ?_) ?_
        · rcases z with ⟨rfl, z⟩ | z | z
          · rcases z with rfl | rfl | rfl
            · rw [zup_in, if_neg (by decide)]
            · rw [zup_in, if_neg (by decide)]
            · rw [zup_in, if_pos rfl, hCT.2.2.2.2.1]
          · rw [zup_ne (by omega)]
          · rw [zup_ne (by omega)]
        · rw [zup_in, if_neg (by decide)]
          exact hN2 _ _ (by decide) (by decide)
        · rw [zup_in, if_neg (by decide)]
          exact hN2 _ _ (by decide) (by decide)
        · rw [zup_ne (by decide), zup_ne (by decide), zup_ne (by decide), h12, hnf]
        · rw [zup_ne (show k ≠ 46 by omega)]
          exact hN2 k i (by omega) (fun e => by omega)
        · have := hI2 f hf
          rw [zup_ne (show 56 ≠ 46 by decide), zup_ne (show 57 ≠ 46 by decide), zup_ne (show 58 ≠ 46 by decide)]
          exact this
        · rw [hnf]
          simp [zup_eq]
      have hkk : ∀ f : Nat, f < nf S + 1 → knt 0 f = kall f := fun f hf => knt_0d ⟨f, by omega⟩
      have hg3 : ∀ f : Nat, f < nf S + 1 → 0 ≤ gadd (gt S) (nf S) T a d 3 f := fun f hf => ((hC2.2.2.2.2.2.2 f hf).2.2).2.1
      have c3 := hCT.2.2.1
      have call : zcn (zv 8 tX8_runs) [.inr (.inr 46)] (zup (zup (zup N 56 (S 3 0) T) 57 (S 3 0) a) 58 (S 3 0) d) (fun N' => uX8_carryOf (fun r M' => ∃ v, r = some v ∧ F v M') 64 [some (.inr (.inr 46)), some (.inl (T : Int)), some (.inl qu), some (.inl wh), some (.inl (wmxi f c)), some (.inl (wmxv f c)), some (.inl (c : Int)), x7] [] N') := by
        refine zcnv rfl (s_runs hqr hC2 (nt := 0) ((hN2 _ _ (by decide) (by decide)).trans f4) (fun N' q1 q2 => ⟨rfl, ?_⟩))
        have hH : HV S N' (wG S (gadd (gt S) (nf S) T a d) (nf S + 1) kall (so0 S) (fst S)) := HV_cg (V := wG S (gadd (gt S) (nf S) T a d) (nf S + 1) (knt 0) (so0 S) (fst S)) q2 (fun k x y t ht => wseg_kp hkk _)
        have hV : VR S (wG S (gadd (gt S) (nf S) T a d) (nf S + 1) kall (so0 S) (fst S)) := fun k x y t ht => vokb_wG hqr (fun q q0 q1 => ((c3 k x y).2 q q0 q1).2) hg3 (by omega) ht
        have m2 : N' 46 2 = qn S 0 := (q1 _ _ (by decide)).trans ((hN2 _ _ (by decide) (by decide)).trans f2.1)
        simp only [↓rX8_carryOf_64, ↓rX8_carryOf_65, ↓rX8_carryOf_67, ↓rX8_carryOf_68, ↓reduceIte, zkeep_n, zkeep_i, zkeep_r, zkeep_l, zup_eq, zIR, zLR, List.length_cons, List.length_nil, Nat.reduceAdd, Nat.reduceLeDiff, Nat.reduceEqDiff, Nat.reduceSub, Int.reduceLE, Int.reduceLT, Int.reduceEq, Int.reduceNe, Int.reduceNeg, Int.reduceAdd, Int.reduceSub, Int.reduceMul, Int.reduceToNat, Nat.le_refl, Nat.zero_le, Nat.zero_add, Int.zero_add, Int.add_zero, and_true, true_and, and_false, false_and, not_true_eq_false, not_false_eq_true, eq_self, ne_eq, true_implies, false_implies, implies_true, or_true, true_or, or_false, false_or, reduceCtorEq, Option.some.injEq, Sum.inl.injEq, exists_eq_left', exists_eq_left, zite]
        refine s_ayesNow hH hV m2 hk.1 (by decide) hg.2.1 ?_
        have ef : wct (fun m : Nat => decide (5 ≤ wG S (gadd (gt S) (nf S) T a d) (nf S + 1) kall (so0 S) (fst S) m (19 : Int).toNat qu)) (qk S) = f c := by
          have hm : ∀ m : Nat, wG S (gadd (gt S) (nf S) T a d) (nf S + 1) kall (so0 S) (fst S) m (19 : Int).toNat = if (a : Int) = m then wcar S m d T else wV S m 19 := fun m => wG_te (by omega) (by omega)
          rw [wct_upd (p := pay S 19 qu) (w := a) (fun j hj => ?_) (qk S), if_pos ha, hfc]
          · unfold wcs
            have e1 : (decide (5 ≤ wG S (gadd (gt S) (nf S) T a d) (nf S + 1) kall (so0 S) (fst S) a (19 : Int).toNat qu) = true) ↔ 5 ≤ wcar S a d T qu := by rw [hm, if_pos rfl, decide_eq_true_eq]
            by_cases c5 : 5 ≤ wcar S a d T qu
            · rw [if_pos (e1.mpr c5), if_pos c5]
              omega
            · rw [if_neg (fun z => c5 (e1.mp z)), if_neg c5]
              omega
          · rw [hm, if_neg (by omega)]
            rfl
        rw [ef]
        have fc := hfB c
        have f0 : 0 ≤ f c := by rw [← ef]; exact (wct_R _ _).1
        have hYS : YS M1 N' := hN2.trans (fun k i x y => q1 k i (by omega))
        have nx := fun x7 => ih (c + 1, N') ⟨by simp only; omega, hYS, (q1 _ _ (by decide)).trans (by rw [zup_ne (by decide), zup_ne (by decide), zup_ne (by decide)]; exact h12), fun f hf => by
          show N' 56 f = _ ∧ N' 57 f = _ ∧ N' 58 f = _
          rw [q1 56 _ (by decide), q1 57 _ (by decide), q1 58 _ (by decide)]
          exact hI2 f hf⟩ (by simp only; omega) x7
        simp only [wmxi_s, wmxv_s] at nx
        have yes : wmxv f c < f c → uX8_carryOf (fun r M' => ∃ v, r = some v ∧ F v M') 23 [some (.inr (.inr 46)), some (.inl (T : Int)), some (.inl qu), some (.inl wh), some (.inl (c : Int)), some (.inl (f c)), some (.inl ((c : Int) + 1)), some (.inl (f c))] [] N' := fun q => by
          have := nx (some (.inl (f c)))
          rw [if_pos q, if_pos q] at this
          exact this
        have no : ¬ wmxv f c < f c → uX8_carryOf (fun r M' => ∃ v, r = some v ∧ F v M') 23 [some (.inr (.inr 46)), some (.inl (T : Int)), some (.inl qu), some (.inl wh), some (.inl (wmxi f c)), some (.inl (wmxv f c)), some (.inl ((c : Int) + 1)), some (.inl (f c))] [] N' := fun q => by
          have := nx (some (.inl (f c)))
          rw [if_neg q, if_neg q] at this
          exact this
        simp only [↓rX8_carryOf_71, ↓rX8_carryOf_73, ↓rX8_carryOf_75, ↓rX8_carryOf_77, ↓rX8_carryOf_80, ↓rX8_carryOf_82, ↓rX8_carryOf_87, ↓rX8_carryOf_89, ↓rX8_carryOf_91, ↓rX8_carryOf_93, ↓rX8_carryOf_96, ↓rX8_carryOf_98, ↓rX8_carryOf_103, ↓rX8_carryOf_105, ↓rX8_carryOf_108, ↓rX8_carryOf_101, ↓rX8_carryOf_85, ↓reduceIte, zkeep_n, zkeep_i, zkeep_r, zkeep_l, zup_eq, zIR, zLR, List.length_cons, List.length_nil, Nat.reduceAdd, Nat.reduceLeDiff, Nat.reduceEqDiff, Nat.reduceSub, Int.reduceLE, Int.reduceLT, Int.reduceEq, Int.reduceNe, Int.reduceNeg, Int.reduceAdd, Int.reduceSub, Int.reduceMul, Int.reduceToNat, Nat.le_refl, Nat.zero_le, Nat.zero_add, Int.zero_add, Int.add_zero, and_true, true_and, and_false, false_and, not_true_eq_false, not_false_eq_true, eq_self, ne_eq, true_implies, false_implies, implies_true, or_true, true_or, or_false, false_or, reduceCtorEq, Option.some.injEq, Sum.inl.injEq, exists_eq_left', exists_eq_left, zite]
        repeat' (first | with_reducible apply And.intro | with_reducible intro _)
        all_goals first | omega | (exact yes (by omega)) | (exact no (by omega))
      have hkR : ((qk S * ck S : Nat) : Int) ≤ 64 := by omega
      rw [hpI] at hkR
      have hkR0 : 0 ≤ qn S 0 * qn S 1 := by rw [← hpI]; omega
      simp only [↓rX8_carryOf_25, ↓rX8_carryOf_26, ↓rX8_carryOf_29, ↓rX8_carryOf_30, ↓rX8_carryOf_33, ↓rX8_carryOf_34, ↓rX8_carryOf_37, ↓rX8_carryOf_38, ↓rX8_carryOf_39, ↓rX8_carryOf_42, ↓rX8_carryOf_43, ↓rX8_carryOf_45, ↓rX8_carryOf_46, ↓rX8_carryOf_49, ↓rX8_carryOf_50, ↓rX8_carryOf_52, ↓rX8_carryOf_53, ↓rX8_carryOf_56, ↓rX8_carryOf_57, ↓rX8_carryOf_60, ↓rX8_carryOf_61, ↓hg_fX8_127_46, ↓hg_fX8_131_46, ↓hg_fX8_166_46, ↓reduceIte, ↓i_more, zkeep_n, zkeep_i, zkeep_r, zkeep_l, zIR, zLR, List.length_cons, List.length_nil, Nat.reduceAdd, Nat.reduceLeDiff, Nat.reduceEqDiff, Nat.reduceSub, Int.reduceLE, Int.reduceLT, Int.reduceEq, Int.reduceNe, Int.reduceNeg, Int.reduceAdd, Int.reduceSub, Int.reduceMul, Int.reduceToNat, Nat.le_refl, Nat.zero_le, Nat.zero_add, Int.zero_add, Int.add_zero, and_true, true_and, and_false, false_and, not_true_eq_false, not_false_eq_true, eq_self, ne_eq, true_implies, false_implies, implies_true, or_true, true_or, or_false, false_or, reduceCtorEq, Option.some.injEq, Sum.inl.injEq, exists_eq_left', exists_eq_left, n2, n5, n8, ed, em, zup_ne, zite]
      repeat' (first | with_reducible apply And.intro | with_reducible intro _)
      all_goals first | omega | (exact call)
  have st := fun x7 => L (0, zup M1 46 12 (S 3 0 + 1)) ⟨Nat.zero_le _, fun k i a b => by show zup M1 46 12 (S 3 0 + 1) k i = _; rw [zup_eq, if_neg (fun z => b z.1 z.2)], by simp [zup_eq], fun f hf => by simp only [zup_ne (show 56 ≠ 46 by decide), zup_ne (show 57 ≠ 46 by decide), zup_ne (show 58 ≠ 46 by decide), and_self]⟩ x7
  simp only [↓rX8_carryOf_4, ↓rX8_carryOf_5, ↓rX8_carryOf_7, ↓rX8_carryOf_8, ↓rX8_carryOf_10, ↓rX8_carryOf_11, ↓rX8_carryOf_12, ↓rX8_carryOf_15, ↓rX8_carryOf_16, ↓rX8_carryOf_17, ↓rX8_carryOf_20, ↓rX8_carryOf_21, ↓hg_fX8_166_46, ↓hp_fX8_178_46, ↓reduceIte, zkeep_n, zkeep_i, zkeep_r, zkeep_l, zIR, zLR, List.length_cons, List.length_nil, Nat.reduceAdd, Nat.reduceLeDiff, Nat.reduceEqDiff, Nat.reduceSub, Int.reduceLE, Int.reduceLT, Int.reduceEq, Int.reduceNe, Int.reduceNeg, Int.reduceAdd, Int.reduceSub, Int.reduceMul, Int.reduceToNat, Nat.le_refl, Nat.zero_le, Nat.zero_add, Int.zero_add, Int.add_zero, and_true, true_and, and_false, false_and, not_true_eq_false, not_false_eq_true, eq_self, ne_eq, true_implies, false_implies, implies_true, or_true, true_or, or_false, false_or, reduceCtorEq, Option.some.injEq, Sum.inl.injEq, exists_eq_left', exists_eq_left, e8, zite]
  exact st _
set_option maxRecDepth 100000 in
set_option maxHeartbeats 4000000 in
theorem y_carry {S M : zM} {R : zP} {te qu wh : Int} (hW : WX S) (h : RM S M) (z1 : zIR te) (z2 : zIR qu) (z4 : zIR wh) (hR : ∀ M', YQ M M' → R (some (.inl (aCarry S te qu wh))) M') : tX8_carry [.inr (.inr 46), .inl te, .inl qu, .inl wh] M R := by
  unfold zIR at z1 z2 z4
  have bad : ¬ ((0 ≤ te ∧ te < 20) ∧ (0 ≤ qu ∧ qu < 4) ∧ (0 ≤ wh ∧ wh < 3)) → R (some (.inl (-2))) M := fun hb => by
    have := hR M YQ.rfl
    unfold aCarry at this
    rw [if_neg hb] at this
    exact this
  have go : ((0 ≤ te ∧ te < 20) ∧ (0 ≤ qu ∧ qu < 4) ∧ (0 ≤ wh ∧ wh < 3)) → zcv (zv 8 tX8_carryOf) [.inr (.inr 46), .inl te, .inl qu, .inl wh] M (fun v M' => uX8_carry R 30 [some (.inr (.inr 46)), some (.inl te), some (.inl qu), some (.inl wh)] [v] M') := fun q => by
    refine s_carryOf hW h q (fun M2 g1 g2 => ?_)
    have fin := hR M2 g1
    simp only [↓rX8_carry_30, ↓rX8_carry_35, ↓reduceIte, zkeep_n, zkeep_i, zkeep_r, zkeep_l, zup_eq, zIR, zLR, List.length_cons, List.length_nil, Nat.reduceAdd, Nat.reduceLeDiff, Nat.reduceEqDiff, Nat.reduceSub, Int.reduceLE, Int.reduceLT, Int.reduceEq, Int.reduceNe, Int.reduceNeg, Int.reduceAdd, Int.reduceSub, Int.reduceMul, Int.reduceToNat, Nat.le_refl, Nat.zero_le, Nat.zero_add, Int.zero_add, Int.add_zero, and_true, true_and, and_false, false_and, not_true_eq_false, not_false_eq_true, eq_self, ne_eq, true_implies, false_implies, implies_true, or_true, true_or, or_false, false_or, reduceCtorEq, Option.some.injEq, Sum.inl.injEq, exists_eq_left', exists_eq_left, zite]
    exact fin
  simp only [↓eX8_carry, ↓rX8_carry_0, ↓rX8_carry_1, ↓rX8_carry_4, ↓rX8_carry_7, ↓rX8_carry_8, ↓rX8_carry_11, ↓rX8_carry_14, ↓rX8_carry_15, ↓rX8_carry_16, ↓rX8_carry_17, ↓rX8_carry_20, ↓rX8_carry_23, ↓rX8_carry_24, ↓rX8_carry_25, ↓rX8_carry_26, ↓rX8_carry_27, ↓rX8_carry_33, ↓rX8_carry_35, ↓i_in, ↓i_isQuestion, ↓i_isTerm, ↓reduceIte, zkeep_n, zkeep_i, zkeep_r, zkeep_l, zup_eq, zIR, zLR, List.length_cons, List.length_nil, Nat.reduceAdd, Nat.reduceLeDiff, Nat.reduceEqDiff, Nat.reduceSub, Int.reduceLE, Int.reduceLT, Int.reduceEq, Int.reduceNe, Int.reduceNeg, Int.reduceAdd, Int.reduceSub, Int.reduceMul, Int.reduceToNat, Nat.le_refl, Nat.zero_le, Nat.zero_add, Int.zero_add, Int.add_zero, and_true, true_and, and_false, false_and, not_true_eq_false, not_false_eq_true, eq_self, ne_eq, true_implies, false_implies, implies_true, or_true, true_or, or_false, false_or, reduceCtorEq, Option.some.injEq, Sum.inl.injEq, exists_eq_left', exists_eq_left, zite]
  repeat' (first | with_reducible apply And.intro | with_reducible intro _)
  all_goals first | omega | (exact bad (by omega)) | (exact go (by omega))
