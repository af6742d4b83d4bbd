def HV (S M : zM) (V : Int → Nat → Int → Int) : Prop := ∀ k, 0 ≤ k → k < qn S 0 → (∀ t : Nat, t < 20 → (∀ q, 0 ≤ q → q < 4 → M 64 (32 * t + 4 * k + q) = V k t q ∧ M 65 (32 * t + 4 * k + q) = V k t (4 + q) ∧ M 66 (32 * t + 4 * k + q) = V k t (8 + q)) ∧ M 67 (8 * t + k) = V k t 12 ∧ M 68 (8 * t + k) = V k t 13) ∧ M 63 k = V k 19 13
def VR (S : zM) (V : Int → Nat → Int → Int) : Prop := ∀ k, 0 ≤ k → k < qn S 0 → ∀ t : Nat, t < 20 → vokb 800 (V k t)
theorem HV_cg {S M : zM} {V V' : Int → Nat → Int → Int} (h : HV S M V) (he : ∀ k, 0 ≤ k → k < qn S 0 → ∀ t : Nat, t < 20 → V k t = V' k t) : HV S M V' := by
  intro k a b
  obtain ⟨h1, h2⟩ := h k a b
  refine ⟨fun t ht => ?_, ?_⟩
  · rw [← he k a b t ht]
    exact h1 t ht
  · rw [← he k a b 19 (by decide)]
    exact h2
theorem HV_fr {S M M' : zM} {V : Int → Nat → Int → Int} (h : HV S M V) (hf : ∀ k i, (63 ≤ k ∧ k ≤ 68) → M' k i = M k i) : HV S M' V := by
  intro k a b
  obtain ⟨h1, h2⟩ := h k a b
  refine ⟨fun t ht => ⟨fun q q0 q1 => ?_, ?_, ?_⟩, ?_⟩
  · rw [hf 64 _ (by decide), hf 65 _ (by decide), hf 66 _ (by decide)]
    exact (h1 t ht).1 q q0 q1
  · rw [hf 67 _ (by decide)]; exact (h1 t ht).2.1
  · rw [hf 68 _ (by decide)]; exact (h1 t ht).2.2
  · rw [hf 63 _ (by decide)]; exact h2
theorem HV_at {S M : zM} {V : Int → Nat → Int → Int} (h : HV S M V) {k t q : Int} (k0 : 0 ≤ k) (k1 : k < qn S 0) (t0 : 0 ≤ t) (t1 : t < 20) (q0 : 0 ≤ q) (q1 : q < 4) : M 64 (32 * t + 4 * k + q) = V k t.toNat q ∧ M 65 (32 * t + 4 * k + q) = V k t.toNat (4 + q) ∧ M 66 (32 * t + 4 * k + q) = V k t.toNat (8 + q) := by
  have := (((h k k0 k1).1 t.toNat (by omega)).1 q q0 q1)
  rw [Int.toNat_of_nonneg t0] at this
  exact this
theorem knt_0d : ∀ f : Fin 10, knt 0 f.val = true := by decide +kernel
theorem vokb_wG {S g : zM} {n : Nat} {kp : Int → Bool} {so : Int → Int} {fi : Int → Int → Int} {k : Int} {T : Nat} (hq : QR S) (hf : ∀ q, 0 ≤ q → q < 4 → 0 ≤ fi k q ∧ fi k q ≤ 9) (hg : ∀ f : Nat, f < n → 0 ≤ g 3 f) (hn : n ≤ 10) (hT : T < 20) : vokb 800 (wG S g n kp so fi k T) := by
  have : ∀ t : Nat, vokb (40 * t) (wseg S g n kp (wby (so k)) k 0 t (wstart (so k) (fi k))) := by
    intro t
    induction t with
    | zero => exact vokb_start hf
    | succ t ih =>
      rw [wseg_s]
      exact vokb_mono (vokb_term hq (wby_R _).1 ih n hg) (by omega)
  exact vokb_mono (this (T + 1)) (by omega)
theorem told_CF {S M : zM} (hW : WX S) (h1 : RC S M) (h2 : M 46 12 = S 3 0) (h3 : ∀ i, 0 ≤ i → i < S 3 0 → M 56 i = S 4 i ∧ M 57 i = S 5 i ∧ M 58 i = S 6 i) : CF S M (gt S) (nf S) (so0 S) (fst S) := by
  obtain ⟨M0, hX⟩ := hW
  have hk := RX_qk hX
  have hF := hX.2.2.2.2.1.2.2.2.2
  have hq := hX.2.2.2.1.1
  refine ⟨h1.1, h1.2.1, fun k a b => ?_, h1.2.2.2, by rw [h2, hk.2.2.2.2.1], by omega, fun f hf => ?_⟩
  · have e := h1.2.2.1 k a b
    have r := (hq 0 (by decide)).2 k a b
    exact ⟨⟨e.1, r.1⟩, fun q q0 q1 => ⟨e.2 q q0 q1, r.2.2 (1 + q) (by omega) (by omega)⟩⟩
  · have e := h3 f (by omega) (by omega)
    have r := hF f hf
    exact ⟨⟨e.1, r.1.2⟩, ⟨e.2.1, r.2.1.2⟩, ⟨e.2.2, r.2.2.2⟩⟩
theorem wV_R {S : zM} (hW : WX S) : VR S (wV S) := by
  obtain ⟨M0, hX⟩ := hW
  intro k a b t ht
  exact vokb_mono (RX_V hX a b ht) (by decide)
set_option maxRecDepth 100000 in
set_option maxHeartbeats 4000000 in
theorem s_runsTold {S M : zM} {F : zM → Prop} (hW : WX S) (h : RM S M) (hR : ∀ M', YQ M M' → RC S M' → HV S M' (wV S) → F M') : zcn (zv 8 tX8_runsTold) [.inr (.inr 46)] M F := by
  refine zcnv rfl ?_
  have hq : QR S := by obtain ⟨M0, hX⟩ := hW; exact hX.2.2.2.1.1
  have hn8 : nf S ≤ 8 := by obtain ⟨M0, hX⟩ := hW; exact (RX_qk hX).2.2.2.2.2
  simp only [↓eX8_runsTold, ↓rX8_runsTold_0, ↓rX8_runsTold_1, ↓reduceIte, zkeep_n, zkeep_i, zkeep_r, zkeep_l, zup_eq, zIR, zLR, List.length_cons, List.length_nil, Nat.reduceAdd, Nat.reduceLeDiff, Nat.reduceEqDiff, Nat.reduceSub, Int.reduceLE, Int.reduceLT, Int.reduceEq, Int.reduceNe, Int.reduceNeg, Int.reduceAdd, Int.reduceSub, Int.reduceMul, Int.reduceToNat, Nat.le_refl, Nat.zero_le, Nat.zero_add, Int.zero_add, Int.add_zero, and_true, true_and, and_false, false_and, not_true_eq_false, not_false_eq_true, eq_self, ne_eq, true_implies, false_implies, implies_true, or_true, true_or, or_false, false_or, reduceCtorEq, Option.some.injEq, Sum.inl.injEq, exists_eq_left', exists_eq_left, zite]
  refine zcnv rfl (s_asTold hW h (fun M1 f1 f2 f3 f4 f5 => ⟨rfl, ?_⟩))
  simp only [↓rX8_runsTold_4, ↓rX8_runsTold_5, ↓reduceIte, zkeep_n, zkeep_i, zkeep_r, zkeep_l, zup_eq, zIR, zLR, List.length_cons, List.length_nil, Nat.reduceAdd, Nat.reduceLeDiff, Nat.reduceEqDiff, Nat.reduceSub, Int.reduceLE, Int.reduceLT, Int.reduceEq, Int.reduceNe, Int.reduceNeg, Int.reduceAdd, Int.reduceSub, Int.reduceMul, Int.reduceToNat, Nat.le_refl, Nat.zero_le, Nat.zero_add, Int.zero_add, Int.add_zero, and_true, true_and, and_false, false_and, not_true_eq_false, not_false_eq_true, eq_self, ne_eq, true_implies, false_implies, implies_true, or_true, true_or, or_false, false_or, reduceCtorEq, Option.some.injEq, Sum.inl.injEq, exists_eq_left', exists_eq_left, zite]
  refine zcnv rfl (s_runs hq (told_CF hW f2 f3 f5) f4 (fun M2 g1 g2 => ⟨rfl, ?_⟩))
  have fin := hR M2 (fun k i a b => (g1 k i (by omega)).trans (f1.yq k i a b)) (RC_fr f2 (g1 _ _ (by decide)) (g1 _ _ (by decide)) (fun k i a b => g1 k i (by omega))) (HV_cg g2 (fun k a b t ht => wseg_kp (fun f hf => knt_0d ⟨f, by omega⟩) _))
  simp only [↓rX8_runsTold_8, ↓reduceIte, zkeep_n, zkeep_i, zkeep_r, zkeep_l, zup_eq, zIR, zLR, List.length_cons, List.length_nil, Nat.reduceAdd, Nat.reduceLeDiff, Nat.reduceEqDiff, Nat.reduceSub, Int.reduceLE, Int.reduceLT, Int.reduceEq, Int.reduceNe, Int.reduceNeg, Int.reduceAdd, Int.reduceSub, Int.reduceMul, Int.reduceToNat, Nat.le_refl, Nat.zero_le, Nat.zero_add, Int.zero_add, Int.add_zero, and_true, true_and, and_false, false_and, not_true_eq_false, not_false_eq_true, eq_self, ne_eq, true_implies, false_implies, implies_true, or_true, true_or, or_false, false_or, reduceCtorEq, Option.some.injEq, Sum.inl.injEq, exists_eq_left', exists_eq_left, zite]
  exact fin
set_option maxHeartbeats 4000000 in
theorem i_isAye {t k q : Int} {M : zM} {f : zV → zM → Prop} : zcv (zv 8 tX8_isAye) [.inr (.inr 46), .inl t, .inl k, .inl q] M f ↔ ((0 ≤ 32 * t + 4 * k + q ∧ 32 * t + 4 * k + q < 640) ∧ zIR (M 64 (32 * t + 4 * k + q)) ∧ if M 64 (32 * t + 4 * k + q) ≤ 4 then f (.inl 0) M else f (.inl 1) M) := by
  refine Iff.trans (zcv_gv (F := fX8) (V := vX8_isAye) (cc := cX8_isAye) (nL := 4) (show zrcv _ _ from rfl)) ?_
  show tX8_isAye _ _ _ ↔ _
  simp only [↓eX8_isAye, ↓rX8_isAye_0, ↓rX8_isAye_1, ↓rX8_isAye_4, ↓rX8_isAye_6, ↓rX8_isAye_7, ↓rX8_isAye_8, ↓rX8_isAye_9, ↓rX8_isAye_10, ↓rX8_isAye_11, ↓rX8_isAye_12, ↓rX8_isAye_13, ↓rX8_isAye_14, ↓rX8_isAye_15, ↓rX8_isAye_16, ↓rX8_isAye_19, ↓rX8_isAye_20, ↓rX8_isAye_24, ↓rX8_isAye_23, ↓hg_fX8_61_46, ↓hr_47, ↓hr_48, ↓hr_49, ↓hr_50, ↓hr_51, ↓hr_52, ↓hr_53, ↓hr_54, ↓hr_55, ↓hr_56, ↓hr_57, ↓hr_58, ↓hr_59, ↓hr_60, ↓hr_61, ↓hr_62, ↓hr_63, ↓hr_64, ↓hr_65, ↓hr_66, ↓hr_67, ↓hr_68, ↓hr_69, ↓hr_70, ↓hr_71, ↓hr_72, ↓hr_73, ↓hr_74, ↓hr_75, ↓hr_76, ↓hr_77, ↓hr_78, ↓hr_79, ↓hw_47, ↓hw_48, ↓hw_49, ↓hw_50, ↓hw_51, ↓hw_52, ↓hw_53, ↓hw_54, ↓hw_55, ↓hw_56, ↓hw_57, ↓hw_58, ↓hw_59, ↓hw_60, ↓hw_61, ↓hw_62, ↓hw_63, ↓hw_64, ↓hw_65, ↓hw_66, ↓hw_67, ↓hw_68, ↓hw_69, ↓hw_70, ↓hw_71, ↓hw_72, ↓hw_73, ↓hw_74, ↓hw_75, ↓hw_76, ↓hw_77, ↓hw_78, ↓hw_79, ↓reduceIte, zkeep_n, zkeep_i, zkeep_r, zkeep_l, zup_eq, zIR, zLR, List.length_cons, List.length_nil, Nat.reduceAdd, Nat.reduceLeDiff, Nat.reduceEqDiff, Nat.reduceSub, Int.reduceLE, Int.reduceLT, Int.reduceEq, Int.reduceNe, Int.reduceNeg, Int.reduceAdd, Int.reduceSub, Int.reduceMul, Int.reduceToNat, Nat.le_refl, Nat.zero_le, Nat.zero_add, Int.zero_add, Int.add_zero, and_true, true_and, and_false, false_and, not_true_eq_false, not_false_eq_true, eq_self, ne_eq, true_implies, false_implies, implies_true, or_true, true_or, or_false, false_or, reduceCtorEq, Option.some.injEq, Sum.inl.injEq, exists_eq_left', exists_eq_left, zite]
set_option maxHeartbeats 4000000 in
theorem i_isCarried {a : Int} {M : zM} {f : zV → zM → Prop} : zcv (zv 8 tX8_isCarried) [.inr (.inr 46), .inl a] M f ↔ ((zIR (2 * a) ∧ zIR (M 46 2)) ∧ if 2 * a ≤ M 46 2 then f (.inl 0) M else f (.inl 1) M) := by
  refine Iff.trans (zcv_gv (F := fX8) (V := vX8_isCarried) (cc := cX8_isCarried) (nL := 2) (show zrcv _ _ from rfl)) ?_
  show tX8_isCarried _ _ _ ↔ _
  simp only [↓eX8_isCarried, ↓rX8_isCarried_0, ↓rX8_isCarried_1, ↓rX8_isCarried_2, ↓rX8_isCarried_3, ↓rX8_isCarried_4, ↓rX8_isCarried_7, ↓rX8_isCarried_10, ↓rX8_isCarried_11, ↓rX8_isCarried_15, ↓rX8_isCarried_14, ↓hg_fX8_127_46, ↓reduceIte, zkeep_n, zkeep_i, zkeep_r, zkeep_l, zup_eq, zIR, zLR, List.length_cons, List.length_nil, Nat.reduceAdd, Nat.reduceLeDiff, Nat.reduceEqDiff, Nat.reduceSub, Int.reduceLE, Int.reduceLT, Int.reduceEq, Int.reduceNe, Int.reduceNeg, Int.reduceAdd, Int.reduceSub, Int.reduceMul, Int.reduceToNat, Nat.le_refl, Nat.zero_le, Nat.zero_add, Int.zero_add, Int.add_zero, and_true, true_and, and_false, false_and, not_true_eq_false, not_false_eq_true, eq_self, ne_eq, true_implies, false_implies, implies_true, or_true, true_or, or_false, false_or, reduceCtorEq, Option.some.injEq, Sum.inl.injEq, exists_eq_left', exists_eq_left, zite]
set_option maxHeartbeats 4000000 in
theorem i_memberOf {k w : Int} {M : zM} {f : zV → zM → Prop} : zcv (zv 8 tX8_memberOf) [.inr (.inr 46), .inl k, .inl w] M f ↔ (zIR w ∧ if w ≠ 0 then ((0 ≤ 4 * k + w - 1 ∧ 4 * k + w - 1 < 36) ∧ f (.inl (M 50 (4 * k + w - 1))) M) else ((0 ≤ k ∧ k < 9) ∧ f (.inl (M 49 k)) M)) := by
  refine Iff.trans (zcv_gv (F := fX8) (V := vX8_memberOf) (cc := cX8_memberOf) (nL := 3) (show zrcv _ _ from rfl)) ?_
  show tX8_memberOf _ _ _ ↔ _
  simp only [↓eX8_memberOf, ↓rX8_memberOf_0, ↓rX8_memberOf_1, ↓rX8_memberOf_4, ↓rX8_memberOf_5, ↓rX8_memberOf_8, ↓rX8_memberOf_9, ↓rX8_memberOf_10, ↓rX8_memberOf_25, ↓rX8_memberOf_13, ↓rX8_memberOf_14, ↓rX8_memberOf_17, ↓rX8_memberOf_18, ↓rX8_memberOf_19, ↓rX8_memberOf_20, ↓rX8_memberOf_21, ↓rX8_memberOf_22, ↓rX8_memberOf_23, ↓rX8_memberOf_24, ↓hg_fX8_16_46, ↓hg_fX8_19_46, ↓hr_47, ↓hr_48, ↓hr_49, ↓hr_50, ↓hr_51, ↓hr_52, ↓hr_53, ↓hr_54, ↓hr_55, ↓hr_56, ↓hr_57, ↓hr_58, ↓hr_59, ↓hr_60, ↓hr_61, ↓hr_62, ↓hr_63, ↓hr_64, ↓hr_65, ↓hr_66, ↓hr_67, ↓hr_68, ↓hr_69, ↓hr_70, ↓hr_71, ↓hr_72, ↓hr_73, ↓hr_74, ↓hr_75, ↓hr_76, ↓hr_77, ↓hr_78, ↓hr_79, ↓hw_47, ↓hw_48, ↓hw_49, ↓hw_50, ↓hw_51, ↓hw_52, ↓hw_53, ↓hw_54, ↓hw_55, ↓hw_56, ↓hw_57, ↓hw_58, ↓hw_59, ↓hw_60, ↓hw_61, ↓hw_62, ↓hw_63, ↓hw_64, ↓hw_65, ↓hw_66, ↓hw_67, ↓hw_68, ↓hw_69, ↓hw_70, ↓hw_71, ↓hw_72, ↓hw_73, ↓hw_74, ↓hw_75, ↓hw_76, ↓hw_77, ↓hw_78, ↓hw_79, ↓reduceIte, zkeep_n, zkeep_i, zkeep_r, zkeep_l, zup_eq, zIR, zLR, List.length_cons, List.length_nil, Nat.reduceAdd, Nat.reduceLeDiff, Nat.reduceEqDiff, Nat.reduceSub, Int.reduceLE, Int.reduceLT, Int.reduceEq, Int.reduceNe, Int.reduceNeg, Int.reduceAdd, Int.reduceSub, Int.reduceMul, Int.reduceToNat, Nat.le_refl, Nat.zero_le, Nat.zero_add, Int.zero_add, Int.add_zero, and_true, true_and, and_false, false_and, not_true_eq_false, not_false_eq_true, eq_self, ne_eq, true_implies, false_implies, implies_true, or_true, true_or, or_false, false_or, reduceCtorEq, Option.some.injEq, Sum.inl.injEq, exists_eq_left', exists_eq_left, zite]
set_option maxHeartbeats 4000000 in
theorem i_cowOf {k w : Int} {M : zM} {f : zV → zM → Prop} : zcv (zv 8 tX8_cowOf) [.inr (.inr 46), .inl k, .inl w] M f ↔ (zIR w ∧ if w ≠ 0 then ((0 ≤ 4 * k + w - 1 ∧ 4 * k + w - 1 < 36) ∧ f (.inl (M 52 (4 * k + w - 1))) M) else ((0 ≤ k ∧ k < 9) ∧ f (.inl (M 51 k)) M)) := by
  refine Iff.trans (zcv_gv (F := fX8) (V := vX8_cowOf) (cc := cX8_cowOf) (nL := 3) (show zrcv _ _ from rfl)) ?_
  show tX8_cowOf _ _ _ ↔ _
  simp only [↓eX8_cowOf, ↓rX8_cowOf_0, ↓rX8_cowOf_1, ↓rX8_cowOf_4, ↓rX8_cowOf_5, ↓rX8_cowOf_8, ↓rX8_cowOf_9, ↓rX8_cowOf_10, ↓rX8_cowOf_25, ↓rX8_cowOf_13, ↓rX8_cowOf_14, ↓rX8_cowOf_17, ↓rX8_cowOf_18, ↓rX8_cowOf_19, ↓rX8_cowOf_20, ↓rX8_cowOf_21, ↓rX8_cowOf_22, ↓rX8_cowOf_23, ↓rX8_cowOf_24, ↓hg_fX8_22_46, ↓hg_fX8_25_46, ↓hr_47, ↓hr_48, ↓hr_49, ↓hr_50, ↓hr_51, ↓hr_52, ↓hr_53, ↓hr_54, ↓hr_55, ↓hr_56, ↓hr_57, ↓hr_58, ↓hr_59, ↓hr_60, ↓hr_61, ↓hr_62, ↓hr_63, ↓hr_64, ↓hr_65, ↓hr_66, ↓hr_67, ↓hr_68, ↓hr_69, ↓hr_70, ↓hr_71, ↓hr_72, ↓hr_73, ↓hr_74, ↓hr_75, ↓hr_76, ↓hr_77, ↓hr_78, ↓hr_79, ↓hw_47, ↓hw_48, ↓hw_49, ↓hw_50, ↓hw_51, ↓hw_52, ↓hw_53, ↓hw_54, ↓hw_55, ↓hw_56, ↓hw_57, ↓hw_58, ↓hw_59, ↓hw_60, ↓hw_61, ↓hw_62, ↓hw_63, ↓hw_64, ↓hw_65, ↓hw_66, ↓hw_67, ↓hw_68, ↓hw_69, ↓hw_70, ↓hw_71, ↓hw_72, ↓hw_73, ↓hw_74, ↓hw_75, ↓hw_76, ↓hw_77, ↓hw_78, ↓hw_79, ↓reduceIte, zkeep_n, zkeep_i, zkeep_r, zkeep_l, zup_eq, zIR, zLR, List.length_cons, List.length_nil, Nat.reduceAdd, Nat.reduceLeDiff, Nat.reduceEqDiff, Nat.reduceSub, Int.reduceLE, Int.reduceLT, Int.reduceEq, Int.reduceNe, Int.reduceNeg, Int.reduceAdd, Int.reduceSub, Int.reduceMul, Int.reduceToNat, Nat.le_refl, Nat.zero_le, Nat.zero_add, Int.zero_add, Int.add_zero, and_true, true_and, and_false, false_and, not_true_eq_false, not_false_eq_true, eq_self, ne_eq, true_implies, false_implies, implies_true, or_true, true_or, or_false, false_or, reduceCtorEq, Option.some.injEq, Sum.inl.injEq, exists_eq_left', exists_eq_left, zite]
theorem zor_z : ∀ b : Fin 1024, zor b.val 0 = b.val := by decide +kernel
theorem zor_0z {b : Int} (h0 : 0 ≤ b) (h1 : b < 1024) : zor b 0 = b := by
  have := zor_z ⟨b.toNat, by omega⟩
  simpa [Int.toNat_of_nonneg h0] using this
set_option maxRecDepth 100000 in
set_option maxHeartbeats 4000000 in
theorem s_knowsM {S M : zM} {F : zV → zM → Prop} {V : Int → Nat → Int → Int} {t k : Int} {fi : Int → Int} (hH : HV S M V) (hV : VR S V) (hq0 : qn S 0 ≤ 8) (k0 : 0 ≤ k) (k1 : k < qn S 0) (t0 : 0 ≤ t) (t1 : t < 20) (h50 : ∀ q, 0 ≤ q → q < 4 → M 50 (4 * k + q) = fi q ∧ 0 ≤ fi q ∧ fi q ≤ 9) (hy : wknb (V k t.toNat) fi = true → F (.inl 1) M) (hn : wknb (V k t.toNat) fi = false → F (.inl 0) M) : zcv (zv 8 tX8_knows) [.inr (.inr 46), .inl t, .inl k] M F := by
  refine zcvv rfl ?_
  have v := hV k k0 k1 t.toNat (by omega)
  have a0 := (HV_at hH k0 k1 t0 t1 (q := 0) (by decide) (by decide)).1
  have a1 := (HV_at hH k0 k1 t0 t1 (q := 1) (by decide) (by decide)).1
  have a2 := (HV_at hH k0 k1 t0 t1 (q := 2) (by decide) (by decide)).1
  have a3 := (HV_at hH k0 k1 t0 t1 (q := 3) (by decide) (by decide)).1
  have b0 := h50 0 (by decide) (by decide)
  have b1 := h50 1 (by decide) (by decide)
  have b2 := h50 2 (by decide) (by decide)
  have b3 := h50 3 (by decide) (by decide)
  rw [Int.add_zero] at a0 b0
  have v0 := v.1 0 (by decide) (by decide)
  have v1 := v.1 1 (by decide) (by decide)
  have v2 := v.1 2 (by decide) (by decide)
  have v3 := v.1 3 (by decide) (by decide)
  unfold wknb at hy hn
  rw [decide_eq_true_eq] at hy
  rw [decide_eq_false_iff_not] at hn
  have c0 := b0.1
  have c1 := b1.1
  have c2 := b2.1
  have c3 := b3.1
  simp only [↓eX8_knows, ↓rX8_knows_0, ↓rX8_knows_1, ↓rX8_knows_2, ↓rX8_knows_3, ↓rX8_knows_5, ↓rX8_knows_7, ↓rX8_knows_8, ↓rX8_knows_11, ↓rX8_knows_12, ↓rX8_knows_15, ↓rX8_knows_16, ↓rX8_knows_19, ↓rX8_knows_21, ↓rX8_knows_22, ↓rX8_knows_23, ↓rX8_knows_24, ↓rX8_knows_25, ↓rX8_knows_26, ↓rX8_knows_27, ↓rX8_knows_29, ↓rX8_knows_30, ↓rX8_knows_31, ↓rX8_knows_32, ↓rX8_knows_35, ↓rX8_knows_36, ↓rX8_knows_37, ↓rX8_knows_38, ↓rX8_knows_40, ↓rX8_knows_41, ↓rX8_knows_42, ↓rX8_knows_45, ↓rX8_knows_46, ↓rX8_knows_49, ↓rX8_knows_50, ↓rX8_knows_54, ↓rX8_knows_55, ↓rX8_knows_58, ↓rX8_knows_53, ↓rX8_knows_61, ↓rX8_knows_62, ↓hg_fX8_19_46, ↓hg_fX8_61_46, ↓hr_47, ↓hr_48, ↓hr_49, ↓hr_50, ↓hr_51, ↓hr_52, ↓hr_53, ↓hr_54, ↓hr_55, ↓hr_56, ↓hr_57, ↓hr_58, ↓hr_59, ↓hr_60, ↓hr_61, ↓hr_62, ↓hr_63, ↓hr_64, ↓hr_65, ↓hr_66, ↓hr_67, ↓hr_68, ↓hr_69, ↓hr_70, ↓hr_71, ↓hr_72, ↓hr_73, ↓hr_74, ↓hr_75, ↓hr_76, ↓hr_77, ↓hr_78, ↓hr_79, ↓hw_47, ↓hw_48, ↓hw_49, ↓hw_50, ↓hw_51, ↓hw_52, ↓hw_53, ↓hw_54, ↓hw_55, ↓hw_56, ↓hw_57, ↓hw_58, ↓hw_59, ↓hw_60, ↓hw_61, ↓hw_62, ↓hw_63, ↓hw_64, ↓hw_65, ↓hw_66, ↓hw_67, ↓hw_68, ↓hw_69, ↓hw_70, ↓hw_71, ↓hw_72, ↓hw_73, ↓hw_74, ↓hw_75, ↓hw_76, ↓hw_77, ↓hw_78, ↓hw_79, ↓i_far, ↓reduceIte, zkeep_n, zkeep_i, zkeep_r, zkeep_l, zup_eq, zIR, zLR, List.length_cons, List.length_nil, Nat.reduceAdd, Nat.reduceLeDiff, Nat.reduceEqDiff, Nat.reduceSub, Int.reduceLE, Int.reduceLT, Int.reduceEq, Int.reduceNe, Int.reduceNeg, Int.reduceAdd, Int.reduceSub, Int.reduceMul, Int.reduceToNat, Nat.le_refl, Nat.zero_le, Nat.zero_add, Int.zero_add, Int.add_zero, and_true, true_and, and_false, false_and, not_true_eq_false, not_false_eq_true, eq_self, ne_eq, true_implies, false_implies, implies_true, or_true, true_or, or_false, false_or, reduceCtorEq, Option.some.injEq, Sum.inl.injEq, exists_eq_left', exists_eq_left, a0, a1, a2, a3, c0, c1, c2, c3, zite]
  repeat' (first | with_reducible apply And.intro | with_reducible intro _)
  all_goals first | omega | (exact hy (by omega)) | (exact hn (by omega))
set_option maxRecDepth 100000 in
set_option maxHeartbeats 4000000 in
theorem s_ayesNow {S M : zM} {F : zV → zM → Prop} {V : Int → Nat → Int → Int} {t q : Int} (hH : HV S M V) (hV : VR S V) (e2 : M 46 2 = qn S 0) (hq0 : 0 ≤ qn S 0 ∧ qn S 0 ≤ 8) (ht : 0 ≤ t ∧ t < 20) (hq : 0 ≤ q ∧ q < 4) (hR : F (.inl (wct (fun m => decide (5 ≤ V m t.toNat q)) (qk S))) M) : zcv (zv 8 tX8_ayesNow) [.inr (.inr 46), .inl t, .inl q] M F := by
  refine zcvv rfl ?_
  have hqk : (qk S : Int) = qn S 0 := by unfold qk; omega
  generalize hp : (fun m : Nat => decide (5 ≤ V m t.toNat q)) = p at hR
  have L : ∀ s : Nat, s ≤ qk S → uX8_ayesNow (fun r M' => ∃ v, r = some v ∧ F v M') 5 [some (.inr (.inr 46)), some (.inl t), some (.inl q), some (.inl (wct p s)), some (.inl (s : Int))] [] M := by
    refine zind (fun s => qk S - s) ?_
    intro k hk ih
    refine rX8_ayesNow_5.mpr ?_
    by_cases he : k = qk S
    · subst he
      simp only [↓rX8_ayesNow_7, ↓rX8_ayesNow_8, ↓rX8_ayesNow_11, ↓rX8_ayesNow_39, ↓rX8_ayesNow_40, ↓hg_fX8_127_46, ↓reduceIte, zkeep_n, zkeep_i, zkeep_r, zkeep_l, zup_eq, zIR, zLR, List.length_cons, List.length_nil, Nat.reduceAdd, Nat.reduceLeDiff, Nat.reduceEqDiff, Nat.reduceSub, Int.reduceLE, Int.reduceLT, Int.reduceEq, Int.reduceNe, Int.reduceNeg, Int.reduceAdd, Int.reduceSub, Int.reduceMul, Int.reduceToNat, Nat.le_refl, Nat.zero_le, Nat.zero_add, Int.zero_add, Int.add_zero, and_true, true_and, and_false, false_and, not_true_eq_false, not_false_eq_true, eq_self, ne_eq, true_implies, false_implies, implies_true, or_true, true_or, or_false, false_or, reduceCtorEq, Option.some.injEq, Sum.inl.injEq, exists_eq_left', exists_eq_left, e2, zite]
      repeat' (first | with_reducible apply And.intro | with_reducible intro _)
      all_goals first | omega | (exact hR)
    · have a := (HV_at hH (k := k) (by omega) (by omega) ht.1 ht.2 hq.1 hq.2).1
      have v := (hV k (by omega) (by omega) t.toNat (by omega)).1 q (by omega) (by omega)
      have nx := ih (k + 1) (by omega) (by omega)
      have hpk : p k = decide (5 ≤ V k t.toNat q) := by rw [← hp]
      simp only [wct, hpk, decide_eq_true_eq] at nx
      simp only [↓rX8_ayesNow_7, ↓rX8_ayesNow_8, ↓rX8_ayesNow_11, ↓rX8_ayesNow_14, ↓rX8_ayesNow_15, ↓rX8_ayesNow_16, ↓rX8_ayesNow_17, ↓rX8_ayesNow_19, ↓rX8_ayesNow_20, ↓rX8_ayesNow_23, ↓rX8_ayesNow_26, ↓rX8_ayesNow_27, ↓rX8_ayesNow_31, ↓rX8_ayesNow_32, ↓rX8_ayesNow_33, ↓rX8_ayesNow_36, ↓rX8_ayesNow_30, ↓hg_fX8_127_46, ↓reduceIte, ↓i_isAye, zkeep_n, zkeep_i, zkeep_r, zkeep_l, zup_eq, zIR, zLR, List.length_cons, List.length_nil, Nat.reduceAdd, Nat.reduceLeDiff, Nat.reduceEqDiff, Nat.reduceSub, Int.reduceLE, Int.reduceLT, Int.reduceEq, Int.reduceNe, Int.reduceNeg, Int.reduceAdd, Int.reduceSub, Int.reduceMul, Int.reduceToNat, Nat.le_refl, Nat.zero_le, Nat.zero_add, Int.zero_add, Int.add_zero, and_true, true_and, and_false, false_and, not_true_eq_false, not_false_eq_true, eq_self, ne_eq, true_implies, false_implies, implies_true, or_true, true_or, or_false, false_or, reduceCtorEq, Option.some.injEq, Sum.inl.injEq, exists_eq_left', exists_eq_left, e2, a, zite]
      repeat' (first | with_reducible apply And.intro | with_reducible intro _)
      all_goals first | omega | (rw [if_pos (by omega)] at nx; exact nx) | (rw [if_neg (by omega), Int.add_zero] at nx; exact nx)
  have st := L 0 (Nat.zero_le _)
  simp only [↓eX8_ayesNow, ↓rX8_ayesNow_0, ↓rX8_ayesNow_1, ↓rX8_ayesNow_2, ↓rX8_ayesNow_3, ↓reduceIte, zkeep_n, zkeep_i, zkeep_r, zkeep_l, zup_eq, zIR, zLR, List.length_cons, List.length_nil, Nat.reduceAdd, Nat.reduceLeDiff, Nat.reduceEqDiff, Nat.reduceSub, Int.reduceLE, Int.reduceLT, Int.reduceEq, Int.reduceNe, Int.reduceNeg, Int.reduceAdd, Int.reduceSub, Int.reduceMul, Int.reduceToNat, Nat.le_refl, Nat.zero_le, Nat.zero_add, Int.zero_add, Int.add_zero, and_true, true_and, and_false, false_and, not_true_eq_false, not_false_eq_true, eq_self, ne_eq, true_implies, false_implies, implies_true, or_true, true_or, or_false, false_or, reduceCtorEq, Option.some.injEq, Sum.inl.injEq, exists_eq_left', exists_eq_left, zite]
  exact st
set_option maxRecDepth 100000 in
set_option maxHeartbeats 4000000 in
theorem s_hingesM {S M : zM} {F : zV → zM → Prop} {V : Int → Nat → Int → Int} {t q : Int} (hH : HV S M V) (hV : VR S V) (e2 : M 46 2 = qn S 0) (hq0 : 0 ≤ qn S 0 ∧ qn S 0 ≤ 8) (ht : 0 ≤ t ∧ t < 20) (hq : 0 ≤ q ∧ q < 4) (hR : F (.inl (wbs (whin (fun m => decide (5 ≤ V m t.toNat q)) (qn S 0) (qk S)) (qk S))) M) : zcv (zv 8 tX8_hinges) [.inr (.inr 46), .inl t, .inl q] M F := by
  refine zcvv rfl ?_
  have hqk : (qk S : Int) = qn S 0 := by unfold qk; omega
  simp only [↓eX8_hinges, ↓rX8_hinges_0, ↓rX8_hinges_1, ↓rX8_hinges_2, ↓rX8_hinges_3, ↓reduceIte, zkeep_n, zkeep_i, zkeep_r, zkeep_l, zup_eq, zIR, zLR, List.length_cons, List.length_nil, Nat.reduceAdd, Nat.reduceLeDiff, Nat.reduceEqDiff, Nat.reduceSub, Int.reduceLE, Int.reduceLT, Int.reduceEq, Int.reduceNe, Int.reduceNeg, Int.reduceAdd, Int.reduceSub, Int.reduceMul, Int.reduceToNat, Nat.le_refl, Nat.zero_le, Nat.zero_add, Int.zero_add, Int.add_zero, and_true, true_and, and_false, false_and, not_true_eq_false, not_false_eq_true, eq_self, ne_eq, true_implies, false_implies, implies_true, or_true, true_or, or_false, false_or, reduceCtorEq, Option.some.injEq, Sum.inl.injEq, exists_eq_left', exists_eq_left, zite]
  refine s_ayesNow hH hV e2 hq0 ht hq ?_
  generalize hp : (fun m : Nat => decide (5 ≤ V m t.toNat q)) = p at hR
  have hc := wct_R p (qk S)
  have L : ∀ s : Nat, s ≤ qk S → ∀ x6, uX8_hinges (fun r M' => ∃ v, r = some v ∧ F v M') 13 [some (.inr (.inr 46)), some (.inl t), some (.inl q), some (.inl (wct p (qk S))), some (.inl (wbs (whin p (qn S 0) (qk S)) s)), some (.inl (s : Int)), x6] [] M := by
    refine zind (fun s => qk S - s) ?_
    intro k hk ih x6
    refine rX8_hinges_13.mpr ?_
    by_cases he : k = qk S
    · subst he
      simp only [↓rX8_hinges_15, ↓rX8_hinges_16, ↓rX8_hinges_19, ↓rX8_hinges_77, ↓rX8_hinges_79, ↓hg_fX8_127_46, ↓reduceIte, zkeep_n, zkeep_i, zkeep_r, zkeep_l, zup_eq, zIR, zLR, List.length_cons, List.length_nil, Nat.reduceAdd, Nat.reduceLeDiff, Nat.reduceEqDiff, Nat.reduceSub, Int.reduceLE, Int.reduceLT, Int.reduceEq, Int.reduceNe, Int.reduceNeg, Int.reduceAdd, Int.reduceSub, Int.reduceMul, Int.reduceToNat, Nat.le_refl, Nat.zero_le, Nat.zero_add, Int.zero_add, Int.add_zero, and_true, true_and, and_false, false_and, not_true_eq_false, not_false_eq_true, eq_self, ne_eq, true_implies, false_implies, implies_true, or_true, true_or, or_false, false_or, reduceCtorEq, Option.some.injEq, Sum.inl.injEq, exists_eq_left', exists_eq_left, e2, zite]
      repeat' (first | with_reducible apply And.intro | with_reducible intro _)
      all_goals first | omega | (exact hR)
    · have a := (HV_at hH (k := k) (by omega) (by omega) ht.1 ht.2 hq.1 hq.2).1
      have v := (hV k (by omega) (by omega) t.toNat (by omega)).1 q (by omega) (by omega)
      have nx := fun x6 => ih (k + 1) (by omega) (by omega) x6
      have hpk : p k = true ↔ 5 ≤ V k t.toNat q := by rw [← hp]; simp
      have hw := wbs_R (whin p (qn S 0) (qk S)) k
      have hw2 := two_le k (by omega)
      have z1 := zor_1 (m := k) (by omega) hw.1 hw.2
      have z0 := zor_0z hw.1 (by omega)
      have c1 : whin p (qn S 0) (qk S) k = true ↔ ¬ ((2 * wct p (qk S) ≤ qn S 0) ↔ (2 * (wct p (qk S) + if p k = true then -1 else 1) ≤ qn S 0)) := by simp [whin]
      simp only [wbs] at nx
      have yes : ∀ x6, whin p (qn S 0) (qk S) k = true → uX8_hinges (fun r M' => ∃ v, r = some v ∧ F v M') 13 [some (.inr (.inr 46)), some (.inl t), some (.inl q), some (.inl (wct p (qk S))), some (.inl (wbs (whin p (qn S 0) (qk S)) k + 2 ^ k)), some (.inl ((k : Int) + 1)), x6] [] M := fun x6 h => by
        have := nx x6
        rw [if_pos h] at this
        exact this
      have no : ∀ x6, ¬ whin p (qn S 0) (qk S) k = true → uX8_hinges (fun r M' => ∃ v, r = some v ∧ F v M') 13 [some (.inr (.inr 46)), some (.inl t), some (.inl q), some (.inl (wct p (qk S))), some (.inl (wbs (whin p (qn S 0) (qk S)) k)), some (.inl ((k : Int) + 1)), x6] [] M := fun x6 h => by
        have := nx x6
        rw [if_neg h, Int.add_zero] at this
        exact this
      rw [c1] at yes no
      by_cases h5 : 5 ≤ V k t.toNat q
      · rw [if_pos (hpk.mpr h5)] at yes no
        have c' : ¬ V k t.toNat q ≤ 4 := by omega
        simp only [↓rX8_hinges_15, ↓rX8_hinges_16, ↓rX8_hinges_19, ↓rX8_hinges_22, ↓rX8_hinges_23, ↓rX8_hinges_24, ↓rX8_hinges_26, ↓rX8_hinges_27, ↓rX8_hinges_30, ↓rX8_hinges_33, ↓rX8_hinges_34, ↓rX8_hinges_35, ↓rX8_hinges_36, ↓rX8_hinges_42, ↓rX8_hinges_44, ↓rX8_hinges_46, ↓rX8_hinges_47, ↓rX8_hinges_49, ↓rX8_hinges_52, ↓rX8_hinges_53, ↓rX8_hinges_54, ↓rX8_hinges_57, ↓rX8_hinges_60, ↓rX8_hinges_61, ↓rX8_hinges_63, ↓rX8_hinges_64, ↓rX8_hinges_68, ↓rX8_hinges_69, ↓rX8_hinges_71, ↓rX8_hinges_74, ↓rX8_hinges_67, ↓rX8_hinges_39, ↓rX8_hinges_40, ↓rX8_hinges_41, ↓hg_fX8_127_46, ↓reduceIte, ↓i_isAye, ↓i_isCarried, zkeep_n, zkeep_i, zkeep_r, zkeep_l, zup_eq, zIR, zLR, List.length_cons, List.length_nil, Nat.reduceAdd, Nat.reduceLeDiff, Nat.reduceEqDiff, Nat.reduceSub, Int.reduceLE, Int.reduceLT, Int.reduceEq, Int.reduceNe, Int.reduceNeg, Int.reduceAdd, Int.reduceSub, Int.reduceMul, Int.reduceToNat, Nat.le_refl, Nat.zero_le, Nat.zero_add, Int.zero_add, Int.add_zero, and_true, true_and, and_false, false_and, not_true_eq_false, not_false_eq_true, eq_self, ne_eq, true_implies, false_implies, implies_true, or_true, true_or, or_false, false_or, reduceCtorEq, Option.some.injEq, Sum.inl.injEq, exists_eq_left', exists_eq_left, e2, a, c', z1, z0, zite]
        repeat' (first | with_reducible apply And.intro | with_reducible intro _)
        all_goals first | omega | (exact yes _ (by omega)) | (exact no _ (by omega))
      · rw [if_neg (fun z => h5 (hpk.mp z))] at yes no
        have c' : V k t.toNat q ≤ 4 := by omega
        simp only [↓rX8_hinges_15, ↓rX8_hinges_16, ↓rX8_hinges_19, ↓rX8_hinges_22, ↓rX8_hinges_23, ↓rX8_hinges_24, ↓rX8_hinges_26, ↓rX8_hinges_27, ↓rX8_hinges_30, ↓rX8_hinges_33, ↓rX8_hinges_34, ↓rX8_hinges_35, ↓rX8_hinges_36, ↓rX8_hinges_42, ↓rX8_hinges_44, ↓rX8_hinges_46, ↓rX8_hinges_47, ↓rX8_hinges_49, ↓rX8_hinges_52, ↓rX8_hinges_53, ↓rX8_hinges_54, ↓rX8_hinges_57, ↓rX8_hinges_60, ↓rX8_hinges_61, ↓rX8_hinges_63, ↓rX8_hinges_64, ↓rX8_hinges_68, ↓rX8_hinges_69, ↓rX8_hinges_71, ↓rX8_hinges_74, ↓rX8_hinges_67, ↓rX8_hinges_39, ↓rX8_hinges_40, ↓rX8_hinges_41, ↓hg_fX8_127_46, ↓reduceIte, ↓i_isAye, ↓i_isCarried, zkeep_n, zkeep_i, zkeep_r, zkeep_l, zup_eq, zIR, zLR, List.length_cons, List.length_nil, Nat.reduceAdd, Nat.reduceLeDiff, Nat.reduceEqDiff, Nat.reduceSub, Int.reduceLE, Int.reduceLT, Int.reduceEq, Int.reduceNe, Int.reduceNeg, Int.reduceAdd, Int.reduceSub, Int.reduceMul, Int.reduceToNat, Nat.le_refl, Nat.zero_le, Nat.zero_add, Int.zero_add, Int.add_zero, and_true, true_and, and_false, false_and, not_true_eq_false, not_false_eq_true, eq_self, ne_eq, true_implies, false_implies, implies_true, or_true, true_or, or_false, false_or, reduceCtorEq, Option.some.injEq, Sum.inl.injEq, exists_eq_left', exists_eq_left, e2, a, c', z1, z0, zite]
        repeat' (first | with_reducible apply And.intro | with_reducible intro _)
        all_goals first | omega | (exact yes _ (by omega)) | (exact no _ (by omega))
  have st := fun x6 => L 0 (Nat.zero_le _) x6
  simp only [↓rX8_hinges_6, ↓rX8_hinges_7, ↓rX8_hinges_8, ↓rX8_hinges_10, ↓rX8_hinges_11, ↓reduceIte, zkeep_n, zkeep_i, zkeep_r, zkeep_l, zup_eq, zIR, zLR, List.length_cons, List.length_nil, Nat.reduceAdd, Nat.reduceLeDiff, Nat.reduceEqDiff, Nat.reduceSub, Int.reduceLE, Int.reduceLT, Int.reduceEq, Int.reduceNe, Int.reduceNeg, Int.reduceAdd, Int.reduceSub, Int.reduceMul, Int.reduceToNat, Nat.le_refl, Nat.zero_le, Nat.zero_add, Int.zero_add, Int.add_zero, and_true, true_and, and_false, false_and, not_true_eq_false, not_false_eq_true, eq_self, ne_eq, true_implies, false_implies, implies_true, or_true, true_or, or_false, false_or, reduceCtorEq, Option.some.injEq, Sum.inl.injEq, exists_eq_left', exists_eq_left, zite]
  exact st _
set_option maxRecDepth 100000 in
set_option maxHeartbeats 4000000 in
theorem s_weanedNow {S M : zM} {F : zV → zM → Prop} {V : Int → Nat → Int → Int} {fi : Int → Int → Int} (hH : HV S M V) (hV : VR S V) (e2 : M 46 2 = qn S 0) (hq0 : 0 ≤ qn S 0 ∧ qn S 0 ≤ 8) (h50 : ∀ k, 0 ≤ k → k < qn S 0 → ∀ q, 0 ≤ q → q < 4 → M 50 (4 * k + q) = fi k q ∧ 0 ≤ fi k q ∧ fi k q ≤ 9) (hR : F (.inl (wbs (fun m => !wknb (V m 19) (fi m)) (qk S))) M) : zcv (zv 8 tX8_weanedNow) [.inr (.inr 46)] M F := by
  refine zcvv rfl ?_
  have hqk : (qk S : Int) = qn S 0 := by unfold qk; omega
  generalize hp : (fun m : Nat => !wknb (V m 19) (fi m)) = p at hR
  have L : ∀ s : Nat, s ≤ qk S → uX8_weanedNow (fun r M' => ∃ v, r = some v ∧ F v M') 4 [some (.inr (.inr 46)), some (.inl (wbs p s)), some (.inl (s : Int))] [] M := by
    refine zind (fun s => qk S - s) ?_
    intro k hk ih
    refine rX8_weanedNow_4.mpr ?_
    by_cases he : k = qk S
    · subst he
      simp only [↓rX8_weanedNow_5, ↓rX8_weanedNow_6, ↓rX8_weanedNow_9, ↓rX8_weanedNow_38, ↓rX8_weanedNow_39, ↓hg_fX8_127_46, ↓reduceIte, zkeep_n, zkeep_i, zkeep_r, zkeep_l, zup_eq, zIR, zLR, List.length_cons, List.length_nil, Nat.reduceAdd, Nat.reduceLeDiff, Nat.reduceEqDiff, Nat.reduceSub, Int.reduceLE, Int.reduceLT, Int.reduceEq, Int.reduceNe, Int.reduceNeg, Int.reduceAdd, Int.reduceSub, Int.reduceMul, Int.reduceToNat, Nat.le_refl, Nat.zero_le, Nat.zero_add, Int.zero_add, Int.add_zero, and_true, true_and, and_false, false_and, not_true_eq_false, not_false_eq_true, eq_self, ne_eq, true_implies, false_implies, implies_true, or_true, true_or, or_false, false_or, reduceCtorEq, Option.some.injEq, Sum.inl.injEq, exists_eq_left', exists_eq_left, e2, zite]
      repeat' (first | with_reducible apply And.intro | with_reducible intro _)
      all_goals first | omega | (exact hR)
    · have nx := ih (k + 1) (by omega) (by omega)
      have hpk : p k = !wknb (V k 19) (fi k) := by rw [← hp]
      have hw := wbs_R p k
      have hw2 := two_le k (by omega)
      have z1 := zor_1 (m := k) (by omega) hw.1 hw.2
      have z0 := zor_0z hw.1 (by omega)
      simp only [wbs] at nx
      have call : zcv (zv 8 tX8_knows) [.inr (.inr 46), .inl 19, .inl (k : Int)] M (fun v M' => uX8_weanedNow (fun r M' => ∃ v, r = some v ∧ F v M') 20 [some (.inr (.inr 46)), some (.inl (wbs p k)), some (.inl (k : Int))] [v, .inl (wbs p k)] M') := by
        refine s_knowsM (fi := fi k) hH hV hq0.2 (by omega) (by omega) (by decide) (by decide) (h50 k (by omega) (by omega)) (fun h => ?_) (fun h => ?_)
        · have h : wknb (V k 19) (fi k) = true := h
          rw [hpk, h, if_neg (by simp), Int.add_zero] at nx
          simp only [↓rX8_weanedNow_20, ↓rX8_weanedNow_23, ↓rX8_weanedNow_24, ↓rX8_weanedNow_30, ↓rX8_weanedNow_31, ↓rX8_weanedNow_32, ↓rX8_weanedNow_35, ↓rX8_weanedNow_27, ↓rX8_weanedNow_28, ↓rX8_weanedNow_29, ↓reduceIte, zkeep_n, zkeep_i, zkeep_r, zkeep_l, zup_eq, zIR, zLR, List.length_cons, List.length_nil, Nat.reduceAdd, Nat.reduceLeDiff, Nat.reduceEqDiff, Nat.reduceSub, Int.reduceLE, Int.reduceLT, Int.reduceEq, Int.reduceNe, Int.reduceNeg, Int.reduceAdd, Int.reduceSub, Int.reduceMul, Int.reduceToNat, Nat.le_refl, Nat.zero_le, Nat.zero_add, Int.zero_add, Int.add_zero, and_true, true_and, and_false, false_and, not_true_eq_false, not_false_eq_true, eq_self, ne_eq, true_implies, false_implies, implies_true, or_true, true_or, or_false, false_or, reduceCtorEq, Option.some.injEq, Sum.inl.injEq, exists_eq_left', exists_eq_left, z0, zite]
          exact nx
        · have h : wknb (V k 19) (fi k) = false := h
          rw [hpk, h, if_pos (by simp)] at nx
          simp only [↓rX8_weanedNow_20, ↓rX8_weanedNow_23, ↓rX8_weanedNow_24, ↓rX8_weanedNow_30, ↓rX8_weanedNow_31, ↓rX8_weanedNow_32, ↓rX8_weanedNow_35, ↓rX8_weanedNow_27, ↓rX8_weanedNow_28, ↓rX8_weanedNow_29, ↓reduceIte, zkeep_n, zkeep_i, zkeep_r, zkeep_l, zup_eq, zIR, zLR, List.length_cons, List.length_nil, Nat.reduceAdd, Nat.reduceLeDiff, Nat.reduceEqDiff, Nat.reduceSub, Int.reduceLE, Int.reduceLT, Int.reduceEq, Int.reduceNe, Int.reduceNeg, Int.reduceAdd, Int.reduceSub, Int.reduceMul, Int.reduceToNat, Nat.le_refl, Nat.zero_le, Nat.zero_add, Int.zero_add, Int.add_zero, and_true, true_and, and_false, false_and, not_true_eq_false, not_false_eq_true, eq_self, ne_eq, true_implies, false_implies, implies_true, or_true, true_or, or_false, false_or, reduceCtorEq, Option.some.injEq, Sum.inl.injEq, exists_eq_left', exists_eq_left, z1, zite]
          exact nx
      simp only [↓rX8_weanedNow_5, ↓rX8_weanedNow_6, ↓rX8_weanedNow_9, ↓rX8_weanedNow_12, ↓rX8_weanedNow_13, ↓rX8_weanedNow_14, ↓rX8_weanedNow_16, ↓rX8_weanedNow_17, ↓hg_fX8_127_46, ↓reduceIte, zkeep_n, zkeep_i, zkeep_r, zkeep_l, zup_eq, zIR, zLR, List.length_cons, List.length_nil, Nat.reduceAdd, Nat.reduceLeDiff, Nat.reduceEqDiff, Nat.reduceSub, Int.reduceLE, Int.reduceLT, Int.reduceEq, Int.reduceNe, Int.reduceNeg, Int.reduceAdd, Int.reduceSub, Int.reduceMul, Int.reduceToNat, Nat.le_refl, Nat.zero_le, Nat.zero_add, Int.zero_add, Int.add_zero, and_true, true_and, and_false, false_and, not_true_eq_false, not_false_eq_true, eq_self, ne_eq, true_implies, false_implies, implies_true, or_true, true_or, or_false, false_or, reduceCtorEq, Option.some.injEq, Sum.inl.injEq, exists_eq_left', exists_eq_left, e2, zite]
      repeat' (first | with_reducible apply And.intro | with_reducible intro _)
      all_goals first | omega | (exact call)
  have st := L 0 (Nat.zero_le _)
  simp only [↓eX8_weanedNow, ↓rX8_weanedNow_0, ↓rX8_weanedNow_1, ↓rX8_weanedNow_2, ↓rX8_weanedNow_3, ↓reduceIte, zkeep_n, zkeep_i, zkeep_r, zkeep_l, zup_eq, zIR, zLR, List.length_cons, List.length_nil, Nat.reduceAdd, Nat.reduceLeDiff, Nat.reduceEqDiff, Nat.reduceSub, Int.reduceLE, Int.reduceLT, Int.reduceEq, Int.reduceNe, Int.reduceNeg, Int.reduceAdd, Int.reduceSub, Int.reduceMul, Int.reduceToNat, Nat.le_refl, Nat.zero_le, Nat.zero_add, Int.zero_add, Int.add_zero, and_true, true_and, and_false, false_and, not_true_eq_false, not_false_eq_true, eq_self, ne_eq, true_implies, false_implies, implies_true, or_true, true_or, or_false, false_or, reduceCtorEq, Option.some.injEq, Sum.inl.injEq, exists_eq_left', exists_eq_left, zite]
  exact st
set_option maxRecDepth 100000 in
set_option maxHeartbeats 4000000 in
theorem s_sickAll {S M : zM} {F : zV → zM → Prop} {V : Int → Nat → Int → Int} (hH : HV S M V) (e2 : M 46 2 = qn S 0) (hq0 : 0 ≤ qn S 0 ∧ qn S 0 ≤ 8) (hR : F (.inl (wsum (fun m => V m 19 13) (qk S))) M) : zcv (zv 8 tX8_sickAll) [.inr (.inr 46)] M F := by
  refine zcvv rfl ?_
  have hqk : (qk S : Int) = qn S 0 := by unfold qk; omega
  have L : ∀ s : Nat, s ≤ qk S → uX8_sickAll (fun r M' => ∃ v, r = some v ∧ F v M') 4 [some (.inr (.inr 46)), some (.inl (wsum (fun m => V m 19 13) s)), some (.inl (s : Int))] [] M := by
    refine zind (fun s => qk S - s) ?_
    intro k hk ih
    refine rX8_sickAll_4.mpr ?_
    by_cases he : k = qk S
    · subst he
      simp only [↓rX8_sickAll_5, ↓rX8_sickAll_6, ↓rX8_sickAll_9, ↓rX8_sickAll_27, ↓rX8_sickAll_28, ↓hg_fX8_127_46, ↓reduceIte, zkeep_n, zkeep_i, zkeep_r, zkeep_l, zup_eq, zIR, zLR, List.length_cons, List.length_nil, Nat.reduceAdd, Nat.reduceLeDiff, Nat.reduceEqDiff, Nat.reduceSub, Int.reduceLE, Int.reduceLT, Int.reduceEq, Int.reduceNe, Int.reduceNeg, Int.reduceAdd, Int.reduceSub, Int.reduceMul, Int.reduceToNat, Nat.le_refl, Nat.zero_le, Nat.zero_add, Int.zero_add, Int.add_zero, and_true, true_and, and_false, false_and, not_true_eq_false, not_false_eq_true, eq_self, ne_eq, true_implies, false_implies, implies_true, or_true, true_or, or_false, false_or, reduceCtorEq, Option.some.injEq, Sum.inl.injEq, exists_eq_left', exists_eq_left, e2, zite]
      repeat' (first | with_reducible apply And.intro | with_reducible intro _)
      all_goals first | omega | (exact hR)
    · have nx := ih (k + 1) (by omega) (by omega)
      simp only [wsum] at nx
      have a := (hH k (by omega) (by omega)).2
      simp only [↓rX8_sickAll_5, ↓rX8_sickAll_6, ↓rX8_sickAll_9, ↓rX8_sickAll_12, ↓rX8_sickAll_13, ↓rX8_sickAll_14, ↓rX8_sickAll_17, ↓rX8_sickAll_18, ↓rX8_sickAll_19, ↓rX8_sickAll_20, ↓rX8_sickAll_21, ↓rX8_sickAll_24, ↓hg_fX8_127_46, ↓hg_fX8_58_46, ↓hr_47, ↓hr_48, ↓hr_49, ↓hr_50, ↓hr_51, ↓hr_52, ↓hr_53, ↓hr_54, ↓hr_55, ↓hr_56, ↓hr_57, ↓hr_58, ↓hr_59, ↓hr_60, ↓hr_61, ↓hr_62, ↓hr_63, ↓hr_64, ↓hr_65, ↓hr_66, ↓hr_67, ↓hr_68, ↓hr_69, ↓hr_70, ↓hr_71, ↓hr_72, ↓hr_73, ↓hr_74, ↓hr_75, ↓hr_76, ↓hr_77, ↓hr_78, ↓hr_79, ↓hw_47, ↓hw_48, ↓hw_49, ↓hw_50, ↓hw_51, ↓hw_52, ↓hw_53, ↓hw_54, ↓hw_55, ↓hw_56, ↓hw_57, ↓hw_58, ↓hw_59, ↓hw_60, ↓hw_61, ↓hw_62, ↓hw_63, ↓hw_64, ↓hw_65, ↓hw_66, ↓hw_67, ↓hw_68, ↓hw_69, ↓hw_70, ↓hw_71, ↓hw_72, ↓hw_73, ↓hw_74, ↓hw_75, ↓hw_76, ↓hw_77, ↓hw_78, ↓hw_79, ↓reduceIte, zkeep_n, zkeep_i, zkeep_r, zkeep_l, zup_eq, zIR, zLR, List.length_cons, List.length_nil, Nat.reduceAdd, Nat.reduceLeDiff, Nat.reduceEqDiff, Nat.reduceSub, Int.reduceLE, Int.reduceLT, Int.reduceEq, Int.reduceNe, Int.reduceNeg, Int.reduceAdd, Int.reduceSub, Int.reduceMul, Int.reduceToNat, Nat.le_refl, Nat.zero_le, Nat.zero_add, Int.zero_add, Int.add_zero, and_true, true_and, and_false, false_and, not_true_eq_false, not_false_eq_true, eq_self, ne_eq, true_implies, false_implies, implies_true, or_true, true_or, or_false, false_or, reduceCtorEq, Option.some.injEq, Sum.inl.injEq, exists_eq_left', exists_eq_left, e2, a, zite]
      repeat' (first | with_reducible apply And.intro | with_reducible intro _)
      all_goals first | omega | (exact nx)
  have st := L 0 (Nat.zero_le _)
  simp only [↓eX8_sickAll, ↓rX8_sickAll_0, ↓rX8_sickAll_1, ↓rX8_sickAll_2, ↓rX8_sickAll_3, ↓reduceIte, zkeep_n, zkeep_i, zkeep_r, zkeep_l, zup_eq, zIR, zLR, List.length_cons, List.length_nil, Nat.reduceAdd, Nat.reduceLeDiff, Nat.reduceEqDiff, Nat.reduceSub, Int.reduceLE, Int.reduceLT, Int.reduceEq, Int.reduceNe, Int.reduceNeg, Int.reduceAdd, Int.reduceSub, Int.reduceMul, Int.reduceToNat, Nat.le_refl, Nat.zero_le, Nat.zero_add, Int.zero_add, Int.add_zero, and_true, true_and, and_false, false_and, not_true_eq_false, not_false_eq_true, eq_self, ne_eq, true_implies, false_implies, implies_true, or_true, true_or, or_false, false_or, reduceCtorEq, Option.some.injEq, Sum.inl.injEq, exists_eq_left', exists_eq_left, zite]
  exact st
