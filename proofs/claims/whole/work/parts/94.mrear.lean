def gadd (g : zM) (n : Nat) (te wh co : Int) : zM := fun k f => if f = (n : Int) then (if k = 1 then te else if k = 2 then wh else co) else g k f
theorem gadd_n (g : zM) (n : Nat) (te wh co : Int) : gadd g n te wh co 1 n = te ∧ gadd g n te wh co 2 n = wh ∧ gadd g n te wh co 3 n = co := by
  unfold gadd
  simp
theorem gadd_ne (g : zM) {n : Nat} (te wh co : Int) {k : Nat} {f : Int} (h : f ≠ n) : gadd g n te wh co k f = g k f := by
  unfold gadd
  rw [if_neg h]
theorem wterm_old {S g : zM} {kp : Int → Bool} {by_ m t te wh co : Int} {n : Nat} {v : Int → Int} : ∀ j : Nat, j ≤ n → wterm S (gadd g n te wh co) kp by_ m t j v = wterm S g kp by_ m t j v
  | 0, _ => rfl
  | j + 1, h => by
    have ih := wterm_old (S := S) (g := g) (kp := kp) (by_ := by_) (m := m) (t := t) (te := te) (wh := wh) (co := co) (n := n) (v := v) j (by omega)
    unfold wterm
    have e1 : ∀ k, gadd g n te wh co k j = g k j := fun k => gadd_ne g te wh co (by omega)
    rw [ih, e1]
    have e : ∀ w, wfeed S (gadd g n te wh co) kp by_ m j w = wfeed S g kp by_ m j w := fun w => by
      unfold wfeed
      rw [e1, e1]
    rw [e]
theorem wterm_new {S g : zM} {kp : Int → Bool} {by_ m t te wh co : Int} {n : Nat} {v : Int → Int} (hk : kp n = true) (hc : co < qn S 1) : wterm S (gadd g n te wh co) kp by_ m t (n + 1) v = if te = t then (if wh = m then drS S by_ co (wterm S g kp by_ m t n v) else wterm S g kp by_ m t n v) else wterm S g kp by_ m t n v := by
  have e := gadd_n g n te wh co
  conv => lhs; unfold wterm
  rw [wterm_old n (Nat.le_refl _), e.1]
  by_cases h1 : te = t
  · rw [if_pos h1, if_pos h1]
    unfold wfeed
    rw [e.2.1, e.2.2]
    by_cases h2 : wh = m
    · rw [if_pos ⟨h2, hc, hk⟩, if_pos h2]
      rfl
    · rw [if_neg (fun z => h2 z.1), if_neg h2]
  · rw [if_neg h1, if_neg h1]
theorem wseg_new {S g : zM} {kp : Int → Bool} {by_ m wh co : Int} {n te : Nat} {v : Int → Int} (hk : kp n = true) (hc : co < qn S 1) : ∀ t : Nat, (t ≤ te → wseg S (gadd g n te wh co) (n + 1) kp by_ m 0 t v = wseg S g n kp by_ m 0 t v) ∧ (te < t → wseg S (gadd g n te wh co) (n + 1) kp by_ m 0 t v = wseg S g n kp by_ m ((te + 1 : Nat) : Int) (t - te - 1) (if wh = m then drS S by_ co (wseg S g n kp by_ m 0 (te + 1) v) else wseg S g n kp by_ m 0 (te + 1) v))
  | 0 => ⟨fun _ => rfl, fun h => by omega⟩
  | t + 1 => by
    have ih := wseg_new (S := S) (g := g) (by_ := by_) (m := m) (wh := wh) (te := te) (v := v) hk hc t
    rw [wseg_s, wterm_new hk hc]
    constructor
    · intro h
      rw [if_neg (by omega), ih.1 (by omega), wseg_s]
    · intro h
      by_cases e : te = t
      · subst e
        rw [if_pos rfl, ih.1 (Nat.le_refl _), ← wseg_s, show te + 1 - te - 1 = 0 by omega]
        rfl
      · rw [if_neg (by omega), ih.2 (by omega), show t + 1 - te - 1 = (t - te - 1) + 1 by omega]
        show _ = wterm S g kp by_ m (((te + 1 : Nat) : Int) + ((t - te - 1 : Nat) : Int)) n _
        rw [show ((te + 1 : Nat) : Int) + ((t - te - 1 : Nat) : Int) = (t : Int) by omega]
theorem wG_19 {S g : zM} {kp : Int → Bool} {so : Int → Int} {fi : Int → Int → Int} {k co : Int} {n : Nat} (hk : kp n = true) (hc : co < qn S 1) : wG S (gadd g n 19 k co) (n + 1) kp so fi k 19 = drS S (wby (so k)) co (wG S g n kp so fi k 19) := by
  unfold wG
  have := (wseg_new (S := S) (g := g) (by_ := wby (so k)) (m := k) (wh := k) (te := 19) (n := n) (v := wstart (so k) (fi k)) hk hc 20).2 (by decide)
  rw [if_pos rfl] at this
  exact this
theorem CF_add {S M M' g : zM} {n : Nat} {so : Int → Int} {fi : Int → Int → Int} {te wh co : Int} (h : CF S M g n so fi) (hn : n < 10) (h1 : 0 ≤ te ∧ te < 20) (h2 : 0 ≤ wh ∧ wh < 8) (h3 : 0 ≤ co ∧ co < 8) (m2 : M' 46 2 = M 46 2) (m5 : M' 46 5 = M 46 5) (m12 : M' 46 12 = (n : Int) + 1) (hf : ∀ k i, (49 ≤ k ∧ k ≤ 52) → M' k i = M k i) (ho : ∀ f : Int, f < n → M' 56 f = M 56 f ∧ M' 57 f = M 57 f ∧ M' 58 f = M 58 f) (hw : M' 56 n = te ∧ M' 57 n = wh ∧ M' 58 n = co) : CF S M' (gadd g n te wh co) (n + 1) so fi := by
  obtain ⟨c1, c2, c3, c4, c5, c6, c7⟩ := h
  refine ⟨m2.trans c1, m5.trans c2, fun k a b => ?_, fun c a b => ?_, by rw [m12]; rfl, by omega, fun f hf2 => ?_⟩
  · have := c3 k a b
    rw [hf 49 _ (by decide)]
    refine ⟨this.1, fun q q0 q1 => ?_⟩
    rw [hf 50 _ (by decide)]
    exact this.2 q q0 q1
  · have := c4 c a b
    rw [hf 51 _ (by decide)]
    refine ⟨this.1, fun q q0 q1 => ?_⟩
    rw [hf 52 _ (by decide)]
    exact this.2 q q0 q1
  · by_cases e : f = n
    · subst e
      have e := gadd_n g f te wh co
      rw [e.1, e.2.1, e.2.2]
      exact ⟨⟨hw.1, h1⟩, ⟨hw.2.1, h2⟩, ⟨hw.2.2, h3⟩⟩
    · rw [gadd_ne g te wh co (by omega), gadd_ne g te wh co (by omega), gadd_ne g te wh co (by omega)]
      have o := ho f (by omega)
      rw [o.1, o.2.1, o.2.2]
      exact c7 f (by omega)
set_option maxHeartbeats 4000000 in
theorem i_more {i te wh co : Int} {M : zM} {f : zM → Prop} : zcn (zv 8 tX8_more) [.inr (.inr 46), .inl i, .inl te, .inl wh, .inl co] M f ↔ ((0 ≤ i ∧ i < 10) ∧ (0 ≤ i ∧ i < 10) ∧ (0 ≤ i ∧ i < 10) ∧ f (zup (zup (zup M 56 i te) 57 i wh) 58 i co)) := by
  refine Iff.trans (zcn_gv (F := fX8) (V := vX8_more) (cc := cX8_more) (nL := 5) (show zrcv _ _ from rfl)) ?_
  show tX8_more _ _ _ ↔ _
  simp only [↓eX8_more, ↓rX8_more_0, ↓rX8_more_1, ↓rX8_more_4, ↓rX8_more_5, ↓rX8_more_6, ↓rX8_more_7, ↓rX8_more_8, ↓rX8_more_11, ↓rX8_more_12, ↓rX8_more_13, ↓rX8_more_14, ↓rX8_more_15, ↓rX8_more_18, ↓rX8_more_19, ↓rX8_more_21, ↓rX8_more_22, ↓hg_fX8_37_46, ↓hg_fX8_40_46, ↓hg_fX8_43_46, ↓hr_47, ↓hr_48, ↓hr_49, ↓hr_50, ↓hr_51, ↓hr_52, ↓hr_53, ↓hr_54, ↓hr_55, ↓hr_56, ↓hr_57, ↓hr_58, ↓hr_59, ↓hr_60, ↓hr_61, ↓hr_62, ↓hr_63, ↓hr_64, ↓hr_65, ↓hr_66, ↓hr_67, ↓hr_68, ↓hr_69, ↓hr_70, ↓hr_71, ↓hr_72, ↓hr_73, ↓hr_74, ↓hr_75, ↓hr_76, ↓hr_77, ↓hr_78, ↓hr_79, ↓hw_47, ↓hw_48, ↓hw_49, ↓hw_50, ↓hw_51, ↓hw_52, ↓hw_53, ↓hw_54, ↓hw_55, ↓hw_56, ↓hw_57, ↓hw_58, ↓hw_59, ↓hw_60, ↓hw_61, ↓hw_62, ↓hw_63, ↓hw_64, ↓hw_65, ↓hw_66, ↓hw_67, ↓hw_68, ↓hw_69, ↓hw_70, ↓hw_71, ↓hw_72, ↓hw_73, ↓hw_74, ↓hw_75, ↓hw_76, ↓hw_77, ↓hw_78, ↓hw_79, ↓reduceIte, zkeep_n, zkeep_i, zkeep_r, zkeep_l, zup_eq, zIR, zLR, List.length_cons, List.length_nil, Nat.reduceAdd, Nat.reduceLeDiff, Nat.reduceEqDiff, Nat.reduceSub, Int.reduceLE, Int.reduceLT, Int.reduceEq, Int.reduceNe, Int.reduceNeg, Int.reduceAdd, Int.reduceSub, Int.reduceMul, Int.reduceToNat, Nat.le_refl, Nat.zero_le, Nat.zero_add, Int.zero_add, Int.add_zero, and_true, true_and, and_false, false_and, not_true_eq_false, not_false_eq_true, eq_self, ne_eq, true_implies, false_implies, implies_true, or_true, true_or, or_false, false_or, reduceCtorEq, Option.some.injEq, Sum.inl.injEq, exists_eq_left', exists_eq_left, zite]
set_option maxHeartbeats 4000000 in
theorem i_ofRow {n i : Int} {M : zM} {f : zV → zM → Prop} : zcv (zv 8 tX8_ofRow) [.inr (.inr 46), .inl n, .inl i] M f ↔ (zIR i ∧ if i ≠ -1 then ((zIR i ∧ zIR n) ∧ if n ≤ i then f (.inl (-1)) M else ((0 ≤ i ∧ i < 2) ∧ f (.inl (M 69 i)) M)) else f (.inl n) M) := by
  refine Iff.trans (zcv_gv (F := fX8) (V := vX8_ofRow) (cc := cX8_ofRow) (nL := 3) (show zrcv _ _ from rfl)) ?_
  show tX8_ofRow _ _ _ ↔ _
  simp only [↓eX8_ofRow, ↓rX8_ofRow_0, ↓rX8_ofRow_1, ↓rX8_ofRow_2, ↓rX8_ofRow_5, ↓rX8_ofRow_6, ↓rX8_ofRow_24, ↓rX8_ofRow_9, ↓rX8_ofRow_10, ↓rX8_ofRow_11, ↓rX8_ofRow_14, ↓rX8_ofRow_15, ↓rX8_ofRow_18, ↓rX8_ofRow_19, ↓rX8_ofRow_20, ↓rX8_ofRow_23, ↓hg_fX8_76_46, ↓hr_47, ↓hr_48, ↓hr_49, ↓hr_50, ↓hr_51, ↓hr_52, ↓hr_53, ↓hr_54, ↓hr_55, ↓hr_56, ↓hr_57, ↓hr_58, ↓hr_59, ↓hr_60, ↓hr_61, ↓hr_62, ↓hr_63, ↓hr_64, ↓hr_65, ↓hr_66, ↓hr_67, ↓hr_68, ↓hr_69, ↓hr_70, ↓hr_71, ↓hr_72, ↓hr_73, ↓hr_74, ↓hr_75, ↓hr_76, ↓hr_77, ↓hr_78, ↓hr_79, ↓hw_47, ↓hw_48, ↓hw_49, ↓hw_50, ↓hw_51, ↓hw_52, ↓hw_53, ↓hw_54, ↓hw_55, ↓hw_56, ↓hw_57, ↓hw_58, ↓hw_59, ↓hw_60, ↓hw_61, ↓hw_62, ↓hw_63, ↓hw_64, ↓hw_65, ↓hw_66, ↓hw_67, ↓hw_68, ↓hw_69, ↓hw_70, ↓hw_71, ↓hw_72, ↓hw_73, ↓hw_74, ↓hw_75, ↓hw_76, ↓hw_77, ↓hw_78, ↓hw_79, ↓reduceIte, zkeep_n, zkeep_i, zkeep_r, zkeep_l, zup_eq, zIR, zLR, List.length_cons, List.length_nil, Nat.reduceAdd, Nat.reduceLeDiff, Nat.reduceEqDiff, Nat.reduceSub, Int.reduceLE, Int.reduceLT, Int.reduceEq, Int.reduceNe, Int.reduceNeg, Int.reduceAdd, Int.reduceSub, Int.reduceMul, Int.reduceToNat, Nat.le_refl, Nat.zero_le, Nat.zero_add, Int.zero_add, Int.add_zero, and_true, true_and, and_false, false_and, not_true_eq_false, not_false_eq_true, eq_self, ne_eq, true_implies, false_implies, implies_true, or_true, true_or, or_false, false_or, reduceCtorEq, Option.some.injEq, Sum.inl.injEq, exists_eq_left', exists_eq_left, zite]
def YS (M M' : zM) : Prop := ∀ k i, ¬ (56 ≤ k ∧ k ≤ 69) → (k = 46 → i ≠ 12) → M' k i = M k i
theorem YS.trans {M M' M'' : zM} (h : YS M M') (h2 : YS M' M'') : YS M M'' := fun k i a b => (h2 k i a b).trans (h k i a b)
theorem YS.rfl {M : zM} : YS M M := fun _ _ _ _ => Eq.refl _
theorem YS.rc {S M M' : zM} (h : YS M M') (hr : RC S M) : RC S M' := RC_fr hr (h _ _ (by decide) (by decide)) (h _ _ (by decide) (by decide)) (fun k i a b => h k i (by omega) (fun e => by omega))
set_option maxRecDepth 100000 in
set_option maxHeartbeats 4000000 in
theorem s_isReared {S M g : zM} {F : zV → zM → Prop} {n : Nat} {d k q s : Int} (hW : WX S) (e8 : M 46 8 = S 3 0) (h16 : M 46 16 = 0) (hd : S 3 0 + d = n) (hC : CF S (zup M 46 12 n) g n (so0 S) (fst S)) (hk : 0 ≤ k ∧ k < qn S 0) (hq : 0 ≤ q ∧ q < 4) (hs : 0 ≤ s ∧ s < 10)
    (hy : wspk (wG S g n kall (so0 S) (fst S) k 19) q s → ∀ M', (∀ k i, ¬ (59 ≤ k ∧ k ≤ 68) → (k = 46 → i ≠ 12) → M' k i = M k i) → F (.inl 1) M') (hn : ¬ wspk (wG S g n kall (so0 S) (fst S) k 19) q s → ∀ M', (∀ k i, ¬ (59 ≤ k ∧ k ≤ 68) → (k = 46 → i ≠ 12) → M' k i = M k i) → F (.inl 0) M') : zcv (zv 8 tX8_isReared) [.inr (.inr 46), .inl d, .inl k, .inl q, .inl s] M F := by
  refine zcvv rfl ?_
  have hkk := W_k hW
  have hqr : QR S := by obtain ⟨M0, hX⟩ := hW; exact hX.2.2.2.1.1
  have c6 := hC.2.2.2.2.2.1
  have c7 := hC.2.2.2.2.2.2
  have c3 := hC.2.2.1
  simp only [↓eX8_isReared, ↓rX8_isReared_0, ↓rX8_isReared_1, ↓rX8_isReared_2, ↓rX8_isReared_5, ↓rX8_isReared_6, ↓rX8_isReared_7, ↓rX8_isReared_10, ↓rX8_isReared_11, ↓hg_fX8_166_46, ↓hp_fX8_178_46, ↓reduceIte, zkeep_n, zkeep_i, zkeep_r, zkeep_l, zIR, zLR, List.length_cons, List.length_nil, Nat.reduceAdd, Nat.reduceLeDiff, Nat.reduceEqDiff, Nat.reduceSub, Int.reduceLE, Int.reduceLT, Int.reduceEq, Int.reduceNe, Int.reduceNeg, Int.reduceAdd, Int.reduceSub, Int.reduceMul, Int.reduceToNat, Nat.le_refl, Nat.zero_le, Nat.zero_add, Int.zero_add, Int.add_zero, and_true, true_and, and_false, false_and, not_true_eq_false, not_false_eq_true, eq_self, ne_eq, true_implies, false_implies, implies_true, or_true, true_or, or_false, false_or, reduceCtorEq, Option.some.injEq, Sum.inl.injEq, exists_eq_left', exists_eq_left, e8, hd, zite]
  refine zcnv rfl (s_runs hqr hC (nt := 0) (by rw [zup_in, if_neg (by decide)]; exact h16) (fun M1 f1 f2 => ⟨rfl, ?_⟩))
  have hG : ∀ T, wG S g n (knt 0) (so0 S) (fst S) k T = wG S g n kall (so0 S) (fst S) k T := fun T => wseg_kp (fun f hf => knt_0d ⟨f, by omega⟩) _
  have ha := HV_at (V := wG S g n (knt 0) (so0 S) (fst S)) f2 hk.1 hk.2 (t := 19) (by decide) (by decide) hq.1 hq.2
  have a2 : M1 65 (608 + 4 * k + q) = wG S g n kall (so0 S) (fst S) k 19 (4 + q) := by rw [← hG]; exact ha.2.1
  have a3 : M1 66 (608 + 4 * k + q) = wG S g n kall (so0 S) (fst S) k 19 (8 + q) := by rw [← hG]; exact ha.2.2
  have v := vokb_wG (g := g) (n := n) (kp := kall) (so := so0 S) (fi := fst S) (k := k) (T := 19) hqr (fun q q0 q1 => ((c3 k hk.1 hk.2).2 q q0 q1).2) (fun f hf => (c7 f hf).2.2.2.1) c6 (by decide)
  have v2 := v.1 (4 + q) (by omega) (by omega)
  have v3 := v.1 (8 + q) (by omega) (by omega)
  have fr : ∀ k i, ¬ (59 ≤ k ∧ k ≤ 68) → (k = 46 → i ≠ 12) → M1 k i = M k i := fun k i a b => by
    rw [f1 k i a, zup_eq, if_neg (fun z => b z.1 z.2)]
  have hy := fun z => hy z M1 fr
  have hn := fun z => hn z M1 fr
  simp only [↓rX8_isReared_14, ↓rX8_isReared_16, ↓rX8_isReared_17, ↓rX8_isReared_20, ↓rX8_isReared_23, ↓rX8_isReared_24, ↓rX8_isReared_25, ↓rX8_isReared_26, ↓rX8_isReared_27, ↓rX8_isReared_28, ↓rX8_isReared_29, ↓rX8_isReared_30, ↓rX8_isReared_31, ↓rX8_isReared_34, ↓rX8_isReared_37, ↓rX8_isReared_38, ↓rX8_isReared_39, ↓rX8_isReared_40, ↓rX8_isReared_41, ↓rX8_isReared_42, ↓rX8_isReared_43, ↓rX8_isReared_44, ↓rX8_isReared_47, ↓hg_fX8_64_46, ↓hg_fX8_67_46, ↓hr_47, ↓hr_48, ↓hr_49, ↓hr_50, ↓hr_51, ↓hr_52, ↓hr_53, ↓hr_54, ↓hr_55, ↓hr_56, ↓hr_57, ↓hr_58, ↓hr_59, ↓hr_60, ↓hr_61, ↓hr_62, ↓hr_63, ↓hr_64, ↓hr_65, ↓hr_66, ↓hr_67, ↓hr_68, ↓hr_69, ↓hr_70, ↓hr_71, ↓hr_72, ↓hr_73, ↓hr_74, ↓hr_75, ↓hr_76, ↓hr_77, ↓hr_78, ↓hr_79, ↓hw_47, ↓hw_48, ↓hw_49, ↓hw_50, ↓hw_51, ↓hw_52, ↓hw_53, ↓hw_54, ↓hw_55, ↓hw_56, ↓hw_57, ↓hw_58, ↓hw_59, ↓hw_60, ↓hw_61, ↓hw_62, ↓hw_63, ↓hw_64, ↓hw_65, ↓hw_66, ↓hw_67, ↓hw_68, ↓hw_69, ↓hw_70, ↓hw_71, ↓hw_72, ↓hw_73, ↓hw_74, ↓hw_75, ↓hw_76, ↓hw_77, ↓hw_78, ↓hw_79, ↓i_in, ↓reduceIte, zkeep_n, zkeep_i, zkeep_r, zkeep_l, zup_eq, zIR, zLR, List.length_cons, List.length_nil, Nat.reduceAdd, Nat.reduceLeDiff, Nat.reduceEqDiff, Nat.reduceSub, Int.reduceLE, Int.reduceLT, Int.reduceEq, Int.reduceNe, Int.reduceNeg, Int.reduceAdd, Int.reduceSub, Int.reduceMul, Int.reduceToNat, Nat.le_refl, Nat.zero_le, Nat.zero_add, Int.zero_add, Int.add_zero, and_true, true_and, and_false, false_and, not_true_eq_false, not_false_eq_true, eq_self, ne_eq, true_implies, false_implies, implies_true, or_true, true_or, or_false, false_or, reduceCtorEq, Option.some.injEq, Sum.inl.injEq, exists_eq_left', exists_eq_left, a2, a3, zite]
  repeat' (first | with_reducible apply And.intro | with_reducible intro _)
  all_goals first | omega | (exact hy (by omega)) | (exact hn (by omega))
theorem pl_low (p0 : Bool) (p1 : Nat → Bool) (p2 : Nat → Nat → Bool) (K : Nat) : (plN p0 p1 p2 K ≤ 0 → plA p0 p1 p2 K = -1) ∧ (plN p0 p1 p2 K ≤ 1 → plB p0 p1 p2 K = -1) := by
  unfold plN plA plB
  constructor
  · intro h
    (repeat' split at h) <;> (repeat' split) <;> first | omega | simp_all
  · intro h
    (repeat' split at h) <;> (repeat' split) <;> first | omega | simp_all
set_option maxRecDepth 100000 in
set_option maxHeartbeats 8000000 in
theorem s_rearBy {S M : zM} {F : zV → zM → Prop} {me qu s : Int} (hW : WX S) (h : RM S M) (hg : 0 ≤ me ∧ me < qn S 0) (hqu : 0 ≤ qu ∧ qu < 4) (hs : 0 ≤ s ∧ s < 10)
    (hR : ∀ M', YQ M M' → RC S M' → (1 ≤ plN (re0 S me qu s) (re1 S me qu s) (re2 S me qu s) (ck S) → M' 69 0 = plA (re0 S me qu s) (re1 S me qu s) (re2 S me qu s) (ck S)) → (2 ≤ plN (re0 S me qu s) (re1 S me qu s) (re2 S me qu s) (ck S) → M' 69 1 = plB (re0 S me qu s) (re1 S me qu s) (re2 S me qu s) (ck S)) → F (.inl (plN (re0 S me qu s) (re1 S me qu s) (re2 S me qu s) (ck S))) M') : zcv (zv 8 tX8_rearBy) [.inr (.inr 46), .inl me, .inl qu, .inl s] M F := by
  refine zcvv rfl ?_
  have hk := W_k hW
  have hck := hk.2.2.2.1
  have hnf := hk.2.2.2.2.1
  have hnf8 := hk.2.2.2.2.2.2.2
  have p0e : re0 S me qu s = true ↔ wspk (wV S me 19) qu s := by simp [re0]
  have p1e : ∀ a, re1 S me qu s a = true ↔ wspk (drS S (wbyS S me) a (wV S me 19)) qu s := fun a => by simp [re1]
  have p2e : ∀ a b, re2 S me qu s a b = true ↔ wspk (drS S (wbyS S me) b (drS S (wbyS S me) a (wV S me 19))) qu s := fun a b => by simp [re2]
  generalize re0 S me qu s = p0 at *
  generalize re1 S me qu s = p1 at *
  generalize re2 S me qu s = p2 at *
  simp only [↓eX8_rearBy, ↓rX8_rearBy_0, ↓rX8_rearBy_1, ↓reduceIte, zkeep_n, zkeep_i, zkeep_r, zkeep_l, zup_eq, zIR, zLR, List.length_cons, List.length_nil, Nat.reduceAdd, Nat.reduceLeDiff, Nat.reduceEqDiff, Nat.reduceSub, Int.reduceLE, Int.reduceLT, Int.reduceEq, Int.reduceNe, Int.reduceNeg, Int.reduceAdd, Int.reduceSub, Int.reduceMul, Int.reduceToNat, Nat.le_refl, Nat.zero_le, Nat.zero_add, Int.zero_add, Int.add_zero, and_true, true_and, and_false, false_and, not_true_eq_false, not_false_eq_true, eq_self, ne_eq, true_implies, false_implies, implies_true, or_true, true_or, or_false, false_or, reduceCtorEq, Option.some.injEq, Sum.inl.injEq, exists_eq_left', exists_eq_left, zite]
  refine zcnv rfl (s_asTold hW h (fun M1 f1 f2 f3 f4 f5 => ⟨rfl, ?_⟩))
  have hCT := told_CF hW f2 f3 f5
  have hM1 := RM_yq h f1.yq
  have e8 : M1 46 8 = S 3 0 := hM1.2.2.2.1.1
  have e5 : M1 46 5 = qn S 1 := f2.2.1
  have ends : ∀ (N : zM) (n a b : Int), YS M1 N → n = plN p0 p1 p2 (ck S) ∧ a = plA p0 p1 p2 (ck S) ∧ b = plB p0 p1 p2 (ck S) → (1 ≤ n → N 69 0 = a) → (2 ≤ n → N 69 1 = b) → F (.inl n) N := by
    intro N n a b hN he h0 h1
    have := hR N (f1.yq.trans (fun k i x y => hN k i (by omega) (fun e => (y e).2.2.1))) (hN.rc f2) (by rw [← he.1, ← he.2.1]; exact h0) (by rw [← he.1, ← he.2.2]; exact h1)
    rw [← he.1] at this
    exact this
  -- one reared call
  have rr : ∀ (N : zM) (F' : zV → zM → Prop), YS M1 N → (∀ i, N 56 i = M1 56 i ∧ N 57 i = M1 57 i ∧ N 58 i = M1 58 i) → (wspk (wV S me 19) qu s → ∀ N', YS M1 N' → (∀ k i, (56 ≤ k ∧ k ≤ 58) ∨ k = 69 → N' k i = N k i) → F' (.inl 1) N') → (¬ wspk (wV S me 19) qu s → ∀ N', YS M1 N' → (∀ k i, (56 ≤ k ∧ k ≤ 58) ∨ k = 69 → N' k i = N k i) → F' (.inl 0) N') → zcv (zv 8 tX8_isReared) [.inr (.inr 46), .inl 0, .inl me, .inl qu, .inl s] N F' := by
    intro N F' hN hI y n
    refine s_isReared (n := nf S) (g := gt S) hW ((hN _ _ (by decide) (by decide)).trans e8) ((hN _ _ (by decide) (by decide)).trans f4) (by omega) (CF_fr hCT (fun k i z => ?_)) hg hqu hs (fun z N' q => y z N' (hN.trans (fun k i a b => q k i (by omega) b)) (fun k i z => q k i (by omega) (fun e => by omega))) (fun z N' q => n z N' (hN.trans (fun k i a b => q k i (by omega) b)) (fun k i z => q k i (by omega) (fun e => by omega)))
    rcases z with ⟨rfl, z⟩ | z | z
    · rcases z with rfl | rfl | rfl
      · rw [zup_in, if_neg (by decide)]; exact hN _ _ (by decide) (by decide)
      · rw [zup_in, if_neg (by decide)]; exact hN _ _ (by decide) (by decide)
      · rw [zup_in, if_pos rfl, hCT.2.2.2.2.1]
    · rw [zup_ne (by omega)]; exact hN _ _ (by omega) (fun e => by omega)
    · rw [zup_ne (by omega)]
      have e : k = 56 ∨ k = 57 ∨ k = 58 := by omega
      rcases e with rfl | rfl | rfl
      · exact (hI i).1
      · exact (hI i).2.1
      · exact (hI i).2.2
  have told56 : ∀ (N : zM), (∀ f : Int, f < nf S → N 56 f = M1 56 f ∧ N 57 f = M1 57 f ∧ N 58 f = M1 58 f) → YS M1 N → N 46 12 = nf S → CF S N (gt S) (nf S) (so0 S) (fst S) := by
    intro N hI hN h12
    obtain ⟨c1, c2, c3, c4, c5, c6, c7⟩ := hCT
    refine ⟨(hN _ _ (by decide) (by decide)).trans c1, (hN _ _ (by decide) (by decide)).trans c2, fun k a b => ?_, fun c a b => ?_, h12, c6, fun f hf => ?_⟩
    · have := c3 k a b
      rw [hN 49 _ (by decide) (fun e => by omega)]
      refine ⟨this.1, fun q q0 q1 => ?_⟩
      rw [hN 50 _ (by decide) (fun e => by omega)]
      exact this.2 q q0 q1
    · have := c4 c a b
      rw [hN 51 _ (by decide) (fun e => by omega)]
      refine ⟨this.1, fun q q0 q1 => ?_⟩
      rw [hN 52 _ (by decide) (fun e => by omega)]
      exact this.2 q q0 q1
    · have o := hI f (by omega)
      rw [o.1, o.2.1, o.2.2]
      exact c7 f hf
  have r1 : ∀ (N : zM) (a : Nat) (F' : zV → zM → Prop), a < ck S → YS M1 N → (∀ f : Int, f < nf S → N 56 f = M1 56 f ∧ N 57 f = M1 57 f ∧ N 58 f = M1 58 f) → (N 56 (S 3 0) = 19 ∧ N 57 (S 3 0) = me ∧ N 58 (S 3 0) = a) → (wspk (drS S (wbyS S me) a (wV S me 19)) qu s → ∀ N', YS M1 N' → (∀ k i, (56 ≤ k ∧ k ≤ 58) ∨ k = 69 → N' k i = N k i) → F' (.inl 1) N') → (¬ wspk (drS S (wbyS S me) a (wV S me 19)) qu s → ∀ N', YS M1 N' → (∀ k i, (56 ≤ k ∧ k ≤ 58) ∨ k = 69 → N' k i = N k i) → F' (.inl 0) N') → zcv (zv 8 tX8_isReared) [.inr (.inr 46), .inl 1, .inl me, .inl qu, .inl s] N F' := by
    intro N a F' ha hN hI hA y n
    have eW : wG S (gadd (gt S) (nf S) 19 me a) (nf S + 1) kall (so0 S) (fst S) me 19 = drS S (wbyS S me) a (wV S me 19) := wG_19 rfl (by omega)
    rw [← hnf] at hA
    refine s_isReared (n := nf S + 1) (g := gadd (gt S) (nf S) 19 me a) hW ((hN _ _ (by decide) (by decide)).trans e8) ((hN _ _ (by decide) (by decide)).trans f4) (by omega) ?_ hg hqu hs (fun z N' q => y (by rw [← eW]; exact z) N' (hN.trans (fun k i a b => q k i (by omega) b)) (fun k i z => q k i (by omega) (fun e => by omega))) (fun z N' q => n (by rw [← eW]; exact z) N' (hN.trans (fun k i a b => q k i (by omega) b)) (fun k i z => q k i (by omega) (fun e => by omega)))
    refine CF_add (M := zup N 46 12 (nf S)) (told56 _ (fun f hf => by rw [zup_ne (by decide), zup_ne (by decide), zup_ne (by decide)]; exact hI f hf) (hN.trans (fun k i a b => by rw [zup_eq, if_neg (fun z => b z.1 z.2)])) (by rw [zup_in, if_pos rfl])) (by omega) (by decide) (by omega) (by omega) ?_ ?_ (by rw [zup_in, if_pos rfl]; rfl) (fun k i z => by rw [zup_ne (by omega), zup_ne (by omega)]) (fun f hf => by rw [zup_ne (by decide), zup_ne (by decide), zup_ne (by decide), zup_ne (by decide), zup_ne (by decide), zup_ne (by decide)]; exact ⟨rfl, rfl, rfl⟩) (by rw [zup_ne (by decide), zup_ne (by decide), zup_ne (by decide)]; exact hA)
    · rw [zup_in, if_neg (by decide), zup_in, if_neg (by decide)]
    · rw [zup_in, if_neg (by decide), zup_in, if_neg (by decide)]
  have r2 : ∀ (N : zM) (a b : Nat) (F' : zV → zM → Prop), a < ck S → b < ck S → YS M1 N → (∀ f : Int, f < nf S → N 56 f = M1 56 f ∧ N 57 f = M1 57 f ∧ N 58 f = M1 58 f) → (N 56 (S 3 0) = 19 ∧ N 57 (S 3 0) = me ∧ N 58 (S 3 0) = a) → (N 56 (S 3 0 + 1) = 19 ∧ N 57 (S 3 0 + 1) = me ∧ N 58 (S 3 0 + 1) = b) → (wspk (drS S (wbyS S me) b (drS S (wbyS S me) a (wV S me 19))) qu s → ∀ N', YS M1 N' → (∀ k i, (56 ≤ k ∧ k ≤ 58) ∨ k = 69 → N' k i = N k i) → F' (.inl 1) N') → (¬ wspk (drS S (wbyS S me) b (drS S (wbyS S me) a (wV S me 19))) qu s → ∀ N', YS M1 N' → (∀ k i, (56 ≤ k ∧ k ≤ 58) ∨ k = 69 → N' k i = N k i) → F' (.inl 0) N') → zcv (zv 8 tX8_isReared) [.inr (.inr 46), .inl 2, .inl me, .inl qu, .inl s] N F' := by
    intro N a b F' ha hb hN hI hA hB y n
    have eW : wG S (gadd (gadd (gt S) (nf S) 19 me a) (nf S + 1) 19 me b) (nf S + 1 + 1) kall (so0 S) (fst S) me 19 = drS S (wbyS S me) b (drS S (wbyS S me) a (wV S me 19)) := by
      rw [wG_19 rfl (by omega), wG_19 rfl (by omega)]
      rfl
    have hB' : N 56 ((nf S + 1 : Nat) : Int) = 19 ∧ N 57 ((nf S + 1 : Nat) : Int) = me ∧ N 58 ((nf S + 1 : Nat) : Int) = b := by
      rw [show ((nf S + 1 : Nat) : Int) = S 3 0 + 1 by omega]
      exact hB
    rw [← hnf] at hA
    refine s_isReared (n := nf S + 1 + 1) (g := gadd (gadd (gt S) (nf S) 19 me a) (nf S + 1) 19 me b) hW ((hN _ _ (by decide) (by decide)).trans e8) ((hN _ _ (by decide) (by decide)).trans f4) (by omega) ?_ hg hqu hs (fun z N' q => y (by rw [← eW]; exact z) N' (hN.trans (fun k i a b => q k i (by omega) b)) (fun k i z => q k i (by omega) (fun e => by omega))) (fun z N' q => n (by rw [← eW]; exact z) N' (hN.trans (fun k i a b => q k i (by omega) b)) (fun k i z => q k i (by omega) (fun e => by omega)))
    have hC1 : CF S (zup N 46 12 ((nf S : Int) + 1)) (gadd (gt S) (nf S) 19 me a) (nf S + 1) (so0 S) (fst S) := by
      refine CF_add (M := zup N 46 12 (nf S)) (told56 _ (fun f hf => by rw [zup_ne (by decide), zup_ne (by decide), zup_ne (by decide)]; exact hI f hf) (hN.trans (fun k i a b => by rw [zup_eq, if_neg (fun z => b z.1 z.2)])) (by rw [zup_in, if_pos rfl])) (by omega) (by decide) (by omega) (by omega) ?_ ?_ (by rw [zup_in, if_pos rfl]) (fun k i z => by rw [zup_ne (by omega), zup_ne (by omega)]) (fun f hf => by rw [zup_ne (by decide), zup_ne (by decide), zup_ne (by decide), zup_ne (by decide), zup_ne (by decide), zup_ne (by decide)]; exact ⟨rfl, rfl, rfl⟩) (by rw [zup_ne (by decide), zup_ne (by decide), zup_ne (by decide)]; exact hA)
      · rw [zup_in, if_neg (by decide), zup_in, if_neg (by decide)]
      · rw [zup_in, if_neg (by decide), zup_in, if_neg (by decide)]
    refine CF_add hC1 (by omega) (by decide) (by omega) (by omega) ?_ ?_ (by rw [zup_in, if_pos rfl]; rfl) (fun k i z => by rw [zup_ne (by omega), zup_ne (by omega)]) (fun f hf => by rw [zup_ne (by decide), zup_ne (by decide), zup_ne (by decide), zup_ne (by decide), zup_ne (by decide), zup_ne (by decide)]; exact ⟨rfl, rfl, rfl⟩) (by rw [zup_ne (by decide), zup_ne (by decide), zup_ne (by decide)]; exact hB')
    · rw [zup_in, if_neg (by decide), zup_in, if_neg (by decide)]
    · rw [zup_in, if_neg (by decide), zup_in, if_neg (by decide)]
  have nonefin : p0 = false → (∀ j : Nat, j < ck S → p1 j = false) → ∀ N, YS M1 N → (∀ i : Nat, i < ck S → ∀ j : Nat, j < ck S → p2 i j = false) → F (.inl (-1)) N := fun hp0 hp1 N hN h3 => by
    have := pl_3 hp0 hp1 h3
    exact ends N _ _ _ hN ⟨this.1.symm, this.2.1.symm, this.2.2.symm⟩ (fun q => by omega) (fun q => by omega)
  have L2 : (p0 = false) → (∀ j : Nat, j < ck S → p1 j = false) → ∀ t : Nat × Nat × zM, (t.1 < ck S ∧ t.2.1 ≤ ck S ∧ YS M1 t.2.2 ∧ (∀ f : Int, f < nf S → t.2.2 56 f = M1 56 f ∧ t.2.2 57 f = M1 57 f ∧ t.2.2 58 f = M1 58 f) ∧ (∀ i : Nat, i < t.1 → ∀ j : Nat, j < ck S → p2 i j = false) ∧ (∀ j : Nat, j < t.2.1 → p2 t.1 j = false)) → uX8_rearBy (fun r M' => ∃ v, r = some v ∧ F v M') 84 [some (.inr (.inr 46)), some (.inl me), some (.inl qu), some (.inl s), some (.inl (t.1 : Int)), some (.inl (t.2.1 : Int))] [] t.2.2 := by
    intro hp0 hp1
    refine zind (fun t => (ck S - t.1) * (ck S + 1) + (ck S - t.2.1)) ?_
    rintro ⟨a, b, N⟩ ⟨ha, hb, hN, hI, hp, hpb⟩ ih
    simp only at ha hb hN hI hp hpb ih
    have n5 : N 46 5 = qn S 1 := (hN _ _ (by decide) (by decide)).trans e5
    have n8 : N 46 8 = S 3 0 := (hN _ _ (by decide) (by decide)).trans e8
    refine rX8_rearBy_84.mpr ?_
    by_cases hbe : b = ck S
    · by_cases hae : a + 1 = ck S
      · have fin := nonefin hp0 hp1 N hN (fun i hi j hj => by
          by_cases e : i = a
          · rw [e]; exact hpb j (by omega)
          · exact hp i (by omega) j hj)
        simp only [↓rX8_rearBy_72, ↓rX8_rearBy_74, ↓rX8_rearBy_75, ↓rX8_rearBy_78, ↓rX8_rearBy_162, ↓rX8_rearBy_163, ↓rX8_rearBy_86, ↓rX8_rearBy_87, ↓rX8_rearBy_90, ↓rX8_rearBy_156, ↓rX8_rearBy_159, ↓hg_fX8_131_46, ↓reduceIte, zkeep_n, zkeep_i, zkeep_r, zkeep_l, zup_eq, zIR, zLR, List.length_cons, List.length_nil, Nat.reduceAdd, Nat.reduceLeDiff, Nat.reduceEqDiff, Nat.reduceSub, Int.reduceLE, Int.reduceLT, Int.reduceEq, Int.reduceNe, Int.reduceNeg, Int.reduceAdd, Int.reduceSub, Int.reduceMul, Int.reduceToNat, Nat.le_refl, Nat.zero_le, Nat.zero_add, Int.zero_add, Int.add_zero, and_true, true_and, and_false, false_and, not_true_eq_false, not_false_eq_true, eq_self, ne_eq, true_implies, false_implies, implies_true, or_true, true_or, or_false, false_or, reduceCtorEq, Option.some.injEq, Sum.inl.injEq, exists_eq_left', exists_eq_left, n5, zite]
        repeat' (first | with_reducible apply And.intro | with_reducible intro _)
        all_goals first | omega | (exact fin)
      · have nx := ih (a + 1, 0, N) ⟨by simp only; omega, Nat.zero_le _, hN, hI, fun i hi j hj => ?_, fun j hj => by simp at hj⟩ ?_
        · simp only [↓rX8_rearBy_72, ↓rX8_rearBy_74, ↓rX8_rearBy_75, ↓rX8_rearBy_78, ↓rX8_rearBy_81, ↓rX8_rearBy_82, ↓rX8_rearBy_162, ↓rX8_rearBy_163, ↓rX8_rearBy_86, ↓rX8_rearBy_87, ↓rX8_rearBy_90, ↓rX8_rearBy_156, ↓rX8_rearBy_159, ↓hg_fX8_131_46, ↓reduceIte, zkeep_n, zkeep_i, zkeep_r, zkeep_l, zup_eq, zIR, zLR, List.length_cons, List.length_nil, Nat.reduceAdd, Nat.reduceLeDiff, Nat.reduceEqDiff, Nat.reduceSub, Int.reduceLE, Int.reduceLT, Int.reduceEq, Int.reduceNe, Int.reduceNeg, Int.reduceAdd, Int.reduceSub, Int.reduceMul, Int.reduceToNat, Nat.le_refl, Nat.zero_le, Nat.zero_add, Int.zero_add, Int.add_zero, and_true, true_and, and_false, false_and, not_true_eq_false, not_false_eq_true, eq_self, ne_eq, true_implies, false_implies, implies_true, or_true, true_or, or_false, false_or, reduceCtorEq, Option.some.injEq, Sum.inl.injEq, exists_eq_left', exists_eq_left, n5, zite]
          repeat' (first | with_reducible apply And.intro | with_reducible intro _)
          all_goals first | omega | (exact nx)
        · simp only at hi
          by_cases e : i = a
          · rw [e]; exact hpb j (by omega)
          · exact hp i (by omega) j hj
        · simp only
          have e : ck S - a = (ck S - (a + 1)) + 1 := by omega
          rw [e, Nat.add_mul]
          omega
    · have call := r2 (zup (zup (zup (zup (zup (zup (zup (zup N 69 0 a) 69 1 b) 56 (S 3 0) 19) 57 (S 3 0) me) 58 (S 3 0) a) 56 (S 3 0 + 1) 19) 57 (S 3 0 + 1) me) 58 (S 3 0 + 1) b) a b (fun v M => uX8_rearBy (fun r M' => ∃ v, r = some v ∧ F v M') 145 [some (.inr (.inr 46)), some (.inl me), some (.inl qu), some (.inl s), some (.inl (a : Int)), some (.inl (b : Int))] [v] M) ha (by omega) (hN.trans (fun k i x y => by simp only [zup_ne (show k ≠ 56 by omega), zup_ne (show k ≠ 57 by omega), zup_ne (show k ≠ 58 by omega), zup_ne (show k ≠ 69 by omega)])) (fun f hf => by
        simp only [zup_eq, Nat.reduceEqDiff, false_and, true_and, if_false]
        rw [if_neg (by omega), if_neg (by omega), if_neg (by omega), if_neg (by omega), if_neg (by omega), if_neg (by omega)]
        exact hI f hf) (by
        simp only [zup_eq, Nat.reduceEqDiff, false_and, true_and, if_false]
        rw [if_neg (by omega), if_pos trivial, if_neg (by omega), if_pos trivial, if_neg (by omega), if_pos trivial]
        exact ⟨rfl, rfl, rfl⟩) (by simp [zup_eq]) (fun z N' q1 q2 => ?_) (fun z N' q1 q2 => ?_)
      · simp only [↓rX8_rearBy_86, ↓rX8_rearBy_87, ↓rX8_rearBy_90, ↓rX8_rearBy_93, ↓rX8_rearBy_94, ↓rX8_rearBy_97, ↓rX8_rearBy_98, ↓rX8_rearBy_100, ↓rX8_rearBy_101, ↓rX8_rearBy_102, ↓rX8_rearBy_105, ↓rX8_rearBy_106, ↓rX8_rearBy_108, ↓rX8_rearBy_109, ↓rX8_rearBy_110, ↓rX8_rearBy_111, ↓rX8_rearBy_114, ↓rX8_rearBy_116, ↓rX8_rearBy_117, ↓rX8_rearBy_119, ↓rX8_rearBy_122, ↓rX8_rearBy_123, ↓rX8_rearBy_124, ↓rX8_rearBy_127, ↓rX8_rearBy_128, ↓rX8_rearBy_129, ↓rX8_rearBy_131, ↓rX8_rearBy_132, ↓rX8_rearBy_134, ↓rX8_rearBy_137, ↓rX8_rearBy_138, ↓rX8_rearBy_139, ↓rX8_rearBy_140, ↓rX8_rearBy_141, ↓rX8_rearBy_142, ↓hg_fX8_131_46, ↓hg_fX8_166_46, ↓hg_fX8_76_46, ↓hr_47, ↓hr_48, ↓hr_49, ↓hr_50, ↓hr_51, ↓hr_52, ↓hr_53, ↓hr_54, ↓hr_55, ↓hr_56, ↓hr_57, ↓hr_58, ↓hr_59, ↓hr_60, ↓hr_61, ↓hr_62, ↓hr_63, ↓hr_64, ↓hr_65, ↓hr_66, ↓hr_67, ↓hr_68, ↓hr_69, ↓hr_70, ↓hr_71, ↓hr_72, ↓hr_73, ↓hr_74, ↓hr_75, ↓hr_76, ↓hr_77, ↓hr_78, ↓hr_79, ↓hw_47, ↓hw_48, ↓hw_49, ↓hw_50, ↓hw_51, ↓hw_52, ↓hw_53, ↓hw_54, ↓hw_55, ↓hw_56, ↓hw_57, ↓hw_58, ↓hw_59, ↓hw_60, ↓hw_61, ↓hw_62, ↓hw_63, ↓hw_64, ↓hw_65, ↓hw_66, ↓hw_67, ↓hw_68, ↓hw_69, ↓hw_70, ↓hw_71, ↓hw_72, ↓hw_73, ↓hw_74, ↓hw_75, ↓hw_76, ↓hw_77, ↓hw_78, ↓hw_79, ↓reduceIte, ↓i_more, zkeep_n, zkeep_i, zkeep_r, zkeep_l, zIR, zLR, List.length_cons, List.length_nil, Nat.reduceAdd, Nat.reduceLeDiff, Nat.reduceEqDiff, Nat.reduceSub, Int.reduceLE, Int.reduceLT, Int.reduceEq, Int.reduceNe, Int.reduceNeg, Int.reduceAdd, Int.reduceSub, Int.reduceMul, Int.reduceToNat, Nat.le_refl, Nat.zero_le, Nat.zero_add, Int.zero_add, Int.add_zero, and_true, true_and, and_false, false_and, not_true_eq_false, not_false_eq_true, eq_self, ne_eq, true_implies, false_implies, implies_true, or_true, true_or, or_false, false_or, reduceCtorEq, Option.some.injEq, Sum.inl.injEq, exists_eq_left', exists_eq_left, n5, n8, zup_ne, zite]
        repeat' (first | with_reducible apply And.intro | with_reducible intro _)
        all_goals first | omega | (exact call)
      · have := pl_2 hp0 hp1 ha (by omega) ((p2e a b).mpr z) hpb hp
        have fin := ends N' 2 a b q1 ⟨this.1.symm, this.2.1.symm, this.2.2.symm⟩ (fun _ => by rw [q2 69 _ (Or.inr rfl)]; simp [zup_eq]) (fun _ => by rw [q2 69 _ (Or.inr rfl)]; simp [zup_eq])
        simp only [↓rX8_rearBy_145, ↓rX8_rearBy_148, ↓rX8_rearBy_149, ↓reduceIte, zkeep_n, zkeep_i, zkeep_r, zkeep_l, zup_eq, zIR, zLR, List.length_cons, List.length_nil, Nat.reduceAdd, Nat.reduceLeDiff, Nat.reduceEqDiff, Nat.reduceSub, Int.reduceLE, Int.reduceLT, Int.reduceEq, Int.reduceNe, Int.reduceNeg, Int.reduceAdd, Int.reduceSub, Int.reduceMul, Int.reduceToNat, Nat.le_refl, Nat.zero_le, Nat.zero_add, Int.zero_add, Int.add_zero, and_true, true_and, and_false, false_and, not_true_eq_false, not_false_eq_true, eq_self, ne_eq, true_implies, false_implies, implies_true, or_true, true_or, or_false, false_or, reduceCtorEq, Option.some.injEq, Sum.inl.injEq, exists_eq_left', exists_eq_left, zite]
        exact fin
      · have nx := ih (a, b + 1, N') ⟨ha, by simp only; omega, q1, fun f hf => ?_, hp, fun j hj => ?_⟩ (by simp only; omega)
        · simp only [↓rX8_rearBy_145, ↓rX8_rearBy_150, ↓rX8_rearBy_153, ↓reduceIte, zkeep_n, zkeep_i, zkeep_r, zkeep_l, zup_eq, zIR, zLR, List.length_cons, List.length_nil, Nat.reduceAdd, Nat.reduceLeDiff, Nat.reduceEqDiff, Nat.reduceSub, Int.reduceLE, Int.reduceLT, Int.reduceEq, Int.reduceNe, Int.reduceNeg, Int.reduceAdd, Int.reduceSub, Int.reduceMul, Int.reduceToNat, Nat.le_refl, Nat.zero_le, Nat.zero_add, Int.zero_add, Int.add_zero, and_true, true_and, and_false, false_and, not_true_eq_false, not_false_eq_true, eq_self, ne_eq, true_implies, false_implies, implies_true, or_true, true_or, or_false, false_or, reduceCtorEq, Option.some.injEq, Sum.inl.injEq, exists_eq_left', exists_eq_left, zite]
          exact nx
        · show N' 56 f = _ ∧ N' 57 f = _ ∧ N' 58 f = _
          rw [q2 56 _ (Or.inl (by decide)), q2 57 _ (Or.inl (by decide)), q2 58 _ (Or.inl (by decide))]
          simp only [zup_eq, Nat.reduceEqDiff, false_and, true_and, if_false]
          rw [if_neg (by omega), if_neg (by omega), if_neg (by omega), if_neg (by omega), if_neg (by omega), if_neg (by omega)]
          exact hI f hf
        · simp only at hj
          by_cases e : j = b
          · rw [e, ← Bool.not_eq_true, p2e]; exact z
          · exact hpb j (by omega)
  have L1 : (p0 = false) → ∀ t : Nat × zM, (t.1 ≤ ck S ∧ YS M1 t.2 ∧ (∀ f : Int, f < nf S → t.2 56 f = M1 56 f ∧ t.2 57 f = M1 57 f ∧ t.2 58 f = M1 58 f) ∧ (∀ j : Nat, j < t.1 → p1 j = false)) → uX8_rearBy (fun r M' => ∃ v, r = some v ∧ F v M') 20 [some (.inr (.inr 46)), some (.inl me), some (.inl qu), some (.inl s), some (.inl (t.1 : Int)), none] [] t.2 := by
    intro hp0
    refine zind (fun t => ck S - t.1) ?_
    rintro ⟨a, N⟩ ⟨ha, hN, hI, hp⟩ ih
    simp only at ha hN hI hp ih
    have n5 : N 46 5 = qn S 1 := (hN _ _ (by decide) (by decide)).trans e5
    have n8 : N 46 8 = S 3 0 := (hN _ _ (by decide) (by decide)).trans e8
    refine rX8_rearBy_20.mpr ?_
    by_cases hae : a = ck S
    · subst hae
      by_cases hz : ck S = 0
      · have fin := nonefin hp0 hp N hN (fun i hi => by omega)
        simp only [↓rX8_rearBy_22, ↓rX8_rearBy_23, ↓rX8_rearBy_26, ↓rX8_rearBy_69, ↓rX8_rearBy_70, ↓rX8_rearBy_72, ↓rX8_rearBy_74, ↓rX8_rearBy_75, ↓rX8_rearBy_78, ↓rX8_rearBy_162, ↓rX8_rearBy_163, ↓hg_fX8_131_46, ↓reduceIte, zkeep_n, zkeep_i, zkeep_r, zkeep_l, zup_eq, zIR, zLR, List.length_cons, List.length_nil, Nat.reduceAdd, Nat.reduceLeDiff, Nat.reduceEqDiff, Nat.reduceSub, Int.reduceLE, Int.reduceLT, Int.reduceEq, Int.reduceNe, Int.reduceNeg, Int.reduceAdd, Int.reduceSub, Int.reduceMul, Int.reduceToNat, Nat.le_refl, Nat.zero_le, Nat.zero_add, Int.zero_add, Int.add_zero, and_true, true_and, and_false, false_and, not_true_eq_false, not_false_eq_true, eq_self, ne_eq, true_implies, false_implies, implies_true, or_true, true_or, or_false, false_or, reduceCtorEq, Option.some.injEq, Sum.inl.injEq, exists_eq_left', exists_eq_left, n5, zite]
        repeat' (first | with_reducible apply And.intro | with_reducible intro _)
        all_goals first | omega | (exact fin)
      · have nx := L2 hp0 hp (0, 0, N) ⟨by simp only; omega, Nat.zero_le _, hN, hI, fun i hi => by simp at hi, fun j hj => by simp at hj⟩
        simp only [↓rX8_rearBy_22, ↓rX8_rearBy_23, ↓rX8_rearBy_26, ↓rX8_rearBy_69, ↓rX8_rearBy_70, ↓rX8_rearBy_72, ↓rX8_rearBy_74, ↓rX8_rearBy_75, ↓rX8_rearBy_78, ↓rX8_rearBy_81, ↓rX8_rearBy_82, ↓rX8_rearBy_162, ↓rX8_rearBy_163, ↓hg_fX8_131_46, ↓reduceIte, zkeep_n, zkeep_i, zkeep_r, zkeep_l, zup_eq, zIR, zLR, List.length_cons, List.length_nil, Nat.reduceAdd, Nat.reduceLeDiff, Nat.reduceEqDiff, Nat.reduceSub, Int.reduceLE, Int.reduceLT, Int.reduceEq, Int.reduceNe, Int.reduceNeg, Int.reduceAdd, Int.reduceSub, Int.reduceMul, Int.reduceToNat, Nat.le_refl, Nat.zero_le, Nat.zero_add, Int.zero_add, Int.add_zero, and_true, true_and, and_false, false_and, not_true_eq_false, not_false_eq_true, eq_self, ne_eq, true_implies, false_implies, implies_true, or_true, true_or, or_false, false_or, reduceCtorEq, Option.some.injEq, Sum.inl.injEq, exists_eq_left', exists_eq_left, n5, zite]
        repeat' (first | with_reducible apply And.intro | with_reducible intro _)
        all_goals first | omega | (exact nx)
    · have call := r1 (zup (zup (zup (zup N 69 0 a) 56 (S 3 0) 19) 57 (S 3 0) me) 58 (S 3 0) a) a (fun v M => uX8_rearBy (fun r M' => ∃ v, r = some v ∧ F v M') 58 [some (.inr (.inr 46)), some (.inl me), some (.inl qu), some (.inl s), some (.inl (a : Int)), none] [v] M) (by omega) (hN.trans (fun k i x y => by simp only [zup_ne (show k ≠ 56 by omega), zup_ne (show k ≠ 57 by omega), zup_ne (show k ≠ 58 by omega), zup_ne (show k ≠ 69 by omega)])) (fun f hf => by
        simp only [zup_eq, Nat.reduceEqDiff, false_and, true_and, if_false]
        rw [if_neg (by omega), if_neg (by omega), if_neg (by omega)]
        exact hI f hf) (by simp [zup_eq]) (fun z N' q1 q2 => ?_) (fun z N' q1 q2 => ?_)
      · simp only [↓rX8_rearBy_22, ↓rX8_rearBy_23, ↓rX8_rearBy_26, ↓rX8_rearBy_29, ↓rX8_rearBy_30, ↓rX8_rearBy_33, ↓rX8_rearBy_34, ↓rX8_rearBy_36, ↓rX8_rearBy_37, ↓rX8_rearBy_38, ↓rX8_rearBy_39, ↓rX8_rearBy_42, ↓rX8_rearBy_44, ↓rX8_rearBy_45, ↓rX8_rearBy_47, ↓rX8_rearBy_50, ↓rX8_rearBy_51, ↓rX8_rearBy_52, ↓rX8_rearBy_53, ↓rX8_rearBy_54, ↓rX8_rearBy_55, ↓hg_fX8_131_46, ↓hg_fX8_166_46, ↓hg_fX8_76_46, ↓hr_47, ↓hr_48, ↓hr_49, ↓hr_50, ↓hr_51, ↓hr_52, ↓hr_53, ↓hr_54, ↓hr_55, ↓hr_56, ↓hr_57, ↓hr_58, ↓hr_59, ↓hr_60, ↓hr_61, ↓hr_62, ↓hr_63, ↓hr_64, ↓hr_65, ↓hr_66, ↓hr_67, ↓hr_68, ↓hr_69, ↓hr_70, ↓hr_71, ↓hr_72, ↓hr_73, ↓hr_74, ↓hr_75, ↓hr_76, ↓hr_77, ↓hr_78, ↓hr_79, ↓hw_47, ↓hw_48, ↓hw_49, ↓hw_50, ↓hw_51, ↓hw_52, ↓hw_53, ↓hw_54, ↓hw_55, ↓hw_56, ↓hw_57, ↓hw_58, ↓hw_59, ↓hw_60, ↓hw_61, ↓hw_62, ↓hw_63, ↓hw_64, ↓hw_65, ↓hw_66, ↓hw_67, ↓hw_68, ↓hw_69, ↓hw_70, ↓hw_71, ↓hw_72, ↓hw_73, ↓hw_74, ↓hw_75, ↓hw_76, ↓hw_77, ↓hw_78, ↓hw_79, ↓reduceIte, ↓i_more, zkeep_n, zkeep_i, zkeep_r, zkeep_l, zIR, zLR, List.length_cons, List.length_nil, Nat.reduceAdd, Nat.reduceLeDiff, Nat.reduceEqDiff, Nat.reduceSub, Int.reduceLE, Int.reduceLT, Int.reduceEq, Int.reduceNe, Int.reduceNeg, Int.reduceAdd, Int.reduceSub, Int.reduceMul, Int.reduceToNat, Nat.le_refl, Nat.zero_le, Nat.zero_add, Int.zero_add, Int.add_zero, and_true, true_and, and_false, false_and, not_true_eq_false, not_false_eq_true, eq_self, ne_eq, true_implies, false_implies, implies_true, or_true, true_or, or_false, false_or, reduceCtorEq, Option.some.injEq, Sum.inl.injEq, exists_eq_left', exists_eq_left, n5, n8, zup_ne, zite]
        repeat' (first | with_reducible apply And.intro | with_reducible intro _)
        all_goals first | omega | (exact call)
      · have := pl_1 (K := ck S) (a := a) (p2 := p2) hp0 (by omega) ((p1e a).mpr z) hp
        have fin := ends N' 1 a (-1) q1 ⟨this.1.symm, this.2.1.symm, this.2.2.symm⟩ (fun _ => by rw [q2 69 _ (Or.inr rfl)]; simp [zup_eq]) (fun q => by omega)
        simp only [↓rX8_rearBy_58, ↓rX8_rearBy_61, ↓rX8_rearBy_62, ↓reduceIte, zkeep_n, zkeep_i, zkeep_r, zkeep_l, zup_eq, zIR, zLR, List.length_cons, List.length_nil, Nat.reduceAdd, Nat.reduceLeDiff, Nat.reduceEqDiff, Nat.reduceSub, Int.reduceLE, Int.reduceLT, Int.reduceEq, Int.reduceNe, Int.reduceNeg, Int.reduceAdd, Int.reduceSub, Int.reduceMul, Int.reduceToNat, Nat.le_refl, Nat.zero_le, Nat.zero_add, Int.zero_add, Int.add_zero, and_true, true_and, and_false, false_and, not_true_eq_false, not_false_eq_true, eq_self, ne_eq, true_implies, false_implies, implies_true, or_true, true_or, or_false, false_or, reduceCtorEq, Option.some.injEq, Sum.inl.injEq, exists_eq_left', exists_eq_left, zite]
        exact fin
      · have nx := ih (a + 1, N') ⟨by simp only; omega, q1, fun f hf => ?_, fun j hj => ?_⟩ (by simp only; omega)
        · simp only [↓rX8_rearBy_58, ↓rX8_rearBy_63, ↓rX8_rearBy_66, ↓reduceIte, zkeep_n, zkeep_i, zkeep_r, zkeep_l, zup_eq, zIR, zLR, List.length_cons, List.length_nil, Nat.reduceAdd, Nat.reduceLeDiff, Nat.reduceEqDiff, Nat.reduceSub, Int.reduceLE, Int.reduceLT, Int.reduceEq, Int.reduceNe, Int.reduceNeg, Int.reduceAdd, Int.reduceSub, Int.reduceMul, Int.reduceToNat, Nat.le_refl, Nat.zero_le, Nat.zero_add, Int.zero_add, Int.add_zero, and_true, true_and, and_false, false_and, not_true_eq_false, not_false_eq_true, eq_self, ne_eq, true_implies, false_implies, implies_true, or_true, true_or, or_false, false_or, reduceCtorEq, Option.some.injEq, Sum.inl.injEq, exists_eq_left', exists_eq_left, zite]
          exact nx
        · show N' 56 f = _ ∧ N' 57 f = _ ∧ N' 58 f = _
          rw [q2 56 _ (Or.inl (by decide)), q2 57 _ (Or.inl (by decide)), q2 58 _ (Or.inl (by decide))]
          simp only [zup_eq, Nat.reduceEqDiff, false_and, true_and, if_false]
          rw [if_neg (by omega), if_neg (by omega), if_neg (by omega)]
          exact hI f hf
        · simp only at hj
          by_cases e : j = a
          · rw [e, ← Bool.not_eq_true, p1e]; exact z
          · exact hp j (by omega)
  simp only [↓rX8_rearBy_4, ↓rX8_rearBy_5, ↓rX8_rearBy_6, ↓rX8_rearBy_7, ↓rX8_rearBy_8, ↓rX8_rearBy_9, ↓reduceIte, zkeep_n, zkeep_i, zkeep_r, zkeep_l, zup_eq, zIR, zLR, List.length_cons, List.length_nil, Nat.reduceAdd, Nat.reduceLeDiff, Nat.reduceEqDiff, Nat.reduceSub, Int.reduceLE, Int.reduceLT, Int.reduceEq, Int.reduceNe, Int.reduceNeg, Int.reduceAdd, Int.reduceSub, Int.reduceMul, Int.reduceToNat, Nat.le_refl, Nat.zero_le, Nat.zero_add, Int.zero_add, Int.add_zero, and_true, true_and, and_false, false_and, not_true_eq_false, not_false_eq_true, eq_self, ne_eq, true_implies, false_implies, implies_true, or_true, true_or, or_false, false_or, reduceCtorEq, Option.some.injEq, Sum.inl.injEq, exists_eq_left', exists_eq_left, zite]
  refine rr M1 _ YS.rfl (fun _ => ⟨rfl, rfl, rfl⟩) (fun z N' q1 q2 => ?_) (fun z N' q1 q2 => ?_)
  · have := pl_0 (p1 := p1) (p2 := p2) (K := ck S) (p0e.mpr z)
    have fin := ends N' 0 (-1) (-1) q1 ⟨this.1.symm, this.2.1.symm, this.2.2.symm⟩ (fun q => by omega) (fun q => by omega)
    simp only [↓rX8_rearBy_12, ↓rX8_rearBy_15, ↓rX8_rearBy_16, ↓reduceIte, zkeep_n, zkeep_i, zkeep_r, zkeep_l, zup_eq, zIR, zLR, List.length_cons, List.length_nil, Nat.reduceAdd, Nat.reduceLeDiff, Nat.reduceEqDiff, Nat.reduceSub, Int.reduceLE, Int.reduceLT, Int.reduceEq, Int.reduceNe, Int.reduceNeg, Int.reduceAdd, Int.reduceSub, Int.reduceMul, Int.reduceToNat, Nat.le_refl, Nat.zero_le, Nat.zero_add, Int.zero_add, Int.add_zero, and_true, true_and, and_false, false_and, not_true_eq_false, not_false_eq_true, eq_self, ne_eq, true_implies, false_implies, implies_true, or_true, true_or, or_false, false_or, reduceCtorEq, Option.some.injEq, Sum.inl.injEq, exists_eq_left', exists_eq_left, zite]
    exact fin
  · have st := L1 (by rw [← Bool.not_eq_true, p0e]; exact z) (0, N') ⟨Nat.zero_le _, q1, fun f hf => ⟨q2 56 _ (Or.inl (by decide)), q2 57 _ (Or.inl (by decide)), q2 58 _ (Or.inl (by decide))⟩, fun j hj => by simp at hj⟩
    simp only [↓rX8_rearBy_12, ↓rX8_rearBy_17, ↓rX8_rearBy_18, ↓reduceIte, zkeep_n, zkeep_i, zkeep_r, zkeep_l, zup_eq, zIR, zLR, List.length_cons, List.length_nil, Nat.reduceAdd, Nat.reduceLeDiff, Nat.reduceEqDiff, Nat.reduceSub, Int.reduceLE, Int.reduceLT, Int.reduceEq, Int.reduceNe, Int.reduceNeg, Int.reduceAdd, Int.reduceSub, Int.reduceMul, Int.reduceToNat, Nat.le_refl, Nat.zero_le, Nat.zero_add, Int.zero_add, Int.add_zero, and_true, true_and, and_false, false_and, not_true_eq_false, not_false_eq_true, eq_self, ne_eq, true_implies, false_implies, implies_true, or_true, true_or, or_false, false_or, reduceCtorEq, Option.some.injEq, Sum.inl.injEq, exists_eq_left', exists_eq_left, zite]
    exact st
set_option maxRecDepth 100000 in
set_option maxHeartbeats 4000000 in
theorem y_rear {S M : zM} {R : zP} {me qu s i : Int} (hW : WX S) (h : RM S M) (z1 : zIR me) (z2 : zIR qu) (z3 : zIR s) (z4 : zIR i) (hR : ∀ M', YQ M M' → R (some (.inl (aRear S me qu s i))) M') : tX8_rear [.inr (.inr 46), .inl me, .inl qu, .inl s, .inl i] M R := by
  have hk := W_k hW
  have bad : ¬ ((0 ≤ me ∧ me < qn S 0) ∧ (0 ≤ qu ∧ qu < 4) ∧ (0 ≤ s ∧ s < 10) ∧ (-1 ≤ i ∧ i ≤ 1)) → ∀ M', YQ M M' → R (some (.inl (-2))) M' := fun hb M' q => by
    have := hR M' q
    unfold aRear at this
    rw [if_neg hb] at this
    exact this
  simp only [↓eX8_rear, ↓rX8_rear_0, ↓rX8_rear_1, ↓rX8_rear_2, ↓reduceIte, zkeep_n, zkeep_i, zkeep_r, zkeep_l, zup_eq, zIR, zLR, List.length_cons, List.length_nil, Nat.reduceAdd, Nat.reduceLeDiff, Nat.reduceEqDiff, Nat.reduceSub, Int.reduceLE, Int.reduceLT, Int.reduceEq, Int.reduceNe, Int.reduceNeg, Int.reduceAdd, Int.reduceSub, Int.reduceMul, Int.reduceToNat, Nat.le_refl, Nat.zero_le, Nat.zero_add, Int.zero_add, Int.add_zero, and_true, true_and, and_false, false_and, not_true_eq_false, not_false_eq_true, eq_self, ne_eq, true_implies, false_implies, implies_true, or_true, true_or, or_false, false_or, reduceCtorEq, Option.some.injEq, Sum.inl.injEq, exists_eq_left', exists_eq_left, zite]
  refine s_isMember hW h z1 (fun hm M1 f1 f2 => ?_) (fun hm M1 f1 f2 => ?_)
  · unfold zIR at z1 z2 z3 z4
    have bad1 := fun q => bad q M1 f1.yq
    have go : (0 ≤ qu ∧ qu < 4) → (0 ≤ s ∧ s < 10) → (-1 ≤ i ∧ i ≤ 1) → zcv (zv 8 tX8_rearBy) [.inr (.inr 46), .inl me, .inl qu, .inl s] M1 (fun v M' => uX8_rear R 43 [some (.inr (.inr 46)), some (.inl me), some (.inl qu), some (.inl s), some (.inl i)] [v, .inr (.inr 46)] M') := fun q1 q2 q3 => by
      refine s_rearBy hW (RM_yq h f1.yq) hm q1 q2 (fun M2 g1 g2 g3 g4 => ?_)
      have fin := hR M2 (f1.yq.trans g1)
      unfold aRear at fin
      rw [if_pos ⟨hm, q1, q2, q3⟩] at fin
      have hpl := pl_low (re0 S me qu s) (re1 S me qu s) (re2 S me qu s) (ck S)
      have hpr := pl_R (re0 S me qu s) (re1 S me qu s) (re2 S me qu s) (ck S)
      generalize plN (re0 S me qu s) (re1 S me qu s) (re2 S me qu s) (ck S) = n at *
      generalize plA (re0 S me qu s) (re1 S me qu s) (re2 S me qu s) (ck S) = a at *
      generalize plB (re0 S me qu s) (re1 S me qu s) (re2 S me qu s) (ck S) = b at *
      have e : i = -1 ∨ i = 0 ∨ i = 1 := by omega
      rcases e with rfl | rfl | rfl
      · rw [if_pos rfl] at fin
        simp only [↓rX8_rear_43, ↓rX8_rear_45, ↓rX8_rear_48, ↓rX8_rear_53, ↓reduceIte, ↓i_ofRow, zkeep_n, zkeep_i, zkeep_r, zkeep_l, zup_eq, zIR, zLR, List.length_cons, List.length_nil, Nat.reduceAdd, Nat.reduceLeDiff, Nat.reduceEqDiff, Nat.reduceSub, Int.reduceLE, Int.reduceLT, Int.reduceEq, Int.reduceNe, Int.reduceNeg, Int.reduceAdd, Int.reduceSub, Int.reduceMul, Int.reduceToNat, Nat.le_refl, Nat.zero_le, Nat.zero_add, Int.zero_add, Int.add_zero, and_true, true_and, and_false, false_and, not_true_eq_false, not_false_eq_true, eq_self, ne_eq, true_implies, false_implies, implies_true, or_true, true_or, or_false, false_or, reduceCtorEq, Option.some.injEq, Sum.inl.injEq, exists_eq_left', exists_eq_left, zite]
        exact fin
      · rw [if_neg (by decide), if_pos rfl] at fin
        by_cases c : 1 ≤ n
        · rw [← g3 c] at fin
          simp only [↓rX8_rear_43, ↓rX8_rear_45, ↓rX8_rear_48, ↓rX8_rear_53, ↓reduceIte, ↓i_ofRow, zkeep_n, zkeep_i, zkeep_r, zkeep_l, zup_eq, zIR, zLR, List.length_cons, List.length_nil, Nat.reduceAdd, Nat.reduceLeDiff, Nat.reduceEqDiff, Nat.reduceSub, Int.reduceLE, Int.reduceLT, Int.reduceEq, Int.reduceNe, Int.reduceNeg, Int.reduceAdd, Int.reduceSub, Int.reduceMul, Int.reduceToNat, Nat.le_refl, Nat.zero_le, Nat.zero_add, Int.zero_add, Int.add_zero, and_true, true_and, and_false, false_and, not_true_eq_false, not_false_eq_true, eq_self, ne_eq, true_implies, false_implies, implies_true, or_true, true_or, or_false, false_or, reduceCtorEq, Option.some.injEq, Sum.inl.injEq, exists_eq_left', exists_eq_left, zite]
          repeat' (first | with_reducible apply And.intro | with_reducible intro _)
          all_goals first | omega | (exact fin)
        · rw [hpl.1 (by omega)] at fin
          simp only [↓rX8_rear_43, ↓rX8_rear_45, ↓rX8_rear_48, ↓rX8_rear_53, ↓reduceIte, ↓i_ofRow, zkeep_n, zkeep_i, zkeep_r, zkeep_l, zup_eq, zIR, zLR, List.length_cons, List.length_nil, Nat.reduceAdd, Nat.reduceLeDiff, Nat.reduceEqDiff, Nat.reduceSub, Int.reduceLE, Int.reduceLT, Int.reduceEq, Int.reduceNe, Int.reduceNeg, Int.reduceAdd, Int.reduceSub, Int.reduceMul, Int.reduceToNat, Nat.le_refl, Nat.zero_le, Nat.zero_add, Int.zero_add, Int.add_zero, and_true, true_and, and_false, false_and, not_true_eq_false, not_false_eq_true, eq_self, ne_eq, true_implies, false_implies, implies_true, or_true, true_or, or_false, false_or, reduceCtorEq, Option.some.injEq, Sum.inl.injEq, exists_eq_left', exists_eq_left, zite]
          repeat' (first | with_reducible apply And.intro | with_reducible intro _)
          all_goals first | omega | (exact fin)
      · rw [if_neg (by decide), if_neg (by decide)] at fin
        by_cases c : 2 ≤ n
        · rw [← g4 c] at fin
          simp only [↓rX8_rear_43, ↓rX8_rear_45, ↓rX8_rear_48, ↓rX8_rear_53, ↓reduceIte, ↓i_ofRow, zkeep_n, zkeep_i, zkeep_r, zkeep_l, zup_eq, zIR, zLR, List.length_cons, List.length_nil, Nat.reduceAdd, Nat.reduceLeDiff, Nat.reduceEqDiff, Nat.reduceSub, Int.reduceLE, Int.reduceLT, Int.reduceEq, Int.reduceNe, Int.reduceNeg, Int.reduceAdd, Int.reduceSub, Int.reduceMul, Int.reduceToNat, Nat.le_refl, Nat.zero_le, Nat.zero_add, Int.zero_add, Int.add_zero, and_true, true_and, and_false, false_and, not_true_eq_false, not_false_eq_true, eq_self, ne_eq, true_implies, false_implies, implies_true, or_true, true_or, or_false, false_or, reduceCtorEq, Option.some.injEq, Sum.inl.injEq, exists_eq_left', exists_eq_left, zite]
          repeat' (first | with_reducible apply And.intro | with_reducible intro _)
          all_goals first | omega | (exact fin)
        · rw [hpl.2 (by omega)] at fin
          simp only [↓rX8_rear_43, ↓rX8_rear_45, ↓rX8_rear_48, ↓rX8_rear_53, ↓reduceIte, ↓i_ofRow, zkeep_n, zkeep_i, zkeep_r, zkeep_l, zup_eq, zIR, zLR, List.length_cons, List.length_nil, Nat.reduceAdd, Nat.reduceLeDiff, Nat.reduceEqDiff, Nat.reduceSub, Int.reduceLE, Int.reduceLT, Int.reduceEq, Int.reduceNe, Int.reduceNeg, Int.reduceAdd, Int.reduceSub, Int.reduceMul, Int.reduceToNat, Nat.le_refl, Nat.zero_le, Nat.zero_add, Int.zero_add, Int.add_zero, and_true, true_and, and_false, false_and, not_true_eq_false, not_false_eq_true, eq_self, ne_eq, true_implies, false_implies, implies_true, or_true, true_or, or_false, false_or, reduceCtorEq, Option.some.injEq, Sum.inl.injEq, exists_eq_left', exists_eq_left, zite]
          repeat' (first | with_reducible apply And.intro | with_reducible intro _)
          all_goals first | omega | (exact fin)
    simp only [↓rX8_rear_5, ↓rX8_rear_8, ↓rX8_rear_9, ↓rX8_rear_12, ↓rX8_rear_15, ↓rX8_rear_16, ↓rX8_rear_17, ↓rX8_rear_19, ↓rX8_rear_22, ↓rX8_rear_25, ↓rX8_rear_27, ↓rX8_rear_28, ↓rX8_rear_29, ↓rX8_rear_32, ↓rX8_rear_35, ↓rX8_rear_36, ↓rX8_rear_37, ↓rX8_rear_38, ↓rX8_rear_39, ↓rX8_rear_40, ↓rX8_rear_51, ↓rX8_rear_53, ↓i_in, ↓i_isQuestion, ↓reduceIte, zkeep_n, zkeep_i, zkeep_r, zkeep_l, zup_eq, zIR, zLR, List.length_cons, List.length_nil, Nat.reduceAdd, Nat.reduceLeDiff, Nat.reduceEqDiff, Nat.reduceSub, Int.reduceLE, Int.reduceLT, Int.reduceEq, Int.reduceNe, Int.reduceNeg, Int.reduceAdd, Int.reduceSub, Int.reduceMul, Int.reduceToNat, Nat.le_refl, Nat.zero_le, Nat.zero_add, Int.zero_add, Int.add_zero, and_true, true_and, and_false, false_and, not_true_eq_false, not_false_eq_true, eq_self, ne_eq, true_implies, false_implies, implies_true, or_true, true_or, or_false, false_or, reduceCtorEq, Option.some.injEq, Sum.inl.injEq, exists_eq_left', exists_eq_left, zite]
    repeat' (first | with_reducible apply And.intro | with_reducible intro _)
    all_goals first | omega | (exact bad1 (by omega)) | (exact go (by omega) (by omega) (by omega))
  · have bad1 := bad (fun z => hm z.1) M1 f1.yq
    simp only [↓rX8_rear_5, ↓rX8_rear_51, ↓rX8_rear_53, ↓reduceIte, zkeep_n, zkeep_i, zkeep_r, zkeep_l, zup_eq, zIR, zLR, List.length_cons, List.length_nil, Nat.reduceAdd, Nat.reduceLeDiff, Nat.reduceEqDiff, Nat.reduceSub, Int.reduceLE, Int.reduceLT, Int.reduceEq, Int.reduceNe, Int.reduceNeg, Int.reduceAdd, Int.reduceSub, Int.reduceMul, Int.reduceToNat, Nat.le_refl, Nat.zero_le, Nat.zero_add, Int.zero_add, Int.add_zero, and_true, true_and, and_false, false_and, not_true_eq_false, not_false_eq_true, eq_self, ne_eq, true_implies, false_implies, implies_true, or_true, true_or, or_false, false_or, reduceCtorEq, Option.some.injEq, Sum.inl.injEq, exists_eq_left', exists_eq_left, zite]
    exact bad1
