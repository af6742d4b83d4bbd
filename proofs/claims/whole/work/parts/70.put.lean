def zconv (f v : Int) : Int := if f = 0 then zi2b v else if f = 1 then zi2s v else v
theorem zconv_R {f v : Int} (h : zIR v) : zIR (zconv f v) := by
  unfold zconv
  split
  · exact zI32 _
  · split
    · exact zI32 _
    · exact h
theorem zconv_d : ∀ v : Fin 10, zi2b v.val = v.val ∧ zi2s v.val = v.val := by decide +kernel
theorem zconv_s {f v : Int} (h : 0 ≤ v ∧ v ≤ 9) : zconv f v = v := by
  have := zconv_d ⟨v.toNat, by omega⟩
  simp only [Int.toNat_of_nonneg h.1] at this
  unfold zconv
  rw [this.1, this.2]
  (repeat' split) <;> rfl
def lk (S : zM) (s f i : Int) : Int := if S 12 s = 0 then 1 else if S 13 s ≠ f then 3 else if 0 ≤ i ∧ i < S 14 s then 0 else 2
theorem lk_R (S : zM) (s f i : Int) : 0 ≤ lk S s f i ∧ lk S s f i ≤ 5 := by
  unfold lk
  (repeat' split) <;> omega
abbrev gPut (s f : Int) : Prop := (0 ≤ s ∧ s < 4) ∧ (0 ≤ f ∧ f < 3)
def aPut (S : zM) (s f i : Int) : Int := if gPut s f then (if lk S s f i = 0 then 1 else -10 - lk S s f i) else -2
def mPut (S : zM) (s f i v : Int) : zM := if gPut s f then (if lk S s f i = 0 then zup S (15 + s.toNat) i (zconv f v) else zup S 19 0 (lk S s f i)) else S
def aGet (S : zM) (s f i : Int) : Int := if gPut s f then (if lk S s f i = 0 then S (15 + s.toNat) i else -2147483648) else -2147483648
def mGet (S : zM) (s f i : Int) : zM := if gPut s f then (if lk S s f i = 0 then S else zup S 19 0 (lk S s f i)) else S
set_option maxRecDepth 100000 in
set_option maxHeartbeats 4000000 in
theorem s_item0 {S M : zM} {F : zV → zM → Prop} {f i : Int} (h : RX S M) (z1 : zIR f) (z2 : zIR i) (bad : ¬ (0 ≤ f ∧ f < 3) → F (.inl (-2)) M) (lack : (0 ≤ f ∧ f < 3) → lk S 0 f i ≠ 0 → F (.inl (-10 - lk S 0 f i)) (zup M 0 6 (lk S 0 f i))) (ok : (0 ≤ f ∧ f < 3) → lk S 0 f i = 0 → F (.inl 0) M) : zcv (zv 7 tX7_itemRefusal) [.inr (.inr 0), .inl 0, .inl f, .inl i] M F := by
  refine zcvv rfl ?_
  unfold zIR at z1 z2
  obtain ⟨l1, l2, l3, l4⟩ := RX_L40 h
  by_cases e : S 12 0 = 0
  · have e1 := l2 e
    have ek : lk S 0 f i = 1 := by unfold lk; rw [if_pos e]
    rw [ek] at lack
    have lack := fun q => lack q (by decide)
    simp only [↓eX7_itemRefusal, ↓rX7_itemRefusal_0, ↓rX7_itemRefusal_1, ↓rX7_itemRefusal_2, ↓rX7_itemRefusal_5, ↓rX7_itemRefusal_8, ↓rX7_itemRefusal_9, ↓rX7_itemRefusal_10, ↓rX7_itemRefusal_13, ↓rX7_itemRefusal_16, ↓rX7_itemRefusal_18, ↓rX7_itemRefusal_19, ↓rX7_itemRefusal_20, ↓rX7_itemRefusal_23, ↓rX7_itemRefusal_24, ↓rX7_itemRefusal_25, ↓rX7_itemRefusal_27, ↓rX7_itemRefusal_29, ↓rX7_itemRefusal_32, ↓rX7_itemRefusal_35, ↓rX7_itemRefusal_36, ↓rX7_itemRefusal_37, ↓rX7_itemRefusal_40, ↓rX7_itemRefusal_41, ↓rX7_itemRefusal_43, ↓rX7_itemRefusal_46, ↓rX7_itemRefusal_47, ↓rX7_itemRefusal_50, ↓rX7_itemRefusal_51, ↓rX7_itemRefusal_52, ↓rX7_itemRefusal_55, ↓rX7_itemRefusal_56, ↓rX7_itemRefusal_57, ↓rX7_itemRefusal_59, ↓rX7_itemRefusal_62, ↓rX7_itemRefusal_65, ↓rX7_itemRefusal_68, ↓rX7_itemRefusal_69, ↓rX7_itemRefusal_70, ↓rX7_itemRefusal_73, ↓rX7_itemRefusal_77, ↓rX7_itemRefusal_76, ↓hg_fX7_134_38, ↓hg_fX7_134_40, ↓hg_fX7_134_42, ↓hg_fX7_134_44, ↓hg_fX7_299_38, ↓hg_fX7_299_40, ↓hg_fX7_299_42, ↓hg_fX7_299_44, ↓hg_fX7_44_0, ↓hrow_22, ↓i_finding, ↓i_isLost38, ↓i_isLost40, ↓i_isLost42, ↓i_isLost44, ↓i_outside, ↓reduceIte, ↓hrw, ↓hgd0, ↓hgd1, ↓hgd2, ↓hgd3, zkeep_n, zkeep_i, zkeep_r, zkeep_l, zIR, zLR, List.length_cons, List.length_nil, Nat.reduceAdd, Nat.reduceLeDiff, Nat.reduceEqDiff, Nat.reduceSub, Int.reduceLE, Int.reduceLT, Int.reduceEq, Int.reduceNe, Int.reduceNeg, Int.reduceAdd, Int.reduceSub, Int.reduceMul, Int.reduceToNat, Nat.le_refl, Nat.zero_le, Nat.zero_add, Int.zero_add, Int.add_zero, and_true, true_and, and_false, false_and, not_true_eq_false, not_false_eq_true, eq_self, ne_eq, true_implies, false_implies, implies_true, or_true, true_or, or_false, false_or, reduceCtorEq, Option.some.injEq, Sum.inl.injEq, exists_eq_left', exists_eq_left, e1, zite]
    repeat' (first | with_reducible apply And.intro | with_reducible intro _)
    all_goals first | omega | (exact bad (by omega)) | (exact lack (by omega))
  · obtain ⟨l5, l6⟩ := l3 (by omega)
    have e1 := l5.1
    have e2 := l6.1
    have k3 : (0 ≤ f ∧ f < 3) → S 13 0 ≠ f → F (.inl (-10 - 3)) (zup M 0 6 3) := fun q1 q2 => by
      have ek : lk S 0 f i = 3 := by unfold lk; rw [if_neg e, if_pos q2]
      rw [ek] at lack
      exact lack q1 (by decide)
    have k2 : (0 ≤ f ∧ f < 3) → S 13 0 = f → ¬ (0 ≤ i ∧ i < S 14 0) → F (.inl (-10 - 2)) (zup M 0 6 2) := fun q1 q2 q3 => by
      have ek : lk S 0 f i = 2 := by unfold lk; rw [if_neg e, if_neg (fun z => z q2), if_neg q3]
      rw [ek] at lack
      exact lack q1 (by decide)
    have k0 : (0 ≤ f ∧ f < 3) → S 13 0 = f → (0 ≤ i ∧ i < S 14 0) → F (.inl 0) M := fun q1 q2 q3 => by
      have ek : lk S 0 f i = 0 := by unfold lk; rw [if_neg e, if_neg (fun z => z q2), if_pos q3]
      exact ok q1 ek
    simp only [↓eX7_itemRefusal, ↓rX7_itemRefusal_0, ↓rX7_itemRefusal_1, ↓rX7_itemRefusal_2, ↓rX7_itemRefusal_5, ↓rX7_itemRefusal_8, ↓rX7_itemRefusal_9, ↓rX7_itemRefusal_10, ↓rX7_itemRefusal_13, ↓rX7_itemRefusal_16, ↓rX7_itemRefusal_18, ↓rX7_itemRefusal_19, ↓rX7_itemRefusal_20, ↓rX7_itemRefusal_23, ↓rX7_itemRefusal_24, ↓rX7_itemRefusal_25, ↓rX7_itemRefusal_27, ↓rX7_itemRefusal_29, ↓rX7_itemRefusal_32, ↓rX7_itemRefusal_35, ↓rX7_itemRefusal_36, ↓rX7_itemRefusal_37, ↓rX7_itemRefusal_40, ↓rX7_itemRefusal_41, ↓rX7_itemRefusal_43, ↓rX7_itemRefusal_46, ↓rX7_itemRefusal_47, ↓rX7_itemRefusal_50, ↓rX7_itemRefusal_51, ↓rX7_itemRefusal_52, ↓rX7_itemRefusal_55, ↓rX7_itemRefusal_56, ↓rX7_itemRefusal_57, ↓rX7_itemRefusal_59, ↓rX7_itemRefusal_62, ↓rX7_itemRefusal_65, ↓rX7_itemRefusal_68, ↓rX7_itemRefusal_69, ↓rX7_itemRefusal_70, ↓rX7_itemRefusal_73, ↓rX7_itemRefusal_77, ↓rX7_itemRefusal_76, ↓hg_fX7_134_38, ↓hg_fX7_134_40, ↓hg_fX7_134_42, ↓hg_fX7_134_44, ↓hg_fX7_299_38, ↓hg_fX7_299_40, ↓hg_fX7_299_42, ↓hg_fX7_299_44, ↓hg_fX7_44_0, ↓hrow_22, ↓i_finding, ↓i_isLost38, ↓i_isLost40, ↓i_isLost42, ↓i_isLost44, ↓i_outside, ↓reduceIte, ↓hrw, ↓hgd0, ↓hgd1, ↓hgd2, ↓hgd3, zkeep_n, zkeep_i, zkeep_r, zkeep_l, zIR, zLR, List.length_cons, List.length_nil, Nat.reduceAdd, Nat.reduceLeDiff, Nat.reduceEqDiff, Nat.reduceSub, Int.reduceLE, Int.reduceLT, Int.reduceEq, Int.reduceNe, Int.reduceNeg, Int.reduceAdd, Int.reduceSub, Int.reduceMul, Int.reduceToNat, Nat.le_refl, Nat.zero_le, Nat.zero_add, Int.zero_add, Int.add_zero, and_true, true_and, and_false, false_and, not_true_eq_false, not_false_eq_true, eq_self, ne_eq, true_implies, false_implies, implies_true, or_true, true_or, or_false, false_or, reduceCtorEq, Option.some.injEq, Sum.inl.injEq, exists_eq_left', exists_eq_left, e1, e2, zite]
    repeat' (first | with_reducible apply And.intro | with_reducible intro _)
    all_goals first | omega | (exact bad (by omega)) | (exact k3 (by omega) (by omega)) | (exact k2 (by omega) (by omega) (by omega)) | (exact k0 (by omega) (by omega) (by omega))
theorem lk_ok0 {S M : zM} {f i : Int} (h : RX S M) (e : lk S 0 f i = 0) : S 12 0 = 1 ∧ S 13 0 = f ∧ (0 ≤ i ∧ i < S 14 0) ∧ S 14 0 ≤ 60 := by
  obtain ⟨l1, l2, l3, l4⟩ := RX_L40 h
  unfold lk at e
  split at e
  · omega
  · split at e
    · omega
    · split at e
      · have := l3 (by omega)
        omega
      · omega
set_option maxRecDepth 100000 in
set_option maxHeartbeats 4000000 in
theorem x_put0 {S M : zM} {R : zP} {f i v : Int} (h : RX S M) (z1 : zIR f) (z2 : zIR i) (z3 : zIR v) (hR : ∀ M', RX (mPut S 0 f i v) M' → XF M M' → R (some (.inl (aPut S 0 f i))) M') : tX7_put [.inr (.inr 0), .inl 0, .inl f, .inl i, .inl v] M R := by
  unfold mPut aPut at hR
  have g0 : (0 : Int) ≤ 0 ∧ (0 : Int) < 4 := by decide
  have lkR := lk_R S 0 f i
  simp only [↓eX7_put, ↓rX7_put_0, ↓rX7_put_1, ↓rX7_put_2, ↓rX7_put_3, ↓rX7_put_4, ↓reduceIte, zkeep_n, zkeep_i, zkeep_r, zkeep_l, zup_eq, zIR, zLR, List.length_cons, List.length_nil, Nat.reduceAdd, Nat.reduceLeDiff, Nat.reduceEqDiff, Nat.reduceSub, Int.reduceLE, Int.reduceLT, Int.reduceEq, Int.reduceNe, Int.reduceNeg, Int.reduceAdd, Int.reduceSub, Int.reduceMul, Int.reduceToNat, Nat.le_refl, Nat.zero_le, Nat.zero_add, Int.zero_add, Int.add_zero, and_true, true_and, and_false, false_and, not_true_eq_false, not_false_eq_true, eq_self, ne_eq, true_implies, false_implies, implies_true, or_true, true_or, or_false, false_or, reduceCtorEq, Option.some.injEq, Sum.inl.injEq, exists_eq_left', exists_eq_left, zite]
  refine s_item0 h z1 z2 (fun q => ?_) (fun q1 q2 => ?_) (fun q1 q2 => ?_)
  · have fin := hR M (by rw [if_neg (fun z => q z.2)]; exact h) XF.rfl
    rw [if_neg (fun z => q z.2)] at fin
    simp only [↓rX7_put_7, ↓rX7_put_9, ↓rX7_put_11, ↓rX7_put_14, ↓rX7_put_16, ↓rX7_put_17, ↓rX7_put_18, ↓rX7_put_21, ↓rX7_put_22, ↓rX7_put_23, ↓rX7_put_24, ↓rX7_put_26, ↓rX7_put_29, ↓rX7_put_30, ↓hg_fX7_44_0, ↓hrow_22, ↓i_store38, ↓i_store40, ↓i_store42, ↓i_store44, ↓reduceIte, zkeep_n, zkeep_i, zkeep_r, zkeep_l, zup_eq, zIR, zLR, List.length_cons, List.length_nil, Nat.reduceAdd, Nat.reduceLeDiff, Nat.reduceEqDiff, Nat.reduceSub, Int.reduceLE, Int.reduceLT, Int.reduceEq, Int.reduceNe, Int.reduceNeg, Int.reduceAdd, Int.reduceSub, Int.reduceMul, Int.reduceToNat, Nat.le_refl, Nat.zero_le, Nat.zero_add, Int.zero_add, Int.add_zero, and_true, true_and, and_false, false_and, not_true_eq_false, not_false_eq_true, eq_self, ne_eq, true_implies, false_implies, implies_true, or_true, true_or, or_false, false_or, reduceCtorEq, Option.some.injEq, Sum.inl.injEq, exists_eq_left', exists_eq_left, zite]
    exact fin
  · have fin := hR _ (by rw [if_pos ⟨g0, q1⟩, if_neg q2]; exact RX_find h lkR) XF_find
    rw [if_pos ⟨g0, q1⟩, if_neg q2] at fin
    simp only [↓rX7_put_7, ↓rX7_put_9, ↓rX7_put_11, ↓rX7_put_14, ↓rX7_put_16, ↓reduceIte, zkeep_n, zkeep_i, zkeep_r, zkeep_l, zIR, zLR, List.length_cons, List.length_nil, Nat.reduceAdd, Nat.reduceLeDiff, Nat.reduceEqDiff, Nat.reduceSub, Int.reduceLE, Int.reduceLT, Int.reduceEq, Int.reduceNe, Int.reduceNeg, Int.reduceAdd, Int.reduceSub, Int.reduceMul, Int.reduceToNat, Nat.le_refl, Nat.zero_le, Nat.zero_add, Int.zero_add, Int.add_zero, and_true, true_and, and_false, false_and, not_true_eq_false, not_false_eq_true, eq_self, ne_eq, true_implies, false_implies, implies_true, or_true, true_or, or_false, false_or, reduceCtorEq, Option.some.injEq, Sum.inl.injEq, exists_eq_left', exists_eq_left, zite]
    repeat' (first | with_reducible apply And.intro | with_reducible intro _)
    all_goals first | omega | (exact fin)
  · obtain ⟨k1, k2, k3, k4⟩ := lk_ok0 h q2
    obtain ⟨l1, l2, l3, l4⟩ := RX_L40 h
    obtain ⟨l5, l6⟩ := l3 k1
    have e1 : M 38 1 = f := l5.1.trans k2
    have fin : ∀ w, w = zconv f v → R (some (.inl 1)) (zup M 39 i w) := fun w hw => by
      have := hR (zup M 39 i w) (by
        rw [if_pos ⟨g0, q1⟩, if_pos q2]
        refine RX_one0 h (fun k x hk => zup_ne (by simp; omega)) (fun k x h1 h2 h3 h4 h5 h6 => zup_ne (by simp; omega)) (fun k x h1 h2 h3 => zup_ne h3) ?_
        refine ⟨l1, ?_, ?_, fun x a b => ?_⟩
        · rw [zup_ne (by decide), zup_ne (by decide)]
          exact l2
        · rw [zup_ne (by decide), zup_ne (by decide), zup_ne (by decide), zup_ne (by decide), zup_ne (by decide)]
          exact l3
        · rw [zup_in, show zup S (15 + (0 : Int).toNat) i (zconv f v) 15 x = if x = i then zconv f v else S 15 x from zup_in]
          split
          · exact ⟨hw, zconv_R z3⟩
          · exact l4 x a b) (fun k x hk => zup_ne (by omega))
      rw [if_pos ⟨g0, q1⟩, if_pos q2] at this
      exact this
    simp only [↓rX7_put_7, ↓rX7_put_9, ↓rX7_put_11, ↓rX7_put_14, ↓rX7_put_16, ↓rX7_put_17, ↓rX7_put_18, ↓rX7_put_21, ↓rX7_put_22, ↓rX7_put_23, ↓rX7_put_24, ↓rX7_put_26, ↓rX7_put_29, ↓rX7_put_30, ↓hg_fX7_44_0, ↓hrow_22, ↓i_store38, ↓i_store40, ↓i_store42, ↓i_store44, ↓reduceIte, ↓hrw, ↓hgd0, ↓hgd1, ↓hgd2, ↓hgd3, zkeep_n, zkeep_i, zkeep_r, zkeep_l, zIR, zLR, List.length_cons, List.length_nil, Nat.reduceAdd, Nat.reduceLeDiff, Nat.reduceEqDiff, Nat.reduceSub, Int.reduceLE, Int.reduceLT, Int.reduceEq, Int.reduceNe, Int.reduceNeg, Int.reduceAdd, Int.reduceSub, Int.reduceMul, Int.reduceToNat, Nat.le_refl, Nat.zero_le, Nat.zero_add, Int.zero_add, Int.add_zero, and_true, true_and, and_false, false_and, not_true_eq_false, not_false_eq_true, eq_self, ne_eq, true_implies, false_implies, implies_true, or_true, true_or, or_false, false_or, reduceCtorEq, Option.some.injEq, Sum.inl.injEq, exists_eq_left', exists_eq_left, e1, zite]
    repeat' (first | with_reducible apply And.intro | with_reducible intro _)
    all_goals first | omega | (refine fin _ ?_; unfold zconv; rw [if_pos (by omega)]) | (refine fin _ ?_; unfold zconv; rw [if_neg (by omega), if_pos (by omega)]) | (refine fin _ ?_; unfold zconv; rw [if_neg (by omega), if_neg (by omega)])
set_option maxRecDepth 100000 in
set_option maxHeartbeats 4000000 in
theorem x_get0 {S M : zM} {R : zP} {f i : Int} (h : RX S M) (z1 : zIR f) (z2 : zIR i) (hR : ∀ M', RX (mGet S 0 f i) M' → XF M M' → R (some (.inl (aGet S 0 f i))) M') : tX7_get [.inr (.inr 0), .inl 0, .inl f, .inl i] M R := by
  unfold mGet aGet at hR
  have g0 : (0 : Int) ≤ 0 ∧ (0 : Int) < 4 := by decide
  have lkR := lk_R S 0 f i
  simp only [↓eX7_get, ↓rX7_get_0, ↓rX7_get_1, ↓rX7_get_2, ↓rX7_get_3, ↓rX7_get_4, ↓reduceIte, zkeep_n, zkeep_i, zkeep_r, zkeep_l, zup_eq, zIR, zLR, List.length_cons, List.length_nil, Nat.reduceAdd, Nat.reduceLeDiff, Nat.reduceEqDiff, Nat.reduceSub, Int.reduceLE, Int.reduceLT, Int.reduceEq, Int.reduceNe, Int.reduceNeg, Int.reduceAdd, Int.reduceSub, Int.reduceMul, Int.reduceToNat, Nat.le_refl, Nat.zero_le, Nat.zero_add, Int.zero_add, Int.add_zero, and_true, true_and, and_false, false_and, not_true_eq_false, not_false_eq_true, eq_self, ne_eq, true_implies, false_implies, implies_true, or_true, true_or, or_false, false_or, reduceCtorEq, Option.some.injEq, Sum.inl.injEq, exists_eq_left', exists_eq_left, zite]
  refine s_item0 h z1 z2 (fun q => ?_) (fun q1 q2 => ?_) (fun q1 q2 => ?_)
  · have fin := hR M (by rw [if_neg (fun z => q z.2)]; exact h) XF.rfl
    rw [if_neg (fun z => q z.2)] at fin
    simp only [↓rX7_get_7, ↓rX7_get_10, ↓rX7_get_13, ↓reduceIte, zkeep_n, zkeep_i, zkeep_r, zkeep_l, zup_eq, zIR, zLR, List.length_cons, List.length_nil, Nat.reduceAdd, Nat.reduceLeDiff, Nat.reduceEqDiff, Nat.reduceSub, Int.reduceLE, Int.reduceLT, Int.reduceEq, Int.reduceNe, Int.reduceNeg, Int.reduceAdd, Int.reduceSub, Int.reduceMul, Int.reduceToNat, Nat.le_refl, Nat.zero_le, Nat.zero_add, Int.zero_add, Int.add_zero, and_true, true_and, and_false, false_and, not_true_eq_false, not_false_eq_true, eq_self, ne_eq, true_implies, false_implies, implies_true, or_true, true_or, or_false, false_or, reduceCtorEq, Option.some.injEq, Sum.inl.injEq, exists_eq_left', exists_eq_left, zite]
    exact fin
  · have fin := hR _ (by rw [if_pos ⟨g0, q1⟩, if_neg q2]; exact RX_find h lkR) XF_find
    rw [if_pos ⟨g0, q1⟩, if_neg q2] at fin
    simp only [↓rX7_get_7, ↓rX7_get_10, ↓rX7_get_13, ↓reduceIte, zkeep_n, zkeep_i, zkeep_r, zkeep_l, zIR, zLR, List.length_cons, List.length_nil, Nat.reduceAdd, Nat.reduceLeDiff, Nat.reduceEqDiff, Nat.reduceSub, Int.reduceLE, Int.reduceLT, Int.reduceEq, Int.reduceNe, Int.reduceNeg, Int.reduceAdd, Int.reduceSub, Int.reduceMul, Int.reduceToNat, Nat.le_refl, Nat.zero_le, Nat.zero_add, Int.zero_add, Int.add_zero, and_true, true_and, and_false, false_and, not_true_eq_false, not_false_eq_true, eq_self, ne_eq, true_implies, false_implies, implies_true, or_true, true_or, or_false, false_or, reduceCtorEq, Option.some.injEq, Sum.inl.injEq, exists_eq_left', exists_eq_left, zite]
    repeat' (first | with_reducible apply And.intro | with_reducible intro _)
    all_goals first | omega | (exact fin)
  · obtain ⟨k1, k2, k3, k4⟩ := lk_ok0 h q2
    obtain ⟨l1, l2, l3, l4⟩ := RX_L40 h
    have fin := hR M (by rw [if_pos ⟨g0, q1⟩, if_pos q2]; exact h) XF.rfl
    rw [if_pos ⟨g0, q1⟩, if_pos q2] at fin
    have e1 := (l4 i (by omega) (by omega)).1
    simp only [↓rX7_get_7, ↓rX7_get_10, ↓rX7_get_13, ↓rX7_get_14, ↓rX7_get_15, ↓rX7_get_18, ↓rX7_get_19, ↓rX7_get_20, ↓rX7_get_23, ↓rX7_get_24, ↓rX7_get_25, ↓hg_fX7_137_38, ↓hg_fX7_137_40, ↓hg_fX7_137_42, ↓hg_fX7_137_44, ↓hg_fX7_44_0, ↓hr_10, ↓hr_11, ↓hr_13, ↓hr_14, ↓hr_15, ↓hr_16, ↓hr_18, ↓hr_19, ↓hr_2, ↓hr_20, ↓hr_21, ↓hr_24, ↓hr_25, ↓hr_26, ↓hr_28, ↓hr_29, ↓hr_3, ↓hr_30, ↓hr_33, ↓hr_34, ↓hr_35, ↓hr_36, ↓hr_37, ↓hr_39, ↓hr_41, ↓hr_43, ↓hr_45, ↓hr_5, ↓hr_6, ↓hr_8, ↓hr_9, ↓hr_fX7_104, ↓hrow_22, ↓hw_10, ↓hw_11, ↓hw_13, ↓hw_14, ↓hw_15, ↓hw_16, ↓hw_18, ↓hw_19, ↓hw_2, ↓hw_20, ↓hw_21, ↓hw_24, ↓hw_25, ↓hw_26, ↓hw_28, ↓hw_29, ↓hw_3, ↓hw_30, ↓hw_33, ↓hw_34, ↓hw_35, ↓hw_36, ↓hw_37, ↓hw_39, ↓hw_41, ↓hw_43, ↓hw_45, ↓hw_5, ↓hw_6, ↓hw_8, ↓hw_9, ↓reduceIte, ↓hrw, ↓hgd0, ↓hgd1, ↓hgd2, ↓hgd3, zkeep_n, zkeep_i, zkeep_r, zkeep_l, zup_eq, zIR, zLR, List.length_cons, List.length_nil, Nat.reduceAdd, Nat.reduceLeDiff, Nat.reduceEqDiff, Nat.reduceSub, Int.reduceLE, Int.reduceLT, Int.reduceEq, Int.reduceNe, Int.reduceNeg, Int.reduceAdd, Int.reduceSub, Int.reduceMul, Int.reduceToNat, Nat.le_refl, Nat.zero_le, Nat.zero_add, Int.zero_add, Int.add_zero, and_true, true_and, and_false, false_and, not_true_eq_false, not_false_eq_true, eq_self, ne_eq, true_implies, false_implies, implies_true, or_true, true_or, or_false, false_or, reduceCtorEq, Option.some.injEq, Sum.inl.injEq, exists_eq_left', exists_eq_left, e1, zite]
    repeat' (first | with_reducible apply And.intro | with_reducible intro _)
    all_goals first | omega | (exact fin)
set_option maxRecDepth 100000 in
set_option maxHeartbeats 4000000 in
theorem s_item1 {S M : zM} {F : zV → zM → Prop} {f i : Int} (h : RX S M) (z1 : zIR f) (z2 : zIR i) (bad : ¬ (0 ≤ f ∧ f < 3) → F (.inl (-2)) M) (lack : (0 ≤ f ∧ f < 3) → lk S 1 f i ≠ 0 → F (.inl (-10 - lk S 1 f i)) (zup M 0 6 (lk S 1 f i))) (ok : (0 ≤ f ∧ f < 3) → lk S 1 f i = 0 → F (.inl 0) M) : zcv (zv 7 tX7_itemRefusal) [.inr (.inr 0), .inl 1, .inl f, .inl i] M F := by
  refine zcvv rfl ?_
  unfold zIR at z1 z2
  obtain ⟨l1, l2, l3, l4⟩ := RX_L41 h
  by_cases e : S 12 1 = 0
  · have e1 := l2 e
    have ek : lk S 1 f i = 1 := by unfold lk; rw [if_pos e]
    rw [ek] at lack
    have lack := fun q => lack q (by decide)
    simp only [↓eX7_itemRefusal, ↓rX7_itemRefusal_0, ↓rX7_itemRefusal_1, ↓rX7_itemRefusal_2, ↓rX7_itemRefusal_5, ↓rX7_itemRefusal_8, ↓rX7_itemRefusal_9, ↓rX7_itemRefusal_10, ↓rX7_itemRefusal_13, ↓rX7_itemRefusal_16, ↓rX7_itemRefusal_18, ↓rX7_itemRefusal_19, ↓rX7_itemRefusal_20, ↓rX7_itemRefusal_23, ↓rX7_itemRefusal_24, ↓rX7_itemRefusal_25, ↓rX7_itemRefusal_27, ↓rX7_itemRefusal_29, ↓rX7_itemRefusal_32, ↓rX7_itemRefusal_35, ↓rX7_itemRefusal_36, ↓rX7_itemRefusal_37, ↓rX7_itemRefusal_40, ↓rX7_itemRefusal_41, ↓rX7_itemRefusal_43, ↓rX7_itemRefusal_46, ↓rX7_itemRefusal_47, ↓rX7_itemRefusal_50, ↓rX7_itemRefusal_51, ↓rX7_itemRefusal_52, ↓rX7_itemRefusal_55, ↓rX7_itemRefusal_56, ↓rX7_itemRefusal_57, ↓rX7_itemRefusal_59, ↓rX7_itemRefusal_62, ↓rX7_itemRefusal_65, ↓rX7_itemRefusal_68, ↓rX7_itemRefusal_69, ↓rX7_itemRefusal_70, ↓rX7_itemRefusal_73, ↓rX7_itemRefusal_77, ↓rX7_itemRefusal_76, ↓hg_fX7_134_38, ↓hg_fX7_134_40, ↓hg_fX7_134_42, ↓hg_fX7_134_44, ↓hg_fX7_299_38, ↓hg_fX7_299_40, ↓hg_fX7_299_42, ↓hg_fX7_299_44, ↓hg_fX7_44_0, ↓hrow_22, ↓i_finding, ↓i_isLost38, ↓i_isLost40, ↓i_isLost42, ↓i_isLost44, ↓i_outside, ↓reduceIte, ↓hrw, ↓hgd0, ↓hgd1, ↓hgd2, ↓hgd3, zkeep_n, zkeep_i, zkeep_r, zkeep_l, zIR, zLR, List.length_cons, List.length_nil, Nat.reduceAdd, Nat.reduceLeDiff, Nat.reduceEqDiff, Nat.reduceSub, Int.reduceLE, Int.reduceLT, Int.reduceEq, Int.reduceNe, Int.reduceNeg, Int.reduceAdd, Int.reduceSub, Int.reduceMul, Int.reduceToNat, Nat.le_refl, Nat.zero_le, Nat.zero_add, Int.zero_add, Int.add_zero, and_true, true_and, and_false, false_and, not_true_eq_false, not_false_eq_true, eq_self, ne_eq, true_implies, false_implies, implies_true, or_true, true_or, or_false, false_or, reduceCtorEq, Option.some.injEq, Sum.inl.injEq, exists_eq_left', exists_eq_left, e1, zite]
    repeat' (first | with_reducible apply And.intro | with_reducible intro _)
    all_goals first | omega | (exact bad (by omega)) | (exact lack (by omega))
  · obtain ⟨l5, l6⟩ := l3 (by omega)
    have e1 := l5.1
    have e2 := l6.1
    have k3 : (0 ≤ f ∧ f < 3) → S 13 1 ≠ f → F (.inl (-10 - 3)) (zup M 0 6 3) := fun q1 q2 => by
      have ek : lk S 1 f i = 3 := by unfold lk; rw [if_neg e, if_pos q2]
      rw [ek] at lack
      exact lack q1 (by decide)
    have k2 : (0 ≤ f ∧ f < 3) → S 13 1 = f → ¬ (0 ≤ i ∧ i < S 14 1) → F (.inl (-10 - 2)) (zup M 0 6 2) := fun q1 q2 q3 => by
      have ek : lk S 1 f i = 2 := by unfold lk; rw [if_neg e, if_neg (fun z => z q2), if_neg q3]
      rw [ek] at lack
      exact lack q1 (by decide)
    have k0 : (0 ≤ f ∧ f < 3) → S 13 1 = f → (0 ≤ i ∧ i < S 14 1) → F (.inl 0) M := fun q1 q2 q3 => by
      have ek : lk S 1 f i = 0 := by unfold lk; rw [if_neg e, if_neg (fun z => z q2), if_pos q3]
      exact ok q1 ek
    simp only [↓eX7_itemRefusal, ↓rX7_itemRefusal_0, ↓rX7_itemRefusal_1, ↓rX7_itemRefusal_2, ↓rX7_itemRefusal_5, ↓rX7_itemRefusal_8, ↓rX7_itemRefusal_9, ↓rX7_itemRefusal_10, ↓rX7_itemRefusal_13, ↓rX7_itemRefusal_16, ↓rX7_itemRefusal_18, ↓rX7_itemRefusal_19, ↓rX7_itemRefusal_20, ↓rX7_itemRefusal_23, ↓rX7_itemRefusal_24, ↓rX7_itemRefusal_25, ↓rX7_itemRefusal_27, ↓rX7_itemRefusal_29, ↓rX7_itemRefusal_32, ↓rX7_itemRefusal_35, ↓rX7_itemRefusal_36, ↓rX7_itemRefusal_37, ↓rX7_itemRefusal_40, ↓rX7_itemRefusal_41, ↓rX7_itemRefusal_43, ↓rX7_itemRefusal_46, ↓rX7_itemRefusal_47, ↓rX7_itemRefusal_50, ↓rX7_itemRefusal_51, ↓rX7_itemRefusal_52, ↓rX7_itemRefusal_55, ↓rX7_itemRefusal_56, ↓rX7_itemRefusal_57, ↓rX7_itemRefusal_59, ↓rX7_itemRefusal_62, ↓rX7_itemRefusal_65, ↓rX7_itemRefusal_68, ↓rX7_itemRefusal_69, ↓rX7_itemRefusal_70, ↓rX7_itemRefusal_73, ↓rX7_itemRefusal_77, ↓rX7_itemRefusal_76, ↓hg_fX7_134_38, ↓hg_fX7_134_40, ↓hg_fX7_134_42, ↓hg_fX7_134_44, ↓hg_fX7_299_38, ↓hg_fX7_299_40, ↓hg_fX7_299_42, ↓hg_fX7_299_44, ↓hg_fX7_44_0, ↓hrow_22, ↓i_finding, ↓i_isLost38, ↓i_isLost40, ↓i_isLost42, ↓i_isLost44, ↓i_outside, ↓reduceIte, ↓hrw, ↓hgd0, ↓hgd1, ↓hgd2, ↓hgd3, zkeep_n, zkeep_i, zkeep_r, zkeep_l, zIR, zLR, List.length_cons, List.length_nil, Nat.reduceAdd, Nat.reduceLeDiff, Nat.reduceEqDiff, Nat.reduceSub, Int.reduceLE, Int.reduceLT, Int.reduceEq, Int.reduceNe, Int.reduceNeg, Int.reduceAdd, Int.reduceSub, Int.reduceMul, Int.reduceToNat, Nat.le_refl, Nat.zero_le, Nat.zero_add, Int.zero_add, Int.add_zero, and_true, true_and, and_false, false_and, not_true_eq_false, not_false_eq_true, eq_self, ne_eq, true_implies, false_implies, implies_true, or_true, true_or, or_false, false_or, reduceCtorEq, Option.some.injEq, Sum.inl.injEq, exists_eq_left', exists_eq_left, e1, e2, zite]
    repeat' (first | with_reducible apply And.intro | with_reducible intro _)
    all_goals first | omega | (exact bad (by omega)) | (exact k3 (by omega) (by omega)) | (exact k2 (by omega) (by omega) (by omega)) | (exact k0 (by omega) (by omega) (by omega))
theorem lk_ok1 {S M : zM} {f i : Int} (h : RX S M) (e : lk S 1 f i = 0) : S 12 1 = 1 ∧ S 13 1 = f ∧ (0 ≤ i ∧ i < S 14 1) ∧ S 14 1 ≤ 60 := by
  obtain ⟨l1, l2, l3, l4⟩ := RX_L41 h
  unfold lk at e
  split at e
  · omega
  · split at e
    · omega
    · split at e
      · have := l3 (by omega)
        omega
      · omega
set_option maxRecDepth 100000 in
set_option maxHeartbeats 4000000 in
theorem x_put1 {S M : zM} {R : zP} {f i v : Int} (h : RX S M) (z1 : zIR f) (z2 : zIR i) (z3 : zIR v) (hR : ∀ M', RX (mPut S 1 f i v) M' → XF M M' → R (some (.inl (aPut S 1 f i))) M') : tX7_put [.inr (.inr 0), .inl 1, .inl f, .inl i, .inl v] M R := by
  unfold mPut aPut at hR
  have g0 : (0 : Int) ≤ 1 ∧ (1 : Int) < 4 := by decide
  have lkR := lk_R S 1 f i
  simp only [↓eX7_put, ↓rX7_put_0, ↓rX7_put_1, ↓rX7_put_2, ↓rX7_put_3, ↓rX7_put_4, ↓reduceIte, zkeep_n, zkeep_i, zkeep_r, zkeep_l, zup_eq, zIR, zLR, List.length_cons, List.length_nil, Nat.reduceAdd, Nat.reduceLeDiff, Nat.reduceEqDiff, Nat.reduceSub, Int.reduceLE, Int.reduceLT, Int.reduceEq, Int.reduceNe, Int.reduceNeg, Int.reduceAdd, Int.reduceSub, Int.reduceMul, Int.reduceToNat, Nat.le_refl, Nat.zero_le, Nat.zero_add, Int.zero_add, Int.add_zero, and_true, true_and, and_false, false_and, not_true_eq_false, not_false_eq_true, eq_self, ne_eq, true_implies, false_implies, implies_true, or_true, true_or, or_false, false_or, reduceCtorEq, Option.some.injEq, Sum.inl.injEq, exists_eq_left', exists_eq_left, zite]
  refine s_item1 h z1 z2 (fun q => ?_) (fun q1 q2 => ?_) (fun q1 q2 => ?_)
  · have fin := hR M (by rw [if_neg (fun z => q z.2)]; exact h) XF.rfl
    rw [if_neg (fun z => q z.2)] at fin
    simp only [↓rX7_put_7, ↓rX7_put_9, ↓rX7_put_11, ↓rX7_put_14, ↓rX7_put_16, ↓rX7_put_17, ↓rX7_put_18, ↓rX7_put_21, ↓rX7_put_22, ↓rX7_put_23, ↓rX7_put_24, ↓rX7_put_26, ↓rX7_put_29, ↓rX7_put_30, ↓hg_fX7_44_0, ↓hrow_22, ↓i_store38, ↓i_store40, ↓i_store42, ↓i_store44, ↓reduceIte, zkeep_n, zkeep_i, zkeep_r, zkeep_l, zup_eq, zIR, zLR, List.length_cons, List.length_nil, Nat.reduceAdd, Nat.reduceLeDiff, Nat.reduceEqDiff, Nat.reduceSub, Int.reduceLE, Int.reduceLT, Int.reduceEq, Int.reduceNe, Int.reduceNeg, Int.reduceAdd, Int.reduceSub, Int.reduceMul, Int.reduceToNat, Nat.le_refl, Nat.zero_le, Nat.zero_add, Int.zero_add, Int.add_zero, and_true, true_and, and_false, false_and, not_true_eq_false, not_false_eq_true, eq_self, ne_eq, true_implies, false_implies, implies_true, or_true, true_or, or_false, false_or, reduceCtorEq, Option.some.injEq, Sum.inl.injEq, exists_eq_left', exists_eq_left, zite]
    exact fin
  · have fin := hR _ (by rw [if_pos ⟨g0, q1⟩, if_neg q2]; exact RX_find h lkR) XF_find
    rw [if_pos ⟨g0, q1⟩, if_neg q2] at fin
    simp only [↓rX7_put_7, ↓rX7_put_9, ↓rX7_put_11, ↓rX7_put_14, ↓rX7_put_16, ↓reduceIte, zkeep_n, zkeep_i, zkeep_r, zkeep_l, zIR, zLR, List.length_cons, List.length_nil, Nat.reduceAdd, Nat.reduceLeDiff, Nat.reduceEqDiff, Nat.reduceSub, Int.reduceLE, Int.reduceLT, Int.reduceEq, Int.reduceNe, Int.reduceNeg, Int.reduceAdd, Int.reduceSub, Int.reduceMul, Int.reduceToNat, Nat.le_refl, Nat.zero_le, Nat.zero_add, Int.zero_add, Int.add_zero, and_true, true_and, and_false, false_and, not_true_eq_false, not_false_eq_true, eq_self, ne_eq, true_implies, false_implies, implies_true, or_true, true_or, or_false, false_or, reduceCtorEq, Option.some.injEq, Sum.inl.injEq, exists_eq_left', exists_eq_left, zite]
    repeat' (first | with_reducible apply And.intro | with_reducible intro _)
    all_goals first | omega | (exact fin)
  · obtain ⟨k1, k2, k3, k4⟩ := lk_ok1 h q2
    obtain ⟨l1, l2, l3, l4⟩ := RX_L41 h
    obtain ⟨l5, l6⟩ := l3 k1
    have e1 : M 40 1 = f := l5.1.trans k2
    have fin : ∀ w, w = zconv f v → R (some (.inl 1)) (zup M 41 i w) := fun w hw => by
      have := hR (zup M 41 i w) (by
        rw [if_pos ⟨g0, q1⟩, if_pos q2]
        refine RX_one1 h (fun k x hk => zup_ne (by simp; omega)) (fun k x h1 h2 h3 h4 h5 h6 => zup_ne (by simp; omega)) (fun k x h1 h2 h3 => zup_ne h3) ?_
        refine ⟨l1, ?_, ?_, fun x a b => ?_⟩
        · rw [zup_ne (by decide), zup_ne (by decide)]
          exact l2
        · rw [zup_ne (by decide), zup_ne (by decide), zup_ne (by decide), zup_ne (by decide), zup_ne (by decide)]
          exact l3
        · rw [zup_in, show zup S (15 + (1 : Int).toNat) i (zconv f v) 16 x = if x = i then zconv f v else S 16 x from zup_in]
          split
          · exact ⟨hw, zconv_R z3⟩
          · exact l4 x a b) (fun k x hk => zup_ne (by omega))
      rw [if_pos ⟨g0, q1⟩, if_pos q2] at this
      exact this
    simp only [↓rX7_put_7, ↓rX7_put_9, ↓rX7_put_11, ↓rX7_put_14, ↓rX7_put_16, ↓rX7_put_17, ↓rX7_put_18, ↓rX7_put_21, ↓rX7_put_22, ↓rX7_put_23, ↓rX7_put_24, ↓rX7_put_26, ↓rX7_put_29, ↓rX7_put_30, ↓hg_fX7_44_0, ↓hrow_22, ↓i_store38, ↓i_store40, ↓i_store42, ↓i_store44, ↓reduceIte, ↓hrw, ↓hgd0, ↓hgd1, ↓hgd2, ↓hgd3, zkeep_n, zkeep_i, zkeep_r, zkeep_l, zIR, zLR, List.length_cons, List.length_nil, Nat.reduceAdd, Nat.reduceLeDiff, Nat.reduceEqDiff, Nat.reduceSub, Int.reduceLE, Int.reduceLT, Int.reduceEq, Int.reduceNe, Int.reduceNeg, Int.reduceAdd, Int.reduceSub, Int.reduceMul, Int.reduceToNat, Nat.le_refl, Nat.zero_le, Nat.zero_add, Int.zero_add, Int.add_zero, and_true, true_and, and_false, false_and, not_true_eq_false, not_false_eq_true, eq_self, ne_eq, true_implies, false_implies, implies_true, or_true, true_or, or_false, false_or, reduceCtorEq, Option.some.injEq, Sum.inl.injEq, exists_eq_left', exists_eq_left, e1, zite]
    repeat' (first | with_reducible apply And.intro | with_reducible intro _)
    all_goals first | omega | (refine fin _ ?_; unfold zconv; rw [if_pos (by omega)]) | (refine fin _ ?_; unfold zconv; rw [if_neg (by omega), if_pos (by omega)]) | (refine fin _ ?_; unfold zconv; rw [if_neg (by omega), if_neg (by omega)])
set_option maxRecDepth 100000 in
set_option maxHeartbeats 4000000 in
theorem x_get1 {S M : zM} {R : zP} {f i : Int} (h : RX S M) (z1 : zIR f) (z2 : zIR i) (hR : ∀ M', RX (mGet S 1 f i) M' → XF M M' → R (some (.inl (aGet S 1 f i))) M') : tX7_get [.inr (.inr 0), .inl 1, .inl f, .inl i] M R := by
  unfold mGet aGet at hR
  have g0 : (0 : Int) ≤ 1 ∧ (1 : Int) < 4 := by decide
  have lkR := lk_R S 1 f i
  simp only [↓eX7_get, ↓rX7_get_0, ↓rX7_get_1, ↓rX7_get_2, ↓rX7_get_3, ↓rX7_get_4, ↓reduceIte, zkeep_n, zkeep_i, zkeep_r, zkeep_l, zup_eq, zIR, zLR, List.length_cons, List.length_nil, Nat.reduceAdd, Nat.reduceLeDiff, Nat.reduceEqDiff, Nat.reduceSub, Int.reduceLE, Int.reduceLT, Int.reduceEq, Int.reduceNe, Int.reduceNeg, Int.reduceAdd, Int.reduceSub, Int.reduceMul, Int.reduceToNat, Nat.le_refl, Nat.zero_le, Nat.zero_add, Int.zero_add, Int.add_zero, and_true, true_and, and_false, false_and, not_true_eq_false, not_false_eq_true, eq_self, ne_eq, true_implies, false_implies, implies_true, or_true, true_or, or_false, false_or, reduceCtorEq, Option.some.injEq, Sum.inl.injEq, exists_eq_left', exists_eq_left, zite]
  refine s_item1 h z1 z2 (fun q => ?_) (fun q1 q2 => ?_) (fun q1 q2 => ?_)
  · have fin := hR M (by rw [if_neg (fun z => q z.2)]; exact h) XF.rfl
    rw [if_neg (fun z => q z.2)] at fin
    simp only [↓rX7_get_7, ↓rX7_get_10, ↓rX7_get_13, ↓reduceIte, zkeep_n, zkeep_i, zkeep_r, zkeep_l, zup_eq, zIR, zLR, List.length_cons, List.length_nil, Nat.reduceAdd, Nat.reduceLeDiff, Nat.reduceEqDiff, Nat.reduceSub, Int.reduceLE, Int.reduceLT, Int.reduceEq, Int.reduceNe, Int.reduceNeg, Int.reduceAdd, Int.reduceSub, Int.reduceMul, Int.reduceToNat, Nat.le_refl, Nat.zero_le, Nat.zero_add, Int.zero_add, Int.add_zero, and_true, true_and, and_false, false_and, not_true_eq_false, not_false_eq_true, eq_self, ne_eq, true_implies, false_implies, implies_true, or_true, true_or, or_false, false_or, reduceCtorEq, Option.some.injEq, Sum.inl.injEq, exists_eq_left', exists_eq_left, zite]
    exact fin
  · have fin := hR _ (by rw [if_pos ⟨g0, q1⟩, if_neg q2]; exact RX_find h lkR) XF_find
    rw [if_pos ⟨g0, q1⟩, if_neg q2] at fin
    simp only [↓rX7_get_7, ↓rX7_get_10, ↓rX7_get_13, ↓reduceIte, zkeep_n, zkeep_i, zkeep_r, zkeep_l, zIR, zLR, List.length_cons, List.length_nil, Nat.reduceAdd, Nat.reduceLeDiff, Nat.reduceEqDiff, Nat.reduceSub, Int.reduceLE, Int.reduceLT, Int.reduceEq, Int.reduceNe, Int.reduceNeg, Int.reduceAdd, Int.reduceSub, Int.reduceMul, Int.reduceToNat, Nat.le_refl, Nat.zero_le, Nat.zero_add, Int.zero_add, Int.add_zero, and_true, true_and, and_false, false_and, not_true_eq_false, not_false_eq_true, eq_self, ne_eq, true_implies, false_implies, implies_true, or_true, true_or, or_false, false_or, reduceCtorEq, Option.some.injEq, Sum.inl.injEq, exists_eq_left', exists_eq_left, zite]
    repeat' (first | with_reducible apply And.intro | with_reducible intro _)
    all_goals first | omega | (exact fin)
  · obtain ⟨k1, k2, k3, k4⟩ := lk_ok1 h q2
    obtain ⟨l1, l2, l3, l4⟩ := RX_L41 h
    have fin := hR M (by rw [if_pos ⟨g0, q1⟩, if_pos q2]; exact h) XF.rfl
    rw [if_pos ⟨g0, q1⟩, if_pos q2] at fin
    have e1 := (l4 i (by omega) (by omega)).1
    simp only [↓rX7_get_7, ↓rX7_get_10, ↓rX7_get_13, ↓rX7_get_14, ↓rX7_get_15, ↓rX7_get_18, ↓rX7_get_19, ↓rX7_get_20, ↓rX7_get_23, ↓rX7_get_24, ↓rX7_get_25, ↓hg_fX7_137_38, ↓hg_fX7_137_40, ↓hg_fX7_137_42, ↓hg_fX7_137_44, ↓hg_fX7_44_0, ↓hr_10, ↓hr_11, ↓hr_13, ↓hr_14, ↓hr_15, ↓hr_16, ↓hr_18, ↓hr_19, ↓hr_2, ↓hr_20, ↓hr_21, ↓hr_24, ↓hr_25, ↓hr_26, ↓hr_28, ↓hr_29, ↓hr_3, ↓hr_30, ↓hr_33, ↓hr_34, ↓hr_35, ↓hr_36, ↓hr_37, ↓hr_39, ↓hr_41, ↓hr_43, ↓hr_45, ↓hr_5, ↓hr_6, ↓hr_8, ↓hr_9, ↓hr_fX7_104, ↓hrow_22, ↓hw_10, ↓hw_11, ↓hw_13, ↓hw_14, ↓hw_15, ↓hw_16, ↓hw_18, ↓hw_19, ↓hw_2, ↓hw_20, ↓hw_21, ↓hw_24, ↓hw_25, ↓hw_26, ↓hw_28, ↓hw_29, ↓hw_3, ↓hw_30, ↓hw_33, ↓hw_34, ↓hw_35, ↓hw_36, ↓hw_37, ↓hw_39, ↓hw_41, ↓hw_43, ↓hw_45, ↓hw_5, ↓hw_6, ↓hw_8, ↓hw_9, ↓reduceIte, ↓hrw, ↓hgd0, ↓hgd1, ↓hgd2, ↓hgd3, zkeep_n, zkeep_i, zkeep_r, zkeep_l, zup_eq, zIR, zLR, List.length_cons, List.length_nil, Nat.reduceAdd, Nat.reduceLeDiff, Nat.reduceEqDiff, Nat.reduceSub, Int.reduceLE, Int.reduceLT, Int.reduceEq, Int.reduceNe, Int.reduceNeg, Int.reduceAdd, Int.reduceSub, Int.reduceMul, Int.reduceToNat, Nat.le_refl, Nat.zero_le, Nat.zero_add, Int.zero_add, Int.add_zero, and_true, true_and, and_false, false_and, not_true_eq_false, not_false_eq_true, eq_self, ne_eq, true_implies, false_implies, implies_true, or_true, true_or, or_false, false_or, reduceCtorEq, Option.some.injEq, Sum.inl.injEq, exists_eq_left', exists_eq_left, e1, zite]
    repeat' (first | with_reducible apply And.intro | with_reducible intro _)
    all_goals first | omega | (exact fin)
set_option maxRecDepth 100000 in
set_option maxHeartbeats 4000000 in
theorem s_item2 {S M : zM} {F : zV → zM → Prop} {f i : Int} (h : RX S M) (z1 : zIR f) (z2 : zIR i) (bad : ¬ (0 ≤ f ∧ f < 3) → F (.inl (-2)) M) (lack : (0 ≤ f ∧ f < 3) → lk S 2 f i ≠ 0 → F (.inl (-10 - lk S 2 f i)) (zup M 0 6 (lk S 2 f i))) (ok : (0 ≤ f ∧ f < 3) → lk S 2 f i = 0 → F (.inl 0) M) : zcv (zv 7 tX7_itemRefusal) [.inr (.inr 0), .inl 2, .inl f, .inl i] M F := by
  refine zcvv rfl ?_
  unfold zIR at z1 z2
  obtain ⟨l1, l2, l3, l4⟩ := RX_L42 h
  by_cases e : S 12 2 = 0
  · have e1 := l2 e
    have ek : lk S 2 f i = 1 := by unfold lk; rw [if_pos e]
    rw [ek] at lack
    have lack := fun q => lack q (by decide)
    simp only [↓eX7_itemRefusal, ↓rX7_itemRefusal_0, ↓rX7_itemRefusal_1, ↓rX7_itemRefusal_2, ↓rX7_itemRefusal_5, ↓rX7_itemRefusal_8, ↓rX7_itemRefusal_9, ↓rX7_itemRefusal_10, ↓rX7_itemRefusal_13, ↓rX7_itemRefusal_16, ↓rX7_itemRefusal_18, ↓rX7_itemRefusal_19, ↓rX7_itemRefusal_20, ↓rX7_itemRefusal_23, ↓rX7_itemRefusal_24, ↓rX7_itemRefusal_25, ↓rX7_itemRefusal_27, ↓rX7_itemRefusal_29, ↓rX7_itemRefusal_32, ↓rX7_itemRefusal_35, ↓rX7_itemRefusal_36, ↓rX7_itemRefusal_37, ↓rX7_itemRefusal_40, ↓rX7_itemRefusal_41, ↓rX7_itemRefusal_43, ↓rX7_itemRefusal_46, ↓rX7_itemRefusal_47, ↓rX7_itemRefusal_50, ↓rX7_itemRefusal_51, ↓rX7_itemRefusal_52, ↓rX7_itemRefusal_55, ↓rX7_itemRefusal_56, ↓rX7_itemRefusal_57, ↓rX7_itemRefusal_59, ↓rX7_itemRefusal_62, ↓rX7_itemRefusal_65, ↓rX7_itemRefusal_68, ↓rX7_itemRefusal_69, ↓rX7_itemRefusal_70, ↓rX7_itemRefusal_73, ↓rX7_itemRefusal_77, ↓rX7_itemRefusal_76, ↓hg_fX7_134_38, ↓hg_fX7_134_40, ↓hg_fX7_134_42, ↓hg_fX7_134_44, ↓hg_fX7_299_38, ↓hg_fX7_299_40, ↓hg_fX7_299_42, ↓hg_fX7_299_44, ↓hg_fX7_44_0, ↓hrow_22, ↓i_finding, ↓i_isLost38, ↓i_isLost40, ↓i_isLost42, ↓i_isLost44, ↓i_outside, ↓reduceIte, ↓hrw, ↓hgd0, ↓hgd1, ↓hgd2, ↓hgd3, zkeep_n, zkeep_i, zkeep_r, zkeep_l, zIR, zLR, List.length_cons, List.length_nil, Nat.reduceAdd, Nat.reduceLeDiff, Nat.reduceEqDiff, Nat.reduceSub, Int.reduceLE, Int.reduceLT, Int.reduceEq, Int.reduceNe, Int.reduceNeg, Int.reduceAdd, Int.reduceSub, Int.reduceMul, Int.reduceToNat, Nat.le_refl, Nat.zero_le, Nat.zero_add, Int.zero_add, Int.add_zero, and_true, true_and, and_false, false_and, not_true_eq_false, not_false_eq_true, eq_self, ne_eq, true_implies, false_implies, implies_true, or_true, true_or, or_false, false_or, reduceCtorEq, Option.some.injEq, Sum.inl.injEq, exists_eq_left', exists_eq_left, e1, zite]
    repeat' (first | with_reducible apply And.intro | with_reducible intro _)
    all_goals first | omega | (exact bad (by omega)) | (exact lack (by omega))
  · obtain ⟨l5, l6⟩ := l3 (by omega)
    have e1 := l5.1
    have e2 := l6.1
    have k3 : (0 ≤ f ∧ f < 3) → S 13 2 ≠ f → F (.inl (-10 - 3)) (zup M 0 6 3) := fun q1 q2 => by
      have ek : lk S 2 f i = 3 := by unfold lk; rw [if_neg e, if_pos q2]
      rw [ek] at lack
      exact lack q1 (by decide)
    have k2 : (0 ≤ f ∧ f < 3) → S 13 2 = f → ¬ (0 ≤ i ∧ i < S 14 2) → F (.inl (-10 - 2)) (zup M 0 6 2) := fun q1 q2 q3 => by
      have ek : lk S 2 f i = 2 := by unfold lk; rw [if_neg e, if_neg (fun z => z q2), if_neg q3]
      rw [ek] at lack
      exact lack q1 (by decide)
    have k0 : (0 ≤ f ∧ f < 3) → S 13 2 = f → (0 ≤ i ∧ i < S 14 2) → F (.inl 0) M := fun q1 q2 q3 => by
      have ek : lk S 2 f i = 0 := by unfold lk; rw [if_neg e, if_neg (fun z => z q2), if_pos q3]
      exact ok q1 ek
    simp only [↓eX7_itemRefusal, ↓rX7_itemRefusal_0, ↓rX7_itemRefusal_1, ↓rX7_itemRefusal_2, ↓rX7_itemRefusal_5, ↓rX7_itemRefusal_8, ↓rX7_itemRefusal_9, ↓rX7_itemRefusal_10, ↓rX7_itemRefusal_13, ↓rX7_itemRefusal_16, ↓rX7_itemRefusal_18, ↓rX7_itemRefusal_19, ↓rX7_itemRefusal_20, ↓rX7_itemRefusal_23, ↓rX7_itemRefusal_24, ↓rX7_itemRefusal_25, ↓rX7_itemRefusal_27, ↓rX7_itemRefusal_29, ↓rX7_itemRefusal_32, ↓rX7_itemRefusal_35, ↓rX7_itemRefusal_36, ↓rX7_itemRefusal_37, ↓rX7_itemRefusal_40, ↓rX7_itemRefusal_41, ↓rX7_itemRefusal_43, ↓rX7_itemRefusal_46, ↓rX7_itemRefusal_47, ↓rX7_itemRefusal_50, ↓rX7_itemRefusal_51, ↓rX7_itemRefusal_52, ↓rX7_itemRefusal_55, ↓rX7_itemRefusal_56, ↓rX7_itemRefusal_57, ↓rX7_itemRefusal_59, ↓rX7_itemRefusal_62, ↓rX7_itemRefusal_65, ↓rX7_itemRefusal_68, ↓rX7_itemRefusal_69, ↓rX7_itemRefusal_70, ↓rX7_itemRefusal_73, ↓rX7_itemRefusal_77, ↓rX7_itemRefusal_76, ↓hg_fX7_134_38, ↓hg_fX7_134_40, ↓hg_fX7_134_42, ↓hg_fX7_134_44, ↓hg_fX7_299_38, ↓hg_fX7_299_40, ↓hg_fX7_299_42, ↓hg_fX7_299_44, ↓hg_fX7_44_0, ↓hrow_22, ↓i_finding, ↓i_isLost38, ↓i_isLost40, ↓i_isLost42, ↓i_isLost44, ↓i_outside, ↓reduceIte, ↓hrw, ↓hgd0, ↓hgd1, ↓hgd2, ↓hgd3, zkeep_n, zkeep_i, zkeep_r, zkeep_l, zIR, zLR, List.length_cons, List.length_nil, Nat.reduceAdd, Nat.reduceLeDiff, Nat.reduceEqDiff, Nat.reduceSub, Int.reduceLE, Int.reduceLT, Int.reduceEq, Int.reduceNe, Int.reduceNeg, Int.reduceAdd, Int.reduceSub, Int.reduceMul, Int.reduceToNat, Nat.le_refl, Nat.zero_le, Nat.zero_add, Int.zero_add, Int.add_zero, and_true, true_and, and_false, false_and, not_true_eq_false, not_false_eq_true, eq_self, ne_eq, true_implies, false_implies, implies_true, or_true, true_or, or_false, false_or, reduceCtorEq, Option.some.injEq, Sum.inl.injEq, exists_eq_left', exists_eq_left, e1, e2, zite]
    repeat' (first | with_reducible apply And.intro | with_reducible intro _)
    all_goals first | omega | (exact bad (by omega)) | (exact k3 (by omega) (by omega)) | (exact k2 (by omega) (by omega) (by omega)) | (exact k0 (by omega) (by omega) (by omega))
theorem lk_ok2 {S M : zM} {f i : Int} (h : RX S M) (e : lk S 2 f i = 0) : S 12 2 = 1 ∧ S 13 2 = f ∧ (0 ≤ i ∧ i < S 14 2) ∧ S 14 2 ≤ 60 := by
  obtain ⟨l1, l2, l3, l4⟩ := RX_L42 h
  unfold lk at e
  split at e
  · omega
  · split at e
    · omega
    · split at e
      · have := l3 (by omega)
        omega
      · omega
set_option maxRecDepth 100000 in
set_option maxHeartbeats 4000000 in
theorem x_put2 {S M : zM} {R : zP} {f i v : Int} (h : RX S M) (z1 : zIR f) (z2 : zIR i) (z3 : zIR v) (hR : ∀ M', RX (mPut S 2 f i v) M' → XF M M' → R (some (.inl (aPut S 2 f i))) M') : tX7_put [.inr (.inr 0), .inl 2, .inl f, .inl i, .inl v] M R := by
  unfold mPut aPut at hR
  have g0 : (0 : Int) ≤ 2 ∧ (2 : Int) < 4 := by decide
  have lkR := lk_R S 2 f i
  simp only [↓eX7_put, ↓rX7_put_0, ↓rX7_put_1, ↓rX7_put_2, ↓rX7_put_3, ↓rX7_put_4, ↓reduceIte, zkeep_n, zkeep_i, zkeep_r, zkeep_l, zup_eq, zIR, zLR, List.length_cons, List.length_nil, Nat.reduceAdd, Nat.reduceLeDiff, Nat.reduceEqDiff, Nat.reduceSub, Int.reduceLE, Int.reduceLT, Int.reduceEq, Int.reduceNe, Int.reduceNeg, Int.reduceAdd, Int.reduceSub, Int.reduceMul, Int.reduceToNat, Nat.le_refl, Nat.zero_le, Nat.zero_add, Int.zero_add, Int.add_zero, and_true, true_and, and_false, false_and, not_true_eq_false, not_false_eq_true, eq_self, ne_eq, true_implies, false_implies, implies_true, or_true, true_or, or_false, false_or, reduceCtorEq, Option.some.injEq, Sum.inl.injEq, exists_eq_left', exists_eq_left, zite]
  refine s_item2 h z1 z2 (fun q => ?_) (fun q1 q2 => ?_) (fun q1 q2 => ?_)
  · have fin := hR M (by rw [if_neg (fun z => q z.2)]; exact h) XF.rfl
    rw [if_neg (fun z => q z.2)] at fin
    simp only [↓rX7_put_7, ↓rX7_put_9, ↓rX7_put_11, ↓rX7_put_14, ↓rX7_put_16, ↓rX7_put_17, ↓rX7_put_18, ↓rX7_put_21, ↓rX7_put_22, ↓rX7_put_23, ↓rX7_put_24, ↓rX7_put_26, ↓rX7_put_29, ↓rX7_put_30, ↓hg_fX7_44_0, ↓hrow_22, ↓i_store38, ↓i_store40, ↓i_store42, ↓i_store44, ↓reduceIte, zkeep_n, zkeep_i, zkeep_r, zkeep_l, zup_eq, zIR, zLR, List.length_cons, List.length_nil, Nat.reduceAdd, Nat.reduceLeDiff, Nat.reduceEqDiff, Nat.reduceSub, Int.reduceLE, Int.reduceLT, Int.reduceEq, Int.reduceNe, Int.reduceNeg, Int.reduceAdd, Int.reduceSub, Int.reduceMul, Int.reduceToNat, Nat.le_refl, Nat.zero_le, Nat.zero_add, Int.zero_add, Int.add_zero, and_true, true_and, and_false, false_and, not_true_eq_false, not_false_eq_true, eq_self, ne_eq, true_implies, false_implies, implies_true, or_true, true_or, or_false, false_or, reduceCtorEq, Option.some.injEq, Sum.inl.injEq, exists_eq_left', exists_eq_left, zite]
    exact fin
  · have fin := hR _ (by rw [if_pos ⟨g0, q1⟩, if_neg q2]; exact RX_find h lkR) XF_find
    rw [if_pos ⟨g0, q1⟩, if_neg q2] at fin
    simp only [↓rX7_put_7, ↓rX7_put_9, ↓rX7_put_11, ↓rX7_put_14, ↓rX7_put_16, ↓reduceIte, zkeep_n, zkeep_i, zkeep_r, zkeep_l, zIR, zLR, List.length_cons, List.length_nil, Nat.reduceAdd, Nat.reduceLeDiff, Nat.reduceEqDiff, Nat.reduceSub, Int.reduceLE, Int.reduceLT, Int.reduceEq, Int.reduceNe, Int.reduceNeg, Int.reduceAdd, Int.reduceSub, Int.reduceMul, Int.reduceToNat, Nat.le_refl, Nat.zero_le, Nat.zero_add, Int.zero_add, Int.add_zero, and_true, true_and, and_false, false_and, not_true_eq_false, not_false_eq_true, eq_self, ne_eq, true_implies, false_implies, implies_true, or_true, true_or, or_false, false_or, reduceCtorEq, Option.some.injEq, Sum.inl.injEq, exists_eq_left', exists_eq_left, zite]
    repeat' (first | with_reducible apply And.intro | with_reducible intro _)
    all_goals first | omega | (exact fin)
  · obtain ⟨k1, k2, k3, k4⟩ := lk_ok2 h q2
    obtain ⟨l1, l2, l3, l4⟩ := RX_L42 h
    obtain ⟨l5, l6⟩ := l3 k1
    have e1 : M 42 1 = f := l5.1.trans k2
    have fin : ∀ w, w = zconv f v → R (some (.inl 1)) (zup M 43 i w) := fun w hw => by
      have := hR (zup M 43 i w) (by
        rw [if_pos ⟨g0, q1⟩, if_pos q2]
        refine RX_one2 h (fun k x hk => zup_ne (by simp; omega)) (fun k x h1 h2 h3 h4 h5 h6 => zup_ne (by simp; omega)) (fun k x h1 h2 h3 => zup_ne h3) ?_
        refine ⟨l1, ?_, ?_, fun x a b => ?_⟩
        · rw [zup_ne (by decide), zup_ne (by decide)]
          exact l2
        · rw [zup_ne (by decide), zup_ne (by decide), zup_ne (by decide), zup_ne (by decide), zup_ne (by decide)]
          exact l3
        · rw [zup_in, show zup S (15 + (2 : Int).toNat) i (zconv f v) 17 x = if x = i then zconv f v else S 17 x from zup_in]
          split
          · exact ⟨hw, zconv_R z3⟩
          · exact l4 x a b) (fun k x hk => zup_ne (by omega))
      rw [if_pos ⟨g0, q1⟩, if_pos q2] at this
      exact this
    simp only [↓rX7_put_7, ↓rX7_put_9, ↓rX7_put_11, ↓rX7_put_14, ↓rX7_put_16, ↓rX7_put_17, ↓rX7_put_18, ↓rX7_put_21, ↓rX7_put_22, ↓rX7_put_23, ↓rX7_put_24, ↓rX7_put_26, ↓rX7_put_29, ↓rX7_put_30, ↓hg_fX7_44_0, ↓hrow_22, ↓i_store38, ↓i_store40, ↓i_store42, ↓i_store44, ↓reduceIte, ↓hrw, ↓hgd0, ↓hgd1, ↓hgd2, ↓hgd3, zkeep_n, zkeep_i, zkeep_r, zkeep_l, zIR, zLR, List.length_cons, List.length_nil, Nat.reduceAdd, Nat.reduceLeDiff, Nat.reduceEqDiff, Nat.reduceSub, Int.reduceLE, Int.reduceLT, Int.reduceEq, Int.reduceNe, Int.reduceNeg, Int.reduceAdd, Int.reduceSub, Int.reduceMul, Int.reduceToNat, Nat.le_refl, Nat.zero_le, Nat.zero_add, Int.zero_add, Int.add_zero, and_true, true_and, and_false, false_and, not_true_eq_false, not_false_eq_true, eq_self, ne_eq, true_implies, false_implies, implies_true, or_true, true_or, or_false, false_or, reduceCtorEq, Option.some.injEq, Sum.inl.injEq, exists_eq_left', exists_eq_left, e1, zite]
    repeat' (first | with_reducible apply And.intro | with_reducible intro _)
    all_goals first | omega | (refine fin _ ?_; unfold zconv; rw [if_pos (by omega)]) | (refine fin _ ?_; unfold zconv; rw [if_neg (by omega), if_pos (by omega)]) | (refine fin _ ?_; unfold zconv; rw [if_neg (by omega), if_neg (by omega)])
set_option maxRecDepth 100000 in
set_option maxHeartbeats 4000000 in
theorem x_get2 {S M : zM} {R : zP} {f i : Int} (h : RX S M) (z1 : zIR f) (z2 : zIR i) (hR : ∀ M', RX (mGet S 2 f i) M' → XF M M' → R (some (.inl (aGet S 2 f i))) M') : tX7_get [.inr (.inr 0), .inl 2, .inl f, .inl i] M R := by
  unfold mGet aGet at hR
  have g0 : (0 : Int) ≤ 2 ∧ (2 : Int) < 4 := by decide
  have lkR := lk_R S 2 f i
  simp only [↓eX7_get, ↓rX7_get_0, ↓rX7_get_1, ↓rX7_get_2, ↓rX7_get_3, ↓rX7_get_4, ↓reduceIte, zkeep_n, zkeep_i, zkeep_r, zkeep_l, zup_eq, zIR, zLR, List.length_cons, List.length_nil, Nat.reduceAdd, Nat.reduceLeDiff, Nat.reduceEqDiff, Nat.reduceSub, Int.reduceLE, Int.reduceLT, Int.reduceEq, Int.reduceNe, Int.reduceNeg, Int.reduceAdd, Int.reduceSub, Int.reduceMul, Int.reduceToNat, Nat.le_refl, Nat.zero_le, Nat.zero_add, Int.zero_add, Int.add_zero, and_true, true_and, and_false, false_and, not_true_eq_false, not_false_eq_true, eq_self, ne_eq, true_implies, false_implies, implies_true, or_true, true_or, or_false, false_or, reduceCtorEq, Option.some.injEq, Sum.inl.injEq, exists_eq_left', exists_eq_left, zite]
  refine s_item2 h z1 z2 (fun q => ?_) (fun q1 q2 => ?_) (fun q1 q2 => ?_)
  · have fin := hR M (by rw [if_neg (fun z => q z.2)]; exact h) XF.rfl
    rw [if_neg (fun z => q z.2)] at fin
    simp only [↓rX7_get_7, ↓rX7_get_10, ↓rX7_get_13, ↓reduceIte, zkeep_n, zkeep_i, zkeep_r, zkeep_l, zup_eq, zIR, zLR, List.length_cons, List.length_nil, Nat.reduceAdd, Nat.reduceLeDiff, Nat.reduceEqDiff, Nat.reduceSub, Int.reduceLE, Int.reduceLT, Int.reduceEq, Int.reduceNe, Int.reduceNeg, Int.reduceAdd, Int.reduceSub, Int.reduceMul, Int.reduceToNat, Nat.le_refl, Nat.zero_le, Nat.zero_add, Int.zero_add, Int.add_zero, and_true, true_and, and_false, false_and, not_true_eq_false, not_false_eq_true, eq_self, ne_eq, true_implies, false_implies, implies_true, or_true, true_or, or_false, false_or, reduceCtorEq, Option.some.injEq, Sum.inl.injEq, exists_eq_left', exists_eq_left, zite]
    exact fin
  · have fin := hR _ (by rw [if_pos ⟨g0, q1⟩, if_neg q2]; exact RX_find h lkR) XF_find
    rw [if_pos ⟨g0, q1⟩, if_neg q2] at fin
    simp only [↓rX7_get_7, ↓rX7_get_10, ↓rX7_get_13, ↓reduceIte, zkeep_n, zkeep_i, zkeep_r, zkeep_l, zIR, zLR, List.length_cons, List.length_nil, Nat.reduceAdd, Nat.reduceLeDiff, Nat.reduceEqDiff, Nat.reduceSub, Int.reduceLE, Int.reduceLT, Int.reduceEq, Int.reduceNe, Int.reduceNeg, Int.reduceAdd, Int.reduceSub, Int.reduceMul, Int.reduceToNat, Nat.le_refl, Nat.zero_le, Nat.zero_add, Int.zero_add, Int.add_zero, and_true, true_and, and_false, false_and, not_true_eq_false, not_false_eq_true, eq_self, ne_eq, true_implies, false_implies, implies_true, or_true, true_or, or_false, false_or, reduceCtorEq, Option.some.injEq, Sum.inl.injEq, exists_eq_left', exists_eq_left, zite]
    repeat' (first | with_reducible apply And.intro | with_reducible intro _)
    all_goals first | omega | (exact fin)
  · obtain ⟨k1, k2, k3, k4⟩ := lk_ok2 h q2
    obtain ⟨l1, l2, l3, l4⟩ := RX_L42 h
    have fin := hR M (by rw [if_pos ⟨g0, q1⟩, if_pos q2]; exact h) XF.rfl
    rw [if_pos ⟨g0, q1⟩, if_pos q2] at fin
    have e1 := (l4 i (by omega) (by omega)).1
    simp only [↓rX7_get_7, ↓rX7_get_10, ↓rX7_get_13, ↓rX7_get_14, ↓rX7_get_15, ↓rX7_get_18, ↓rX7_get_19, ↓rX7_get_20, ↓rX7_get_23, ↓rX7_get_24, ↓rX7_get_25, ↓hg_fX7_137_38, ↓hg_fX7_137_40, ↓hg_fX7_137_42, ↓hg_fX7_137_44, ↓hg_fX7_44_0, ↓hr_10, ↓hr_11, ↓hr_13, ↓hr_14, ↓hr_15, ↓hr_16, ↓hr_18, ↓hr_19, ↓hr_2, ↓hr_20, ↓hr_21, ↓hr_24, ↓hr_25, ↓hr_26, ↓hr_28, ↓hr_29, ↓hr_3, ↓hr_30, ↓hr_33, ↓hr_34, ↓hr_35, ↓hr_36, ↓hr_37, ↓hr_39, ↓hr_41, ↓hr_43, ↓hr_45, ↓hr_5, ↓hr_6, ↓hr_8, ↓hr_9, ↓hr_fX7_104, ↓hrow_22, ↓hw_10, ↓hw_11, ↓hw_13, ↓hw_14, ↓hw_15, ↓hw_16, ↓hw_18, ↓hw_19, ↓hw_2, ↓hw_20, ↓hw_21, ↓hw_24, ↓hw_25, ↓hw_26, ↓hw_28, ↓hw_29, ↓hw_3, ↓hw_30, ↓hw_33, ↓hw_34, ↓hw_35, ↓hw_36, ↓hw_37, ↓hw_39, ↓hw_41, ↓hw_43, ↓hw_45, ↓hw_5, ↓hw_6, ↓hw_8, ↓hw_9, ↓reduceIte, ↓hrw, ↓hgd0, ↓hgd1, ↓hgd2, ↓hgd3, zkeep_n, zkeep_i, zkeep_r, zkeep_l, zup_eq, zIR, zLR, List.length_cons, List.length_nil, Nat.reduceAdd, Nat.reduceLeDiff, Nat.reduceEqDiff, Nat.reduceSub, Int.reduceLE, Int.reduceLT, Int.reduceEq, Int.reduceNe, Int.reduceNeg, Int.reduceAdd, Int.reduceSub, Int.reduceMul, Int.reduceToNat, Nat.le_refl, Nat.zero_le, Nat.zero_add, Int.zero_add, Int.add_zero, and_true, true_and, and_false, false_and, not_true_eq_false, not_false_eq_true, eq_self, ne_eq, true_implies, false_implies, implies_true, or_true, true_or, or_false, false_or, reduceCtorEq, Option.some.injEq, Sum.inl.injEq, exists_eq_left', exists_eq_left, e1, zite]
    repeat' (first | with_reducible apply And.intro | with_reducible intro _)
    all_goals first | omega | (exact fin)
set_option maxRecDepth 100000 in
set_option maxHeartbeats 4000000 in
theorem s_item3 {S M : zM} {F : zV → zM → Prop} {f i : Int} (h : RX S M) (z1 : zIR f) (z2 : zIR i) (bad : ¬ (0 ≤ f ∧ f < 3) → F (.inl (-2)) M) (lack : (0 ≤ f ∧ f < 3) → lk S 3 f i ≠ 0 → F (.inl (-10 - lk S 3 f i)) (zup M 0 6 (lk S 3 f i))) (ok : (0 ≤ f ∧ f < 3) → lk S 3 f i = 0 → F (.inl 0) M) : zcv (zv 7 tX7_itemRefusal) [.inr (.inr 0), .inl 3, .inl f, .inl i] M F := by
  refine zcvv rfl ?_
  unfold zIR at z1 z2
  obtain ⟨l1, l2, l3, l4⟩ := RX_L43 h
  by_cases e : S 12 3 = 0
  · have e1 := l2 e
    have ek : lk S 3 f i = 1 := by unfold lk; rw [if_pos e]
    rw [ek] at lack
    have lack := fun q => lack q (by decide)
    simp only [↓eX7_itemRefusal, ↓rX7_itemRefusal_0, ↓rX7_itemRefusal_1, ↓rX7_itemRefusal_2, ↓rX7_itemRefusal_5, ↓rX7_itemRefusal_8, ↓rX7_itemRefusal_9, ↓rX7_itemRefusal_10, ↓rX7_itemRefusal_13, ↓rX7_itemRefusal_16, ↓rX7_itemRefusal_18, ↓rX7_itemRefusal_19, ↓rX7_itemRefusal_20, ↓rX7_itemRefusal_23, ↓rX7_itemRefusal_24, ↓rX7_itemRefusal_25, ↓rX7_itemRefusal_27, ↓rX7_itemRefusal_29, ↓rX7_itemRefusal_32, ↓rX7_itemRefusal_35, ↓rX7_itemRefusal_36, ↓rX7_itemRefusal_37, ↓rX7_itemRefusal_40, ↓rX7_itemRefusal_41, ↓rX7_itemRefusal_43, ↓rX7_itemRefusal_46, ↓rX7_itemRefusal_47, ↓rX7_itemRefusal_50, ↓rX7_itemRefusal_51, ↓rX7_itemRefusal_52, ↓rX7_itemRefusal_55, ↓rX7_itemRefusal_56, ↓rX7_itemRefusal_57, ↓rX7_itemRefusal_59, ↓rX7_itemRefusal_62, ↓rX7_itemRefusal_65, ↓rX7_itemRefusal_68, ↓rX7_itemRefusal_69, ↓rX7_itemRefusal_70, ↓rX7_itemRefusal_73, ↓rX7_itemRefusal_77, ↓rX7_itemRefusal_76, ↓hg_fX7_134_38, ↓hg_fX7_134_40, ↓hg_fX7_134_42, ↓hg_fX7_134_44, ↓hg_fX7_299_38, ↓hg_fX7_299_40, ↓hg_fX7_299_42, ↓hg_fX7_299_44, ↓hg_fX7_44_0, ↓hrow_22, ↓i_finding, ↓i_isLost38, ↓i_isLost40, ↓i_isLost42, ↓i_isLost44, ↓i_outside, ↓reduceIte, ↓hrw, ↓hgd0, ↓hgd1, ↓hgd2, ↓hgd3, zkeep_n, zkeep_i, zkeep_r, zkeep_l, zIR, zLR, List.length_cons, List.length_nil, Nat.reduceAdd, Nat.reduceLeDiff, Nat.reduceEqDiff, Nat.reduceSub, Int.reduceLE, Int.reduceLT, Int.reduceEq, Int.reduceNe, Int.reduceNeg, Int.reduceAdd, Int.reduceSub, Int.reduceMul, Int.reduceToNat, Nat.le_refl, Nat.zero_le, Nat.zero_add, Int.zero_add, Int.add_zero, and_true, true_and, and_false, false_and, not_true_eq_false, not_false_eq_true, eq_self, ne_eq, true_implies, false_implies, implies_true, or_true, true_or, or_false, false_or, reduceCtorEq, Option.some.injEq, Sum.inl.injEq, exists_eq_left', exists_eq_left, e1, zite]
    repeat' (first | with_reducible apply And.intro | with_reducible intro _)
    all_goals first | omega | (exact bad (by omega)) | (exact lack (by omega))
  · obtain ⟨l5, l6⟩ := l3 (by omega)
    have e1 := l5.1
    have e2 := l6.1
    have k3 : (0 ≤ f ∧ f < 3) → S 13 3 ≠ f → F (.inl (-10 - 3)) (zup M 0 6 3) := fun q1 q2 => by
      have ek : lk S 3 f i = 3 := by unfold lk; rw [if_neg e, if_pos q2]
      rw [ek] at lack
      exact lack q1 (by decide)
    have k2 : (0 ≤ f ∧ f < 3) → S 13 3 = f → ¬ (0 ≤ i ∧ i < S 14 3) → F (.inl (-10 - 2)) (zup M 0 6 2) := fun q1 q2 q3 => by
      have ek : lk S 3 f i = 2 := by unfold lk; rw [if_neg e, if_neg (fun z => z q2), if_neg q3]
      rw [ek] at lack
      exact lack q1 (by decide)
    have k0 : (0 ≤ f ∧ f < 3) → S 13 3 = f → (0 ≤ i ∧ i < S 14 3) → F (.inl 0) M := fun q1 q2 q3 => by
      have ek : lk S 3 f i = 0 := by unfold lk; rw [if_neg e, if_neg (fun z => z q2), if_pos q3]
      exact ok q1 ek
    simp only [↓eX7_itemRefusal, ↓rX7_itemRefusal_0, ↓rX7_itemRefusal_1, ↓rX7_itemRefusal_2, ↓rX7_itemRefusal_5, ↓rX7_itemRefusal_8, ↓rX7_itemRefusal_9, ↓rX7_itemRefusal_10, ↓rX7_itemRefusal_13, ↓rX7_itemRefusal_16, ↓rX7_itemRefusal_18, ↓rX7_itemRefusal_19, ↓rX7_itemRefusal_20, ↓rX7_itemRefusal_23, ↓rX7_itemRefusal_24, ↓rX7_itemRefusal_25, ↓rX7_itemRefusal_27, ↓rX7_itemRefusal_29, ↓rX7_itemRefusal_32, ↓rX7_itemRefusal_35, ↓rX7_itemRefusal_36, ↓rX7_itemRefusal_37, ↓rX7_itemRefusal_40, ↓rX7_itemRefusal_41, ↓rX7_itemRefusal_43, ↓rX7_itemRefusal_46, ↓rX7_itemRefusal_47, ↓rX7_itemRefusal_50, ↓rX7_itemRefusal_51, ↓rX7_itemRefusal_52, ↓rX7_itemRefusal_55, ↓rX7_itemRefusal_56, ↓rX7_itemRefusal_57, ↓rX7_itemRefusal_59, ↓rX7_itemRefusal_62, ↓rX7_itemRefusal_65, ↓rX7_itemRefusal_68, ↓rX7_itemRefusal_69, ↓rX7_itemRefusal_70, ↓rX7_itemRefusal_73, ↓rX7_itemRefusal_77, ↓rX7_itemRefusal_76, ↓hg_fX7_134_38, ↓hg_fX7_134_40, ↓hg_fX7_134_42, ↓hg_fX7_134_44, ↓hg_fX7_299_38, ↓hg_fX7_299_40, ↓hg_fX7_299_42, ↓hg_fX7_299_44, ↓hg_fX7_44_0, ↓hrow_22, ↓i_finding, ↓i_isLost38, ↓i_isLost40, ↓i_isLost42, ↓i_isLost44, ↓i_outside, ↓reduceIte, ↓hrw, ↓hgd0, ↓hgd1, ↓hgd2, ↓hgd3, zkeep_n, zkeep_i, zkeep_r, zkeep_l, zIR, zLR, List.length_cons, List.length_nil, Nat.reduceAdd, Nat.reduceLeDiff, Nat.reduceEqDiff, Nat.reduceSub, Int.reduceLE, Int.reduceLT, Int.reduceEq, Int.reduceNe, Int.reduceNeg, Int.reduceAdd, Int.reduceSub, Int.reduceMul, Int.reduceToNat, Nat.le_refl, Nat.zero_le, Nat.zero_add, Int.zero_add, Int.add_zero, and_true, true_and, and_false, false_and, not_true_eq_false, not_false_eq_true, eq_self, ne_eq, true_implies, false_implies, implies_true, or_true, true_or, or_false, false_or, reduceCtorEq, Option.some.injEq, Sum.inl.injEq, exists_eq_left', exists_eq_left, e1, e2, zite]
    repeat' (first | with_reducible apply And.intro | with_reducible intro _)
    all_goals first | omega | (exact bad (by omega)) | (exact k3 (by omega) (by omega)) | (exact k2 (by omega) (by omega) (by omega)) | (exact k0 (by omega) (by omega) (by omega))
theorem lk_ok3 {S M : zM} {f i : Int} (h : RX S M) (e : lk S 3 f i = 0) : S 12 3 = 1 ∧ S 13 3 = f ∧ (0 ≤ i ∧ i < S 14 3) ∧ S 14 3 ≤ 60 := by
  obtain ⟨l1, l2, l3, l4⟩ := RX_L43 h
  unfold lk at e
  split at e
  · omega
  · split at e
    · omega
    · split at e
      · have := l3 (by omega)
        omega
      · omega
set_option maxRecDepth 100000 in
set_option maxHeartbeats 4000000 in
theorem x_put3 {S M : zM} {R : zP} {f i v : Int} (h : RX S M) (z1 : zIR f) (z2 : zIR i) (z3 : zIR v) (hR : ∀ M', RX (mPut S 3 f i v) M' → XF M M' → R (some (.inl (aPut S 3 f i))) M') : tX7_put [.inr (.inr 0), .inl 3, .inl f, .inl i, .inl v] M R := by
  unfold mPut aPut at hR
  have g0 : (0 : Int) ≤ 3 ∧ (3 : Int) < 4 := by decide
  have lkR := lk_R S 3 f i
  simp only [↓eX7_put, ↓rX7_put_0, ↓rX7_put_1, ↓rX7_put_2, ↓rX7_put_3, ↓rX7_put_4, ↓reduceIte, zkeep_n, zkeep_i, zkeep_r, zkeep_l, zup_eq, zIR, zLR, List.length_cons, List.length_nil, Nat.reduceAdd, Nat.reduceLeDiff, Nat.reduceEqDiff, Nat.reduceSub, Int.reduceLE, Int.reduceLT, Int.reduceEq, Int.reduceNe, Int.reduceNeg, Int.reduceAdd, Int.reduceSub, Int.reduceMul, Int.reduceToNat, Nat.le_refl, Nat.zero_le, Nat.zero_add, Int.zero_add, Int.add_zero, and_true, true_and, and_false, false_and, not_true_eq_false, not_false_eq_true, eq_self, ne_eq, true_implies, false_implies, implies_true, or_true, true_or, or_false, false_or, reduceCtorEq, Option.some.injEq, Sum.inl.injEq, exists_eq_left', exists_eq_left, zite]
  refine s_item3 h z1 z2 (fun q => ?_) (fun q1 q2 => ?_) (fun q1 q2 => ?_)
  · have fin := hR M (by rw [if_neg (fun z => q z.2)]; exact h) XF.rfl
    rw [if_neg (fun z => q z.2)] at fin
    simp only [↓rX7_put_7, ↓rX7_put_9, ↓rX7_put_11, ↓rX7_put_14, ↓rX7_put_16, ↓rX7_put_17, ↓rX7_put_18, ↓rX7_put_21, ↓rX7_put_22, ↓rX7_put_23, ↓rX7_put_24, ↓rX7_put_26, ↓rX7_put_29, ↓rX7_put_30, ↓hg_fX7_44_0, ↓hrow_22, ↓i_store38, ↓i_store40, ↓i_store42, ↓i_store44, ↓reduceIte, zkeep_n, zkeep_i, zkeep_r, zkeep_l, zup_eq, zIR, zLR, List.length_cons, List.length_nil, Nat.reduceAdd, Nat.reduceLeDiff, Nat.reduceEqDiff, Nat.reduceSub, Int.reduceLE, Int.reduceLT, Int.reduceEq, Int.reduceNe, Int.reduceNeg, Int.reduceAdd, Int.reduceSub, Int.reduceMul, Int.reduceToNat, Nat.le_refl, Nat.zero_le, Nat.zero_add, Int.zero_add, Int.add_zero, and_true, true_and, and_false, false_and, not_true_eq_false, not_false_eq_true, eq_self, ne_eq, true_implies, false_implies, implies_true, or_true, true_or, or_false, false_or, reduceCtorEq, Option.some.injEq, Sum.inl.injEq, exists_eq_left', exists_eq_left, zite]
    exact fin
  · have fin := hR _ (by rw [if_pos ⟨g0, q1⟩, if_neg q2]; exact RX_find h lkR) XF_find
    rw [if_pos ⟨g0, q1⟩, if_neg q2] at fin
    simp only [↓rX7_put_7, ↓rX7_put_9, ↓rX7_put_11, ↓rX7_put_14, ↓rX7_put_16, ↓reduceIte, zkeep_n, zkeep_i, zkeep_r, zkeep_l, zIR, zLR, List.length_cons, List.length_nil, Nat.reduceAdd, Nat.reduceLeDiff, Nat.reduceEqDiff, Nat.reduceSub, Int.reduceLE, Int.reduceLT, Int.reduceEq, Int.reduceNe, Int.reduceNeg, Int.reduceAdd, Int.reduceSub, Int.reduceMul, Int.reduceToNat, Nat.le_refl, Nat.zero_le, Nat.zero_add, Int.zero_add, Int.add_zero, and_true, true_and, and_false, false_and, not_true_eq_false, not_false_eq_true, eq_self, ne_eq, true_implies, false_implies, implies_true, or_true, true_or, or_false, false_or, reduceCtorEq, Option.some.injEq, Sum.inl.injEq, exists_eq_left', exists_eq_left, zite]
    repeat' (first | with_reducible apply And.intro | with_reducible intro _)
    all_goals first | omega | (exact fin)
  · obtain ⟨k1, k2, k3, k4⟩ := lk_ok3 h q2
    obtain ⟨l1, l2, l3, l4⟩ := RX_L43 h
    obtain ⟨l5, l6⟩ := l3 k1
    have e1 : M 44 1 = f := l5.1.trans k2
    have fin : ∀ w, w = zconv f v → R (some (.inl 1)) (zup M 45 i w) := fun w hw => by
      have := hR (zup M 45 i w) (by
        rw [if_pos ⟨g0, q1⟩, if_pos q2]
        refine RX_one3 h (fun k x hk => zup_ne (by simp; omega)) (fun k x h1 h2 h3 h4 h5 h6 => zup_ne (by simp; omega)) (fun k x h1 h2 h3 => zup_ne h3) ?_
        refine ⟨l1, ?_, ?_, fun x a b => ?_⟩
        · rw [zup_ne (by decide), zup_ne (by decide)]
          exact l2
        · rw [zup_ne (by decide), zup_ne (by decide), zup_ne (by decide), zup_ne (by decide), zup_ne (by decide)]
          exact l3
        · rw [zup_in, show zup S (15 + (3 : Int).toNat) i (zconv f v) 18 x = if x = i then zconv f v else S 18 x from zup_in]
          split
          · exact ⟨hw, zconv_R z3⟩
          · exact l4 x a b) (fun k x hk => zup_ne (by omega))
      rw [if_pos ⟨g0, q1⟩, if_pos q2] at this
      exact this
    simp only [↓rX7_put_7, ↓rX7_put_9, ↓rX7_put_11, ↓rX7_put_14, ↓rX7_put_16, ↓rX7_put_17, ↓rX7_put_18, ↓rX7_put_21, ↓rX7_put_22, ↓rX7_put_23, ↓rX7_put_24, ↓rX7_put_26, ↓rX7_put_29, ↓rX7_put_30, ↓hg_fX7_44_0, ↓hrow_22, ↓i_store38, ↓i_store40, ↓i_store42, ↓i_store44, ↓reduceIte, ↓hrw, ↓hgd0, ↓hgd1, ↓hgd2, ↓hgd3, zkeep_n, zkeep_i, zkeep_r, zkeep_l, zIR, zLR, List.length_cons, List.length_nil, Nat.reduceAdd, Nat.reduceLeDiff, Nat.reduceEqDiff, Nat.reduceSub, Int.reduceLE, Int.reduceLT, Int.reduceEq, Int.reduceNe, Int.reduceNeg, Int.reduceAdd, Int.reduceSub, Int.reduceMul, Int.reduceToNat, Nat.le_refl, Nat.zero_le, Nat.zero_add, Int.zero_add, Int.add_zero, and_true, true_and, and_false, false_and, not_true_eq_false, not_false_eq_true, eq_self, ne_eq, true_implies, false_implies, implies_true, or_true, true_or, or_false, false_or, reduceCtorEq, Option.some.injEq, Sum.inl.injEq, exists_eq_left', exists_eq_left, e1, zite]
    repeat' (first | with_reducible apply And.intro | with_reducible intro _)
    all_goals first | omega | (refine fin _ ?_; unfold zconv; rw [if_pos (by omega)]) | (refine fin _ ?_; unfold zconv; rw [if_neg (by omega), if_pos (by omega)]) | (refine fin _ ?_; unfold zconv; rw [if_neg (by omega), if_neg (by omega)])
set_option maxRecDepth 100000 in
set_option maxHeartbeats 4000000 in
theorem x_get3 {S M : zM} {R : zP} {f i : Int} (h : RX S M) (z1 : zIR f) (z2 : zIR i) (hR : ∀ M', RX (mGet S 3 f i) M' → XF M M' → R (some (.inl (aGet S 3 f i))) M') : tX7_get [.inr (.inr 0), .inl 3, .inl f, .inl i] M R := by
  unfold mGet aGet at hR
  have g0 : (0 : Int) ≤ 3 ∧ (3 : Int) < 4 := by decide
  have lkR := lk_R S 3 f i
  simp only [↓eX7_get, ↓rX7_get_0, ↓rX7_get_1, ↓rX7_get_2, ↓rX7_get_3, ↓rX7_get_4, ↓reduceIte, zkeep_n, zkeep_i, zkeep_r, zkeep_l, zup_eq, zIR, zLR, List.length_cons, List.length_nil, Nat.reduceAdd, Nat.reduceLeDiff, Nat.reduceEqDiff, Nat.reduceSub, Int.reduceLE, Int.reduceLT, Int.reduceEq, Int.reduceNe, Int.reduceNeg, Int.reduceAdd, Int.reduceSub, Int.reduceMul, Int.reduceToNat, Nat.le_refl, Nat.zero_le, Nat.zero_add, Int.zero_add, Int.add_zero, and_true, true_and, and_false, false_and, not_true_eq_false, not_false_eq_true, eq_self, ne_eq, true_implies, false_implies, implies_true, or_true, true_or, or_false, false_or, reduceCtorEq, Option.some.injEq, Sum.inl.injEq, exists_eq_left', exists_eq_left, zite]
  refine s_item3 h z1 z2 (fun q => ?_) (fun q1 q2 => ?_) (fun q1 q2 => ?_)
  · have fin := hR M (by rw [if_neg (fun z => q z.2)]; exact h) XF.rfl
    rw [if_neg (fun z => q z.2)] at fin
    simp only [↓rX7_get_7, ↓rX7_get_10, ↓rX7_get_13, ↓reduceIte, zkeep_n, zkeep_i, zkeep_r, zkeep_l, zup_eq, zIR, zLR, List.length_cons, List.length_nil, Nat.reduceAdd, Nat.reduceLeDiff, Nat.reduceEqDiff, Nat.reduceSub, Int.reduceLE, Int.reduceLT, Int.reduceEq, Int.reduceNe, Int.reduceNeg, Int.reduceAdd, Int.reduceSub, Int.reduceMul, Int.reduceToNat, Nat.le_refl, Nat.zero_le, Nat.zero_add, Int.zero_add, Int.add_zero, and_true, true_and, and_false, false_and, not_true_eq_false, not_false_eq_true, eq_self, ne_eq, true_implies, false_implies, implies_true, or_true, true_or, or_false, false_or, reduceCtorEq, Option.some.injEq, Sum.inl.injEq, exists_eq_left', exists_eq_left, zite]
    exact fin
  · have fin := hR _ (by rw [if_pos ⟨g0, q1⟩, if_neg q2]; exact RX_find h lkR) XF_find
    rw [if_pos ⟨g0, q1⟩, if_neg q2] at fin
    simp only [↓rX7_get_7, ↓rX7_get_10, ↓rX7_get_13, ↓reduceIte, zkeep_n, zkeep_i, zkeep_r, zkeep_l, zIR, zLR, List.length_cons, List.length_nil, Nat.reduceAdd, Nat.reduceLeDiff, Nat.reduceEqDiff, Nat.reduceSub, Int.reduceLE, Int.reduceLT, Int.reduceEq, Int.reduceNe, Int.reduceNeg, Int.reduceAdd, Int.reduceSub, Int.reduceMul, Int.reduceToNat, Nat.le_refl, Nat.zero_le, Nat.zero_add, Int.zero_add, Int.add_zero, and_true, true_and, and_false, false_and, not_true_eq_false, not_false_eq_true, eq_self, ne_eq, true_implies, false_implies, implies_true, or_true, true_or, or_false, false_or, reduceCtorEq, Option.some.injEq, Sum.inl.injEq, exists_eq_left', exists_eq_left, zite]
    repeat' (first | with_reducible apply And.intro | with_reducible intro _)
    all_goals first | omega | (exact fin)
  · obtain ⟨k1, k2, k3, k4⟩ := lk_ok3 h q2
    obtain ⟨l1, l2, l3, l4⟩ := RX_L43 h
    have fin := hR M (by rw [if_pos ⟨g0, q1⟩, if_pos q2]; exact h) XF.rfl
    rw [if_pos ⟨g0, q1⟩, if_pos q2] at fin
    have e1 := (l4 i (by omega) (by omega)).1
    simp only [↓rX7_get_7, ↓rX7_get_10, ↓rX7_get_13, ↓rX7_get_14, ↓rX7_get_15, ↓rX7_get_18, ↓rX7_get_19, ↓rX7_get_20, ↓rX7_get_23, ↓rX7_get_24, ↓rX7_get_25, ↓hg_fX7_137_38, ↓hg_fX7_137_40, ↓hg_fX7_137_42, ↓hg_fX7_137_44, ↓hg_fX7_44_0, ↓hr_10, ↓hr_11, ↓hr_13, ↓hr_14, ↓hr_15, ↓hr_16, ↓hr_18, ↓hr_19, ↓hr_2, ↓hr_20, ↓hr_21, ↓hr_24, ↓hr_25, ↓hr_26, ↓hr_28, ↓hr_29, ↓hr_3, ↓hr_30, ↓hr_33, ↓hr_34, ↓hr_35, ↓hr_36, ↓hr_37, ↓hr_39, ↓hr_41, ↓hr_43, ↓hr_45, ↓hr_5, ↓hr_6, ↓hr_8, ↓hr_9, ↓hr_fX7_104, ↓hrow_22, ↓hw_10, ↓hw_11, ↓hw_13, ↓hw_14, ↓hw_15, ↓hw_16, ↓hw_18, ↓hw_19, ↓hw_2, ↓hw_20, ↓hw_21, ↓hw_24, ↓hw_25, ↓hw_26, ↓hw_28, ↓hw_29, ↓hw_3, ↓hw_30, ↓hw_33, ↓hw_34, ↓hw_35, ↓hw_36, ↓hw_37, ↓hw_39, ↓hw_41, ↓hw_43, ↓hw_45, ↓hw_5, ↓hw_6, ↓hw_8, ↓hw_9, ↓reduceIte, ↓hrw, ↓hgd0, ↓hgd1, ↓hgd2, ↓hgd3, zkeep_n, zkeep_i, zkeep_r, zkeep_l, zup_eq, zIR, zLR, List.length_cons, List.length_nil, Nat.reduceAdd, Nat.reduceLeDiff, Nat.reduceEqDiff, Nat.reduceSub, Int.reduceLE, Int.reduceLT, Int.reduceEq, Int.reduceNe, Int.reduceNeg, Int.reduceAdd, Int.reduceSub, Int.reduceMul, Int.reduceToNat, Nat.le_refl, Nat.zero_le, Nat.zero_add, Int.zero_add, Int.add_zero, and_true, true_and, and_false, false_and, not_true_eq_false, not_false_eq_true, eq_self, ne_eq, true_implies, false_implies, implies_true, or_true, true_or, or_false, false_or, reduceCtorEq, Option.some.injEq, Sum.inl.injEq, exists_eq_left', exists_eq_left, e1, zite]
    repeat' (first | with_reducible apply And.intro | with_reducible intro _)
    all_goals first | omega | (exact fin)
set_option maxRecDepth 100000 in
set_option maxHeartbeats 4000000 in
theorem s_itemB {M : zM} {F : zV → zM → Prop} {s f i : Int} (z0 : zIR s) (hs : ¬ (0 ≤ s ∧ s < 4)) (bad : F (.inl (-2)) M) : zcv (zv 7 tX7_itemRefusal) [.inr (.inr 0), .inl s, .inl f, .inl i] M F := by
  refine zcvv rfl ?_
  unfold zIR at z0
  simp only [↓eX7_itemRefusal, ↓rX7_itemRefusal_0, ↓rX7_itemRefusal_1, ↓rX7_itemRefusal_2, ↓rX7_itemRefusal_5, ↓rX7_itemRefusal_16, ↓rX7_itemRefusal_18, ↓i_outside, ↓reduceIte, zkeep_n, zkeep_i, zkeep_r, zkeep_l, zup_eq, zIR, zLR, List.length_cons, List.length_nil, Nat.reduceAdd, Nat.reduceLeDiff, Nat.reduceEqDiff, Nat.reduceSub, Int.reduceLE, Int.reduceLT, Int.reduceEq, Int.reduceNe, Int.reduceNeg, Int.reduceAdd, Int.reduceSub, Int.reduceMul, Int.reduceToNat, Nat.le_refl, Nat.zero_le, Nat.zero_add, Int.zero_add, Int.add_zero, and_true, true_and, and_false, false_and, not_true_eq_false, not_false_eq_true, eq_self, ne_eq, true_implies, false_implies, implies_true, or_true, true_or, or_false, false_or, reduceCtorEq, Option.some.injEq, Sum.inl.injEq, exists_eq_left', exists_eq_left, zite]
  repeat' (first | with_reducible apply And.intro | with_reducible intro _)
  all_goals first | omega | (exact bad)
set_option maxRecDepth 100000 in
set_option maxHeartbeats 4000000 in
theorem x_put {S M : zM} {R : zP} {s f i v : Int} (h : RX S M) (z0 : zIR s) (z1 : zIR f) (z2 : zIR i) (z3 : zIR v) (hR : ∀ M', RX (mPut S s f i v) M' → XF M M' → R (some (.inl (aPut S s f i))) M') : tX7_put [.inr (.inr 0), .inl s, .inl f, .inl i, .inl v] M R := by
  by_cases hs : 0 ≤ s ∧ s < 4
  · have e : s = 0 ∨ s = 1 ∨ s = 2 ∨ s = 3 := by omega
    rcases e with rfl | rfl | rfl | rfl
    · exact x_put0 h z1 z2 z3 hR
    · exact x_put1 h z1 z2 z3 hR
    · exact x_put2 h z1 z2 z3 hR
    · exact x_put3 h z1 z2 z3 hR
  · have fin := hR M (by unfold mPut; rw [if_neg (fun q => hs q.1)]; exact h) XF.rfl
    unfold aPut at fin
    rw [if_neg (fun q => hs q.1)] at fin
    simp only [↓eX7_put, ↓rX7_put_0, ↓rX7_put_1, ↓rX7_put_2, ↓rX7_put_3, ↓rX7_put_4, ↓reduceIte, zkeep_n, zkeep_i, zkeep_r, zkeep_l, zup_eq, zIR, zLR, List.length_cons, List.length_nil, Nat.reduceAdd, Nat.reduceLeDiff, Nat.reduceEqDiff, Nat.reduceSub, Int.reduceLE, Int.reduceLT, Int.reduceEq, Int.reduceNe, Int.reduceNeg, Int.reduceAdd, Int.reduceSub, Int.reduceMul, Int.reduceToNat, Nat.le_refl, Nat.zero_le, Nat.zero_add, Int.zero_add, Int.add_zero, and_true, true_and, and_false, false_and, not_true_eq_false, not_false_eq_true, eq_self, ne_eq, true_implies, false_implies, implies_true, or_true, true_or, or_false, false_or, reduceCtorEq, Option.some.injEq, Sum.inl.injEq, exists_eq_left', exists_eq_left, zite]
    refine s_itemB z0 hs ?_
    simp only [↓rX7_put_7, ↓rX7_put_9, ↓rX7_put_11, ↓rX7_put_14, ↓rX7_put_16, ↓rX7_put_17, ↓rX7_put_18, ↓rX7_put_21, ↓rX7_put_22, ↓rX7_put_23, ↓rX7_put_24, ↓rX7_put_26, ↓rX7_put_29, ↓rX7_put_30, ↓hg_fX7_44_0, ↓hrow_22, ↓i_store38, ↓i_store40, ↓i_store42, ↓i_store44, ↓reduceIte, zkeep_n, zkeep_i, zkeep_r, zkeep_l, zup_eq, zIR, zLR, List.length_cons, List.length_nil, Nat.reduceAdd, Nat.reduceLeDiff, Nat.reduceEqDiff, Nat.reduceSub, Int.reduceLE, Int.reduceLT, Int.reduceEq, Int.reduceNe, Int.reduceNeg, Int.reduceAdd, Int.reduceSub, Int.reduceMul, Int.reduceToNat, Nat.le_refl, Nat.zero_le, Nat.zero_add, Int.zero_add, Int.add_zero, and_true, true_and, and_false, false_and, not_true_eq_false, not_false_eq_true, eq_self, ne_eq, true_implies, false_implies, implies_true, or_true, true_or, or_false, false_or, reduceCtorEq, Option.some.injEq, Sum.inl.injEq, exists_eq_left', exists_eq_left, zite]
    exact fin
set_option maxRecDepth 100000 in
set_option maxHeartbeats 4000000 in
theorem x_get {S M : zM} {R : zP} {s f i : Int} (h : RX S M) (z0 : zIR s) (z1 : zIR f) (z2 : zIR i) (hR : ∀ M', RX (mGet S s f i) M' → XF M M' → R (some (.inl (aGet S s f i))) M') : tX7_get [.inr (.inr 0), .inl s, .inl f, .inl i] M R := by
  by_cases hs : 0 ≤ s ∧ s < 4
  · have e : s = 0 ∨ s = 1 ∨ s = 2 ∨ s = 3 := by omega
    rcases e with rfl | rfl | rfl | rfl
    · exact x_get0 h z1 z2 hR
    · exact x_get1 h z1 z2 hR
    · exact x_get2 h z1 z2 hR
    · exact x_get3 h z1 z2 hR
  · have fin := hR M (by unfold mGet; rw [if_neg (fun q => hs q.1)]; exact h) XF.rfl
    unfold aGet at fin
    rw [if_neg (fun q => hs q.1)] at fin
    simp only [↓eX7_get, ↓rX7_get_0, ↓rX7_get_1, ↓rX7_get_2, ↓rX7_get_3, ↓rX7_get_4, ↓reduceIte, zkeep_n, zkeep_i, zkeep_r, zkeep_l, zup_eq, zIR, zLR, List.length_cons, List.length_nil, Nat.reduceAdd, Nat.reduceLeDiff, Nat.reduceEqDiff, Nat.reduceSub, Int.reduceLE, Int.reduceLT, Int.reduceEq, Int.reduceNe, Int.reduceNeg, Int.reduceAdd, Int.reduceSub, Int.reduceMul, Int.reduceToNat, Nat.le_refl, Nat.zero_le, Nat.zero_add, Int.zero_add, Int.add_zero, and_true, true_and, and_false, false_and, not_true_eq_false, not_false_eq_true, eq_self, ne_eq, true_implies, false_implies, implies_true, or_true, true_or, or_false, false_or, reduceCtorEq, Option.some.injEq, Sum.inl.injEq, exists_eq_left', exists_eq_left, zite]
    refine s_itemB z0 hs ?_
    simp only [↓rX7_get_7, ↓rX7_get_10, ↓rX7_get_13, ↓rX7_get_14, ↓rX7_get_15, ↓rX7_get_18, ↓rX7_get_19, ↓rX7_get_20, ↓rX7_get_23, ↓rX7_get_24, ↓rX7_get_25, ↓hg_fX7_137_38, ↓hg_fX7_137_40, ↓hg_fX7_137_42, ↓hg_fX7_137_44, ↓hg_fX7_44_0, ↓hr_10, ↓hr_11, ↓hr_13, ↓hr_14, ↓hr_15, ↓hr_16, ↓hr_18, ↓hr_19, ↓hr_2, ↓hr_20, ↓hr_21, ↓hr_24, ↓hr_25, ↓hr_26, ↓hr_28, ↓hr_29, ↓hr_3, ↓hr_30, ↓hr_33, ↓hr_34, ↓hr_35, ↓hr_36, ↓hr_37, ↓hr_39, ↓hr_41, ↓hr_43, ↓hr_45, ↓hr_5, ↓hr_6, ↓hr_8, ↓hr_9, ↓hr_fX7_104, ↓hrow_22, ↓hw_10, ↓hw_11, ↓hw_13, ↓hw_14, ↓hw_15, ↓hw_16, ↓hw_18, ↓hw_19, ↓hw_2, ↓hw_20, ↓hw_21, ↓hw_24, ↓hw_25, ↓hw_26, ↓hw_28, ↓hw_29, ↓hw_3, ↓hw_30, ↓hw_33, ↓hw_34, ↓hw_35, ↓hw_36, ↓hw_37, ↓hw_39, ↓hw_41, ↓hw_43, ↓hw_45, ↓hw_5, ↓hw_6, ↓hw_8, ↓hw_9, ↓reduceIte, zkeep_n, zkeep_i, zkeep_r, zkeep_l, zup_eq, zIR, zLR, List.length_cons, List.length_nil, Nat.reduceAdd, Nat.reduceLeDiff, Nat.reduceEqDiff, Nat.reduceSub, Int.reduceLE, Int.reduceLT, Int.reduceEq, Int.reduceNe, Int.reduceNeg, Int.reduceAdd, Int.reduceSub, Int.reduceMul, Int.reduceToNat, Nat.le_refl, Nat.zero_le, Nat.zero_add, Int.zero_add, Int.add_zero, and_true, true_and, and_false, false_and, not_true_eq_false, not_false_eq_true, eq_self, ne_eq, true_implies, false_implies, implies_true, or_true, true_or, or_false, false_or, reduceCtorEq, Option.some.injEq, Sum.inl.injEq, exists_eq_left', exists_eq_left, zite]
    exact fin
