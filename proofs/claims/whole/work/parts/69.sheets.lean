theorem hrw {g : List Nat → Prop} : zopt (zrow 22) g ↔ g [38, 40, 42, 44] := Iff.rfl
theorem hgd0 : ([38, 40, 42, 44] : List Nat).getD 0 0 = 38 := rfl
theorem hgd1 : ([38, 40, 42, 44] : List Nat).getD 1 0 = 40 := rfl
theorem hgd2 : ([38, 40, 42, 44] : List Nat).getD 2 0 = 42 := rfl
theorem hgd3 : ([38, 40, 42, 44] : List Nat).getD 3 0 = 44 := rfl
def L4 (S M : zM) (s : Int) (d c e : Nat) : Prop := (S 12 s = 0 ∨ S 12 s = 1) ∧ (S 12 s = 0 → M c 1 = -1) ∧ (S 12 s = 1 → (M c 1 = S 13 s ∧ 0 ≤ S 13 s ∧ S 13 s ≤ 2) ∧ (M c 2 = S 14 s ∧ 0 ≤ S 14 s ∧ S 14 s ≤ 60)) ∧ ∀ i, 0 ≤ i → i < 60 → M e i = S d i ∧ zIR (S d i)
theorem LR_4 {S M : zM} : LR S M ↔ (L4 S M 0 15 38 39 ∧ L4 S M 1 16 40 41 ∧ L4 S M 2 17 42 43 ∧ L4 S M 3 18 44 45) := by
  constructor
  · intro h
    exact ⟨h 0 (by decide), h 1 (by decide), h 2 (by decide), h 3 (by decide)⟩
  · rintro ⟨h0, h1, h2, h3⟩ s hs
    have e : s = 0 ∨ s = 1 ∨ s = 2 ∨ s = 3 := by omega
    rcases e with rfl | rfl | rfl | rfl
    · exact h0
    · exact h1
    · exact h2
    · exact h3
theorem L4_cg {S S' M M' : zM} {s : Int} {d c e : Nat} (h : L4 S M s d c e) (h1 : S' 12 s = S 12 s) (h2 : S' 13 s = S 13 s) (h3 : S' 14 s = S 14 s) (h4 : ∀ i, S' d i = S d i) (h5 : ∀ i, M' c i = M c i) (h6 : ∀ i, M' e i = M e i) : L4 S' M' s d c e := by
  unfold L4
  rw [h1, h2, h3, h5, h5]
  refine ⟨h.1, h.2.1, h.2.2.1, fun i a b => ?_⟩
  rw [h4, h6]
  exact h.2.2.2 i a b
theorem RX_find {S M : zM} {c : Int} (h : RX S M) (hc : 0 ≤ c ∧ c ≤ 5) : RX (zup S 19 0 c) (zup M 0 6 c) := RX_leafs h (fun k i hk => zup_ne (by omega)) (fun k i h1 h2 h3 => zup_ne h1) (LR_S (LR_fr h.2.2.2.2.2.2.1 (fun k i a b => zup_ne (by omega))) (fun k i a b => zup_ne (by omega))) (by rw [zup_in, zup_in, if_pos rfl, if_pos rfl]; exact ⟨rfl, hc⟩)
theorem XF_find {M : zM} {c : Int} : XF M (zup M 0 6 c) := fun k i hk => zup_ne (by omega)
def nSheet (S : zM) (s f n : Int) : zM := fun k i => if k = 12 ∧ i = s then 1 else if k = 13 ∧ i = s then f else if k = 14 ∧ i = s then n else if k = 15 + s.toNat then 0 else S k i
def aSheet (S : zM) (s f n : Int) : Int := if (0 ≤ s ∧ s < 4) ∧ (0 ≤ f ∧ f < 3) ∧ n ≤ 60 then (if n < 0 then -15 else n) else -2
def mSheet (S : zM) (s f n : Int) : zM := if (0 ≤ s ∧ s < 4) ∧ (0 ≤ f ∧ f < 3) ∧ n ≤ 60 then (if n < 0 then zup S 19 0 5 else nSheet S s f n) else S
def aLose (S : zM) (s : Int) : Int := if 0 ≤ s ∧ s < 4 then (if S 12 s = 0 then -11 else S 14 s) else -2
def mLose (S : zM) (s : Int) : zM := if 0 ≤ s ∧ s < 4 then (if S 12 s = 0 then zup S 19 0 1 else zup S 12 s 0) else S
theorem LR_one0 {S S' M M' : zM} (h : LR S M) (hS : ∀ k i, k ≠ 15 → (k = 12 → i ≠ 0) → (k = 13 → i ≠ 0) → (k = 14 → i ≠ 0) → 12 ≤ k → k ≤ 18 → S' k i = S k i) (hM : ∀ k i, 38 ≤ k → k ≤ 45 → k ≠ 38 → k ≠ 39 → M' k i = M k i) (h1 : L4 S' M' 0 15 38 39) : LR S' M' := by
  rw [LR_4] at h ⊢
  obtain ⟨h0, h1', h2, h3⟩ := h
  refine ⟨?_, ?_, ?_, ?_⟩
  all_goals first | exact h1 | (refine L4_cg (by assumption) (hS _ _ (by decide) (by decide) (by decide) (by decide) (by decide) (by decide)) (hS _ _ (by decide) (by decide) (by decide) (by decide) (by decide) (by decide)) (hS _ _ (by decide) (by decide) (by decide) (by decide) (by decide) (by decide)) (fun i => hS _ _ (by decide) (fun q => absurd q (by decide)) (fun q => absurd q (by decide)) (fun q => absurd q (by decide)) (by decide) (by decide)) (fun i => hM _ _ (by decide) (by decide) (by decide) (by decide)) (fun i => hM _ _ (by decide) (by decide) (by decide) (by decide)))
theorem RX_one0 {S S' M M' : zM} (h : RX S M) (hS0 : ∀ k i, ¬ (12 ≤ k ∧ k ≤ 18) → S' k i = S k i) (hS : ∀ k i, k ≠ 15 → (k = 12 → i ≠ 0) → (k = 13 → i ≠ 0) → (k = 14 → i ≠ 0) → 12 ≤ k → k ≤ 18 → S' k i = S k i) (hM : ∀ k i, ¬ (23 ≤ k ∧ k ≤ 37) → k ≠ 38 → k ≠ 39 → M' k i = M k i) (h1 : L4 S' M' 0 15 38 39) : RX S' M' := RX_leafs h (fun k i hk => hS0 k i (by omega)) (fun k i a b c => hM k i b (by omega) (by omega)) (LR_one0 h.2.2.2.2.2.2.1 hS (fun k i a b c d => hM k i (by omega) c d) h1) (by
  rw [hM _ _ (by decide) (by decide) (by decide), hS0 _ _ (by decide)]
  exact h.2.2.2.2.2.2.2)
theorem RX_L40 {S M : zM} (h : RX S M) : L4 S M 0 15 38 39 := by
  have := LR_4.mp h.2.2.2.2.2.2.1
  obtain ⟨h0, h1, h2, h3⟩ := this
  assumption
set_option maxRecDepth 100000 in
set_option maxHeartbeats 4000000 in
theorem s_begin0 {M : zM} {F : zM → Prop} {f n : Int} (hR : ∀ M', (∀ k i, k ≠ 38 → k ≠ 39 → M' k i = M k i) → M' 38 1 = f → M' 38 2 = n → (∀ i, 0 ≤ i → i < 60 → M' 39 i = 0) → F M') : zcn (zv 1 tX1_begin) [.inr (.inr 38), .inl f, .inl n] M F := by
  refine zcnv rfl ?_
  simp only [↓eX1_begin, ↓rX1_begin_0, ↓rX1_begin_1, ↓rX1_begin_2, ↓rX1_begin_5, ↓rX1_begin_6, ↓rX1_begin_7, ↓rX1_begin_10, ↓rX1_begin_11, ↓rX1_begin_14, ↓rX1_begin_15, ↓hg_fX1_9_38, ↓hg_fX1_9_40, ↓hg_fX1_9_42, ↓hg_fX1_9_44, ↓hp_fX1_15_38, ↓hp_fX1_15_40, ↓hp_fX1_15_42, ↓hp_fX1_15_44, ↓hp_fX1_19_38, ↓hp_fX1_19_40, ↓hp_fX1_19_42, ↓hp_fX1_19_44, ↓reduceIte, zkeep_n, zkeep_i, zkeep_r, zkeep_l, zIR, zLR, List.length_cons, List.length_nil, Nat.reduceAdd, Nat.reduceLeDiff, Nat.reduceEqDiff, Nat.reduceSub, Int.reduceLE, Int.reduceLT, Int.reduceEq, Int.reduceNe, Int.reduceNeg, Int.reduceAdd, Int.reduceSub, Int.reduceMul, Int.reduceToNat, Nat.le_refl, Nat.zero_le, Nat.zero_add, Int.zero_add, Int.add_zero, and_true, true_and, and_false, false_and, not_true_eq_false, not_false_eq_true, eq_self, ne_eq, true_implies, false_implies, implies_true, or_true, true_or, or_false, false_or, reduceCtorEq, Option.some.injEq, Sum.inl.injEq, exists_eq_left', exists_eq_left, zite]
  refine zcns (s_fill39 (fun M' g1 g2 => ⟨rfl, ?_⟩))
  have fin := hR M' (fun k i a b => by rw [g1 k i b, zup_ne a, zup_ne a]) (by rw [g1 _ _ (by decide)]; simp [zup_eq]) (by rw [g1 _ _ (by decide)]; simp [zup_eq]) g2
  simp only [↓rX1_begin_18, ↓reduceIte, zkeep_n, zkeep_i, zkeep_r, zkeep_l, zup_eq, zIR, zLR, List.length_cons, List.length_nil, Nat.reduceAdd, Nat.reduceLeDiff, Nat.reduceEqDiff, Nat.reduceSub, Int.reduceLE, Int.reduceLT, Int.reduceEq, Int.reduceNe, Int.reduceNeg, Int.reduceAdd, Int.reduceSub, Int.reduceMul, Int.reduceToNat, Nat.le_refl, Nat.zero_le, Nat.zero_add, Int.zero_add, Int.add_zero, and_true, true_and, and_false, false_and, not_true_eq_false, not_false_eq_true, eq_self, ne_eq, true_implies, false_implies, implies_true, or_true, true_or, or_false, false_or, reduceCtorEq, Option.some.injEq, Sum.inl.injEq, exists_eq_left', exists_eq_left, zite]
  exact fin
set_option maxRecDepth 100000 in
set_option maxHeartbeats 4000000 in
theorem x_lose0 {S M : zM} {R : zP} (h : RX S M) (hR : ∀ M', RX (mLose S 0) M' → XF M M' → R (some (.inl (aLose S 0))) M') : tX7_lose [.inr (.inr 0), .inl 0] M R := by
  unfold mLose aLose at hR
  have g0 : (0 : Int) ≤ 0 ∧ (0 : Int) < 4 := by decide
  rw [if_pos g0, if_pos g0] at hR
  obtain ⟨l1, l2, l3, l4⟩ := RX_L40 h
  by_cases e : S 12 0 = 0
  · rw [if_pos e, if_pos e] at hR
    have e1 := l2 e
    have fin := hR _ (RX_find h (by decide)) XF_find
    simp only [↓eX7_lose, ↓rX7_lose_0, ↓rX7_lose_1, ↓rX7_lose_2, ↓rX7_lose_5, ↓rX7_lose_8, ↓rX7_lose_10, ↓rX7_lose_11, ↓rX7_lose_12, ↓rX7_lose_15, ↓rX7_lose_16, ↓rX7_lose_17, ↓rX7_lose_18, ↓rX7_lose_19, ↓rX7_lose_22, ↓rX7_lose_25, ↓rX7_lose_26, ↓rX7_lose_27, ↓rX7_lose_30, ↓rX7_lose_31, ↓rX7_lose_32, ↓rX7_lose_35, ↓rX7_lose_36, ↓rX7_lose_37, ↓rX7_lose_40, ↓rX7_lose_41, ↓hg_fX7_134_38, ↓hg_fX7_134_40, ↓hg_fX7_134_42, ↓hg_fX7_134_44, ↓hg_fX7_44_0, ↓hrow_22, ↓i_finding, ↓i_isLost38, ↓i_isLost40, ↓i_isLost42, ↓i_isLost44, ↓i_outside, ↓i_vanish38, ↓i_vanish40, ↓i_vanish42, ↓i_vanish44, ↓reduceIte, ↓hrw, ↓hgd0, ↓hgd1, ↓hgd2, ↓hgd3, zkeep_n, zkeep_i, zkeep_r, zkeep_l, zIR, zLR, List.length_cons, List.length_nil, Nat.reduceAdd, Nat.reduceLeDiff, Nat.reduceEqDiff, Nat.reduceSub, Int.reduceLE, Int.reduceLT, Int.reduceEq, Int.reduceNe, Int.reduceNeg, Int.reduceAdd, Int.reduceSub, Int.reduceMul, Int.reduceToNat, Nat.le_refl, Nat.zero_le, Nat.zero_add, Int.zero_add, Int.add_zero, and_true, true_and, and_false, false_and, not_true_eq_false, not_false_eq_true, eq_self, ne_eq, true_implies, false_implies, implies_true, or_true, true_or, or_false, false_or, reduceCtorEq, Option.some.injEq, Sum.inl.injEq, exists_eq_left', exists_eq_left, e1, zite]
    repeat' (first | with_reducible apply And.intro | with_reducible intro _)
    all_goals first | omega | (exact fin)
  · rw [if_neg e, if_neg e] at hR
    obtain ⟨l5, l6⟩ := l3 (by omega)
    have e1 := l5.1
    have e2 := l6.1
    have fin := hR (zup (zup M 38 1 (-1)) 38 2 0) (RX_one0 h (fun k i hk => zup_ne (by omega)) (fun k i h1 h2 h3 h4 h5 h6 => by
      rw [zup_eq, if_neg]
      rintro ⟨q1, q2⟩
      exact h2 q1 q2) (fun k i h1 h2 h3 => by rw [zup_ne h2, zup_ne h2]) (by
      unfold L4
      rw [zup_in, if_pos rfl]
      refine ⟨Or.inl rfl, fun _ => by simp [zup_eq], fun q => by omega, fun i a b => ?_⟩
      rw [zup_ne (by decide), zup_ne (by decide), zup_ne (by decide)]
      exact l4 i a b)) (fun k i hk => by rw [zup_ne (by omega), zup_ne (by omega)])
    simp only [↓eX7_lose, ↓rX7_lose_0, ↓rX7_lose_1, ↓rX7_lose_2, ↓rX7_lose_5, ↓rX7_lose_8, ↓rX7_lose_10, ↓rX7_lose_11, ↓rX7_lose_12, ↓rX7_lose_15, ↓rX7_lose_16, ↓rX7_lose_17, ↓rX7_lose_18, ↓rX7_lose_19, ↓rX7_lose_22, ↓rX7_lose_25, ↓rX7_lose_26, ↓rX7_lose_27, ↓rX7_lose_30, ↓rX7_lose_31, ↓rX7_lose_32, ↓rX7_lose_35, ↓rX7_lose_36, ↓rX7_lose_37, ↓rX7_lose_40, ↓rX7_lose_41, ↓hg_fX7_134_38, ↓hg_fX7_134_40, ↓hg_fX7_134_42, ↓hg_fX7_134_44, ↓hg_fX7_44_0, ↓hrow_22, ↓i_finding, ↓i_isLost38, ↓i_isLost40, ↓i_isLost42, ↓i_isLost44, ↓i_outside, ↓i_vanish38, ↓i_vanish40, ↓i_vanish42, ↓i_vanish44, ↓reduceIte, ↓hrw, ↓hgd0, ↓hgd1, ↓hgd2, ↓hgd3, zkeep_n, zkeep_i, zkeep_r, zkeep_l, zIR, zLR, List.length_cons, List.length_nil, Nat.reduceAdd, Nat.reduceLeDiff, Nat.reduceEqDiff, Nat.reduceSub, Int.reduceLE, Int.reduceLT, Int.reduceEq, Int.reduceNe, Int.reduceNeg, Int.reduceAdd, Int.reduceSub, Int.reduceMul, Int.reduceToNat, Nat.le_refl, Nat.zero_le, Nat.zero_add, Int.zero_add, Int.add_zero, and_true, true_and, and_false, false_and, not_true_eq_false, not_false_eq_true, eq_self, ne_eq, true_implies, false_implies, implies_true, or_true, true_or, or_false, false_or, reduceCtorEq, Option.some.injEq, Sum.inl.injEq, exists_eq_left', exists_eq_left, e1, e2, zite]
    repeat' (first | with_reducible apply And.intro | with_reducible intro _)
    all_goals first | omega | (exact fin)
set_option maxRecDepth 100000 in
set_option maxHeartbeats 4000000 in
theorem x_sheet0 {S M : zM} {R : zP} {f n : Int} (h : RX S M) (z1 : zIR f) (z2 : zIR n) (hR : ∀ M', RX (mSheet S 0 f n) M' → XF M M' → R (some (.inl (aSheet S 0 f n))) M') : tX7_sheet [.inr (.inr 0), .inl 0, .inl f, .inl n] M R := by
  unfold zIR at z1 z2
  unfold mSheet aSheet at hR
  have bad : ¬ ((0 ≤ f ∧ f < 3) ∧ n ≤ 60) → R (some (.inl (-2))) M := fun q => by
    have := hR M (by rw [if_neg (fun z => q z.2)]; exact h) XF.rfl
    rw [if_neg (fun z => q z.2)] at this
    exact this
  have neg : (0 ≤ f ∧ f < 3) → n < 0 → R (some (.inl (-15))) (zup M 0 6 5) := fun q1 q2 => by
    have := hR (zup M 0 6 5) (by rw [if_pos ⟨by decide, q1, by omega⟩, if_pos q2]; exact RX_find h (by decide)) XF_find
    rw [if_pos ⟨by decide, q1, by omega⟩, if_pos q2] at this
    exact this
  have ok : (0 ≤ f ∧ f < 3) → (0 ≤ n ∧ n ≤ 60) → zcn (zv 1 tX1_begin) [.inr (.inr 38), .inl f, .inl n] M (fun M' => uX7_sheet R 46 [some (.inr (.inr 0)), some (.inl 0), some (.inl f), some (.inl n)] [] M') := fun q1 q2 => by
    refine s_begin0 (fun M' g1 g2 g3 g4 => ?_)
    have fin := hR M' (by
      rw [if_pos ⟨by decide, q1, by omega⟩, if_neg (by omega)]
      refine RX_one0 h (fun k i hk => ?_) (fun k i h1 h2 h3 h4 h5 h6 => ?_) (fun k i h1 h2 h3 => g1 k i h2 h3) ?_
      · unfold nSheet
        rw [if_neg (by omega), if_neg (by omega), if_neg (by omega), if_neg (by simp; omega)]
      · unfold nSheet
        rw [if_neg (fun q => h2 q.1 q.2), if_neg (fun q => h3 q.1 q.2), if_neg (fun q => h4 q.1 q.2), if_neg (by simp; omega)]
      · have e1 : nSheet S 0 f n 12 0 = 1 := by unfold nSheet; rw [if_pos (by decide)]
        have e2 : nSheet S 0 f n 13 0 = f := by unfold nSheet; rw [if_neg (by decide), if_pos (by decide)]
        have e3 : nSheet S 0 f n 14 0 = n := by unfold nSheet; rw [if_neg (by decide), if_neg (by decide), if_pos (by decide)]
        have e4 : ∀ i, nSheet S 0 f n 15 i = 0 := fun i => by unfold nSheet; rw [if_neg (fun q => absurd q.1 (by decide)), if_neg (fun q => absurd q.1 (by decide)), if_neg (fun q => absurd q.1 (by decide)), if_pos (by decide)]
        unfold L4
        rw [e1, e2, e3, g2, g3]
        refine ⟨Or.inr rfl, fun q => by omega, fun _ => ⟨⟨rfl, by omega⟩, ⟨rfl, by omega⟩⟩, fun i a b => ?_⟩
        rw [e4, g4 i a b]
        exact ⟨rfl, by decide, by decide⟩) (fun k i hk => g1 k i (by omega) (by omega))
    rw [if_pos ⟨by decide, q1, by omega⟩, if_neg (by omega)] at fin
    simp only [↓rX7_sheet_46, ↓rX7_sheet_47, ↓reduceIte, zkeep_n, zkeep_i, zkeep_r, zkeep_l, zup_eq, zIR, zLR, List.length_cons, List.length_nil, Nat.reduceAdd, Nat.reduceLeDiff, Nat.reduceEqDiff, Nat.reduceSub, Int.reduceLE, Int.reduceLT, Int.reduceEq, Int.reduceNe, Int.reduceNeg, Int.reduceAdd, Int.reduceSub, Int.reduceMul, Int.reduceToNat, Nat.le_refl, Nat.zero_le, Nat.zero_add, Int.zero_add, Int.add_zero, and_true, true_and, and_false, false_and, not_true_eq_false, not_false_eq_true, eq_self, ne_eq, true_implies, false_implies, implies_true, or_true, true_or, or_false, false_or, reduceCtorEq, Option.some.injEq, Sum.inl.injEq, exists_eq_left', exists_eq_left, zite]
    exact fin
  simp only [↓eX7_sheet, ↓rX7_sheet_0, ↓rX7_sheet_1, ↓rX7_sheet_2, ↓rX7_sheet_5, ↓rX7_sheet_8, ↓rX7_sheet_9, ↓rX7_sheet_10, ↓rX7_sheet_13, ↓rX7_sheet_16, ↓rX7_sheet_17, ↓rX7_sheet_19, ↓rX7_sheet_22, ↓rX7_sheet_24, ↓rX7_sheet_25, ↓rX7_sheet_26, ↓rX7_sheet_29, ↓rX7_sheet_30, ↓rX7_sheet_31, ↓rX7_sheet_34, ↓rX7_sheet_35, ↓rX7_sheet_36, ↓rX7_sheet_39, ↓rX7_sheet_40, ↓rX7_sheet_41, ↓rX7_sheet_42, ↓rX7_sheet_43, ↓hg_fX7_44_0, ↓hrow_22, ↓i_finding, ↓i_outside, ↓reduceIte, ↓hrw, ↓hgd0, ↓hgd1, ↓hgd2, ↓hgd3, zkeep_n, zkeep_i, zkeep_r, zkeep_l, zIR, zLR, List.length_cons, List.length_nil, Nat.reduceAdd, Nat.reduceLeDiff, Nat.reduceEqDiff, Nat.reduceSub, Int.reduceLE, Int.reduceLT, Int.reduceEq, Int.reduceNe, Int.reduceNeg, Int.reduceAdd, Int.reduceSub, Int.reduceMul, Int.reduceToNat, Nat.le_refl, Nat.zero_le, Nat.zero_add, Int.zero_add, Int.add_zero, and_true, true_and, and_false, false_and, not_true_eq_false, not_false_eq_true, eq_self, ne_eq, true_implies, false_implies, implies_true, or_true, true_or, or_false, false_or, reduceCtorEq, Option.some.injEq, Sum.inl.injEq, exists_eq_left', exists_eq_left, zite]
  repeat' (first | with_reducible apply And.intro | with_reducible intro _)
  all_goals first | omega | (exact bad (by omega)) | (exact neg (by omega) (by omega)) | (exact ok (by omega) (by omega))
theorem LR_one1 {S S' M M' : zM} (h : LR S M) (hS : ∀ k i, k ≠ 16 → (k = 12 → i ≠ 1) → (k = 13 → i ≠ 1) → (k = 14 → i ≠ 1) → 12 ≤ k → k ≤ 18 → S' k i = S k i) (hM : ∀ k i, 38 ≤ k → k ≤ 45 → k ≠ 40 → k ≠ 41 → M' k i = M k i) (h1 : L4 S' M' 1 16 40 41) : LR S' M' := by
  rw [LR_4] at h ⊢
  obtain ⟨h0, h1', h2, h3⟩ := h
  refine ⟨?_, ?_, ?_, ?_⟩
  all_goals first | exact h1 | (refine L4_cg (by assumption) (hS _ _ (by decide) (by decide) (by decide) (by decide) (by decide) (by decide)) (hS _ _ (by decide) (by decide) (by decide) (by decide) (by decide) (by decide)) (hS _ _ (by decide) (by decide) (by decide) (by decide) (by decide) (by decide)) (fun i => hS _ _ (by decide) (fun q => absurd q (by decide)) (fun q => absurd q (by decide)) (fun q => absurd q (by decide)) (by decide) (by decide)) (fun i => hM _ _ (by decide) (by decide) (by decide) (by decide)) (fun i => hM _ _ (by decide) (by decide) (by decide) (by decide)))
theorem RX_one1 {S S' M M' : zM} (h : RX S M) (hS0 : ∀ k i, ¬ (12 ≤ k ∧ k ≤ 18) → S' k i = S k i) (hS : ∀ k i, k ≠ 16 → (k = 12 → i ≠ 1) → (k = 13 → i ≠ 1) → (k = 14 → i ≠ 1) → 12 ≤ k → k ≤ 18 → S' k i = S k i) (hM : ∀ k i, ¬ (23 ≤ k ∧ k ≤ 37) → k ≠ 40 → k ≠ 41 → M' k i = M k i) (h1 : L4 S' M' 1 16 40 41) : RX S' M' := RX_leafs h (fun k i hk => hS0 k i (by omega)) (fun k i a b c => hM k i b (by omega) (by omega)) (LR_one1 h.2.2.2.2.2.2.1 hS (fun k i a b c d => hM k i (by omega) c d) h1) (by
  rw [hM _ _ (by decide) (by decide) (by decide), hS0 _ _ (by decide)]
  exact h.2.2.2.2.2.2.2)
theorem RX_L41 {S M : zM} (h : RX S M) : L4 S M 1 16 40 41 := by
  have := LR_4.mp h.2.2.2.2.2.2.1
  obtain ⟨h0, h1, h2, h3⟩ := this
  assumption
set_option maxRecDepth 100000 in
set_option maxHeartbeats 4000000 in
theorem s_begin1 {M : zM} {F : zM → Prop} {f n : Int} (hR : ∀ M', (∀ k i, k ≠ 40 → k ≠ 41 → M' k i = M k i) → M' 40 1 = f → M' 40 2 = n → (∀ i, 0 ≤ i → i < 60 → M' 41 i = 0) → F M') : zcn (zv 1 tX1_begin) [.inr (.inr 40), .inl f, .inl n] M F := by
  refine zcnv rfl ?_
  simp only [↓eX1_begin, ↓rX1_begin_0, ↓rX1_begin_1, ↓rX1_begin_2, ↓rX1_begin_5, ↓rX1_begin_6, ↓rX1_begin_7, ↓rX1_begin_10, ↓rX1_begin_11, ↓rX1_begin_14, ↓rX1_begin_15, ↓hg_fX1_9_38, ↓hg_fX1_9_40, ↓hg_fX1_9_42, ↓hg_fX1_9_44, ↓hp_fX1_15_38, ↓hp_fX1_15_40, ↓hp_fX1_15_42, ↓hp_fX1_15_44, ↓hp_fX1_19_38, ↓hp_fX1_19_40, ↓hp_fX1_19_42, ↓hp_fX1_19_44, ↓reduceIte, zkeep_n, zkeep_i, zkeep_r, zkeep_l, zIR, zLR, List.length_cons, List.length_nil, Nat.reduceAdd, Nat.reduceLeDiff, Nat.reduceEqDiff, Nat.reduceSub, Int.reduceLE, Int.reduceLT, Int.reduceEq, Int.reduceNe, Int.reduceNeg, Int.reduceAdd, Int.reduceSub, Int.reduceMul, Int.reduceToNat, Nat.le_refl, Nat.zero_le, Nat.zero_add, Int.zero_add, Int.add_zero, and_true, true_and, and_false, false_and, not_true_eq_false, not_false_eq_true, eq_self, ne_eq, true_implies, false_implies, implies_true, or_true, true_or, or_false, false_or, reduceCtorEq, Option.some.injEq, Sum.inl.injEq, exists_eq_left', exists_eq_left, zite]
  refine zcns (s_fill41 (fun M' g1 g2 => ⟨rfl, ?_⟩))
  have fin := hR M' (fun k i a b => by rw [g1 k i b, zup_ne a, zup_ne a]) (by rw [g1 _ _ (by decide)]; simp [zup_eq]) (by rw [g1 _ _ (by decide)]; simp [zup_eq]) g2
  simp only [↓rX1_begin_18, ↓reduceIte, zkeep_n, zkeep_i, zkeep_r, zkeep_l, zup_eq, zIR, zLR, List.length_cons, List.length_nil, Nat.reduceAdd, Nat.reduceLeDiff, Nat.reduceEqDiff, Nat.reduceSub, Int.reduceLE, Int.reduceLT, Int.reduceEq, Int.reduceNe, Int.reduceNeg, Int.reduceAdd, Int.reduceSub, Int.reduceMul, Int.reduceToNat, Nat.le_refl, Nat.zero_le, Nat.zero_add, Int.zero_add, Int.add_zero, and_true, true_and, and_false, false_and, not_true_eq_false, not_false_eq_true, eq_self, ne_eq, true_implies, false_implies, implies_true, or_true, true_or, or_false, false_or, reduceCtorEq, Option.some.injEq, Sum.inl.injEq, exists_eq_left', exists_eq_left, zite]
  exact fin
set_option maxRecDepth 100000 in
set_option maxHeartbeats 4000000 in
theorem x_lose1 {S M : zM} {R : zP} (h : RX S M) (hR : ∀ M', RX (mLose S 1) M' → XF M M' → R (some (.inl (aLose S 1))) M') : tX7_lose [.inr (.inr 0), .inl 1] M R := by
  unfold mLose aLose at hR
  have g0 : (0 : Int) ≤ 1 ∧ (1 : Int) < 4 := by decide
  rw [if_pos g0, if_pos g0] at hR
  obtain ⟨l1, l2, l3, l4⟩ := RX_L41 h
  by_cases e : S 12 1 = 0
  · rw [if_pos e, if_pos e] at hR
    have e1 := l2 e
    have fin := hR _ (RX_find h (by decide)) XF_find
    simp only [↓eX7_lose, ↓rX7_lose_0, ↓rX7_lose_1, ↓rX7_lose_2, ↓rX7_lose_5, ↓rX7_lose_8, ↓rX7_lose_10, ↓rX7_lose_11, ↓rX7_lose_12, ↓rX7_lose_15, ↓rX7_lose_16, ↓rX7_lose_17, ↓rX7_lose_18, ↓rX7_lose_19, ↓rX7_lose_22, ↓rX7_lose_25, ↓rX7_lose_26, ↓rX7_lose_27, ↓rX7_lose_30, ↓rX7_lose_31, ↓rX7_lose_32, ↓rX7_lose_35, ↓rX7_lose_36, ↓rX7_lose_37, ↓rX7_lose_40, ↓rX7_lose_41, ↓hg_fX7_134_38, ↓hg_fX7_134_40, ↓hg_fX7_134_42, ↓hg_fX7_134_44, ↓hg_fX7_44_0, ↓hrow_22, ↓i_finding, ↓i_isLost38, ↓i_isLost40, ↓i_isLost42, ↓i_isLost44, ↓i_outside, ↓i_vanish38, ↓i_vanish40, ↓i_vanish42, ↓i_vanish44, ↓reduceIte, ↓hrw, ↓hgd0, ↓hgd1, ↓hgd2, ↓hgd3, zkeep_n, zkeep_i, zkeep_r, zkeep_l, zIR, zLR, List.length_cons, List.length_nil, Nat.reduceAdd, Nat.reduceLeDiff, Nat.reduceEqDiff, Nat.reduceSub, Int.reduceLE, Int.reduceLT, Int.reduceEq, Int.reduceNe, Int.reduceNeg, Int.reduceAdd, Int.reduceSub, Int.reduceMul, Int.reduceToNat, Nat.le_refl, Nat.zero_le, Nat.zero_add, Int.zero_add, Int.add_zero, and_true, true_and, and_false, false_and, not_true_eq_false, not_false_eq_true, eq_self, ne_eq, true_implies, false_implies, implies_true, or_true, true_or, or_false, false_or, reduceCtorEq, Option.some.injEq, Sum.inl.injEq, exists_eq_left', exists_eq_left, e1, zite]
    repeat' (first | with_reducible apply And.intro | with_reducible intro _)
    all_goals first | omega | (exact fin)
  · rw [if_neg e, if_neg e] at hR
    obtain ⟨l5, l6⟩ := l3 (by omega)
    have e1 := l5.1
    have e2 := l6.1
    have fin := hR (zup (zup M 40 1 (-1)) 40 2 0) (RX_one1 h (fun k i hk => zup_ne (by omega)) (fun k i h1 h2 h3 h4 h5 h6 => by
      rw [zup_eq, if_neg]
      rintro ⟨q1, q2⟩
      exact h2 q1 q2) (fun k i h1 h2 h3 => by rw [zup_ne h2, zup_ne h2]) (by
      unfold L4
      rw [zup_in, if_pos rfl]
      refine ⟨Or.inl rfl, fun _ => by simp [zup_eq], fun q => by omega, fun i a b => ?_⟩
      rw [zup_ne (by decide), zup_ne (by decide), zup_ne (by decide)]
      exact l4 i a b)) (fun k i hk => by rw [zup_ne (by omega), zup_ne (by omega)])
    simp only [↓eX7_lose, ↓rX7_lose_0, ↓rX7_lose_1, ↓rX7_lose_2, ↓rX7_lose_5, ↓rX7_lose_8, ↓rX7_lose_10, ↓rX7_lose_11, ↓rX7_lose_12, ↓rX7_lose_15, ↓rX7_lose_16, ↓rX7_lose_17, ↓rX7_lose_18, ↓rX7_lose_19, ↓rX7_lose_22, ↓rX7_lose_25, ↓rX7_lose_26, ↓rX7_lose_27, ↓rX7_lose_30, ↓rX7_lose_31, ↓rX7_lose_32, ↓rX7_lose_35, ↓rX7_lose_36, ↓rX7_lose_37, ↓rX7_lose_40, ↓rX7_lose_41, ↓hg_fX7_134_38, ↓hg_fX7_134_40, ↓hg_fX7_134_42, ↓hg_fX7_134_44, ↓hg_fX7_44_0, ↓hrow_22, ↓i_finding, ↓i_isLost38, ↓i_isLost40, ↓i_isLost42, ↓i_isLost44, ↓i_outside, ↓i_vanish38, ↓i_vanish40, ↓i_vanish42, ↓i_vanish44, ↓reduceIte, ↓hrw, ↓hgd0, ↓hgd1, ↓hgd2, ↓hgd3, zkeep_n, zkeep_i, zkeep_r, zkeep_l, zIR, zLR, List.length_cons, List.length_nil, Nat.reduceAdd, Nat.reduceLeDiff, Nat.reduceEqDiff, Nat.reduceSub, Int.reduceLE, Int.reduceLT, Int.reduceEq, Int.reduceNe, Int.reduceNeg, Int.reduceAdd, Int.reduceSub, Int.reduceMul, Int.reduceToNat, Nat.le_refl, Nat.zero_le, Nat.zero_add, Int.zero_add, Int.add_zero, and_true, true_and, and_false, false_and, not_true_eq_false, not_false_eq_true, eq_self, ne_eq, true_implies, false_implies, implies_true, or_true, true_or, or_false, false_or, reduceCtorEq, Option.some.injEq, Sum.inl.injEq, exists_eq_left', exists_eq_left, e1, e2, zite]
    repeat' (first | with_reducible apply And.intro | with_reducible intro _)
    all_goals first | omega | (exact fin)
set_option maxRecDepth 100000 in
set_option maxHeartbeats 4000000 in
theorem x_sheet1 {S M : zM} {R : zP} {f n : Int} (h : RX S M) (z1 : zIR f) (z2 : zIR n) (hR : ∀ M', RX (mSheet S 1 f n) M' → XF M M' → R (some (.inl (aSheet S 1 f n))) M') : tX7_sheet [.inr (.inr 0), .inl 1, .inl f, .inl n] M R := by
  unfold zIR at z1 z2
  unfold mSheet aSheet at hR
  have bad : ¬ ((0 ≤ f ∧ f < 3) ∧ n ≤ 60) → R (some (.inl (-2))) M := fun q => by
    have := hR M (by rw [if_neg (fun z => q z.2)]; exact h) XF.rfl
    rw [if_neg (fun z => q z.2)] at this
    exact this
  have neg : (0 ≤ f ∧ f < 3) → n < 0 → R (some (.inl (-15))) (zup M 0 6 5) := fun q1 q2 => by
    have := hR (zup M 0 6 5) (by rw [if_pos ⟨by decide, q1, by omega⟩, if_pos q2]; exact RX_find h (by decide)) XF_find
    rw [if_pos ⟨by decide, q1, by omega⟩, if_pos q2] at this
    exact this
  have ok : (0 ≤ f ∧ f < 3) → (0 ≤ n ∧ n ≤ 60) → zcn (zv 1 tX1_begin) [.inr (.inr 40), .inl f, .inl n] M (fun M' => uX7_sheet R 46 [some (.inr (.inr 0)), some (.inl 1), some (.inl f), some (.inl n)] [] M') := fun q1 q2 => by
    refine s_begin1 (fun M' g1 g2 g3 g4 => ?_)
    have fin := hR M' (by
      rw [if_pos ⟨by decide, q1, by omega⟩, if_neg (by omega)]
      refine RX_one1 h (fun k i hk => ?_) (fun k i h1 h2 h3 h4 h5 h6 => ?_) (fun k i h1 h2 h3 => g1 k i h2 h3) ?_
      · unfold nSheet
        rw [if_neg (by omega), if_neg (by omega), if_neg (by omega), if_neg (by simp; omega)]
      · unfold nSheet
        rw [if_neg (fun q => h2 q.1 q.2), if_neg (fun q => h3 q.1 q.2), if_neg (fun q => h4 q.1 q.2), if_neg (by simp; omega)]
      · have e1 : nSheet S 1 f n 12 1 = 1 := by unfold nSheet; rw [if_pos (by decide)]
        have e2 : nSheet S 1 f n 13 1 = f := by unfold nSheet; rw [if_neg (by decide), if_pos (by decide)]
        have e3 : nSheet S 1 f n 14 1 = n := by unfold nSheet; rw [if_neg (by decide), if_neg (by decide), if_pos (by decide)]
        have e4 : ∀ i, nSheet S 1 f n 16 i = 0 := fun i => by unfold nSheet; rw [if_neg (fun q => absurd q.1 (by decide)), if_neg (fun q => absurd q.1 (by decide)), if_neg (fun q => absurd q.1 (by decide)), if_pos (by decide)]
        unfold L4
        rw [e1, e2, e3, g2, g3]
        refine ⟨Or.inr rfl, fun q => by omega, fun _ => ⟨⟨rfl, by omega⟩, ⟨rfl, by omega⟩⟩, fun i a b => ?_⟩
        rw [e4, g4 i a b]
        exact ⟨rfl, by decide, by decide⟩) (fun k i hk => g1 k i (by omega) (by omega))
    rw [if_pos ⟨by decide, q1, by omega⟩, if_neg (by omega)] at fin
    simp only [↓rX7_sheet_46, ↓rX7_sheet_47, ↓reduceIte, zkeep_n, zkeep_i, zkeep_r, zkeep_l, zup_eq, zIR, zLR, List.length_cons, List.length_nil, Nat.reduceAdd, Nat.reduceLeDiff, Nat.reduceEqDiff, Nat.reduceSub, Int.reduceLE, Int.reduceLT, Int.reduceEq, Int.reduceNe, Int.reduceNeg, Int.reduceAdd, Int.reduceSub, Int.reduceMul, Int.reduceToNat, Nat.le_refl, Nat.zero_le, Nat.zero_add, Int.zero_add, Int.add_zero, and_true, true_and, and_false, false_and, not_true_eq_false, not_false_eq_true, eq_self, ne_eq, true_implies, false_implies, implies_true, or_true, true_or, or_false, false_or, reduceCtorEq, Option.some.injEq, Sum.inl.injEq, exists_eq_left', exists_eq_left, zite]
    exact fin
  simp only [↓eX7_sheet, ↓rX7_sheet_0, ↓rX7_sheet_1, ↓rX7_sheet_2, ↓rX7_sheet_5, ↓rX7_sheet_8, ↓rX7_sheet_9, ↓rX7_sheet_10, ↓rX7_sheet_13, ↓rX7_sheet_16, ↓rX7_sheet_17, ↓rX7_sheet_19, ↓rX7_sheet_22, ↓rX7_sheet_24, ↓rX7_sheet_25, ↓rX7_sheet_26, ↓rX7_sheet_29, ↓rX7_sheet_30, ↓rX7_sheet_31, ↓rX7_sheet_34, ↓rX7_sheet_35, ↓rX7_sheet_36, ↓rX7_sheet_39, ↓rX7_sheet_40, ↓rX7_sheet_41, ↓rX7_sheet_42, ↓rX7_sheet_43, ↓hg_fX7_44_0, ↓hrow_22, ↓i_finding, ↓i_outside, ↓reduceIte, ↓hrw, ↓hgd0, ↓hgd1, ↓hgd2, ↓hgd3, zkeep_n, zkeep_i, zkeep_r, zkeep_l, zIR, zLR, List.length_cons, List.length_nil, Nat.reduceAdd, Nat.reduceLeDiff, Nat.reduceEqDiff, Nat.reduceSub, Int.reduceLE, Int.reduceLT, Int.reduceEq, Int.reduceNe, Int.reduceNeg, Int.reduceAdd, Int.reduceSub, Int.reduceMul, Int.reduceToNat, Nat.le_refl, Nat.zero_le, Nat.zero_add, Int.zero_add, Int.add_zero, and_true, true_and, and_false, false_and, not_true_eq_false, not_false_eq_true, eq_self, ne_eq, true_implies, false_implies, implies_true, or_true, true_or, or_false, false_or, reduceCtorEq, Option.some.injEq, Sum.inl.injEq, exists_eq_left', exists_eq_left, zite]
  repeat' (first | with_reducible apply And.intro | with_reducible intro _)
  all_goals first | omega | (exact bad (by omega)) | (exact neg (by omega) (by omega)) | (exact ok (by omega) (by omega))
theorem LR_one2 {S S' M M' : zM} (h : LR S M) (hS : ∀ k i, k ≠ 17 → (k = 12 → i ≠ 2) → (k = 13 → i ≠ 2) → (k = 14 → i ≠ 2) → 12 ≤ k → k ≤ 18 → S' k i = S k i) (hM : ∀ k i, 38 ≤ k → k ≤ 45 → k ≠ 42 → k ≠ 43 → M' k i = M k i) (h1 : L4 S' M' 2 17 42 43) : LR S' M' := by
  rw [LR_4] at h ⊢
  obtain ⟨h0, h1', h2, h3⟩ := h
  refine ⟨?_, ?_, ?_, ?_⟩
  all_goals first | exact h1 | (refine L4_cg (by assumption) (hS _ _ (by decide) (by decide) (by decide) (by decide) (by decide) (by decide)) (hS _ _ (by decide) (by decide) (by decide) (by decide) (by decide) (by decide)) (hS _ _ (by decide) (by decide) (by decide) (by decide) (by decide) (by decide)) (fun i => hS _ _ (by decide) (fun q => absurd q (by decide)) (fun q => absurd q (by decide)) (fun q => absurd q (by decide)) (by decide) (by decide)) (fun i => hM _ _ (by decide) (by decide) (by decide) (by decide)) (fun i => hM _ _ (by decide) (by decide) (by decide) (by decide)))
theorem RX_one2 {S S' M M' : zM} (h : RX S M) (hS0 : ∀ k i, ¬ (12 ≤ k ∧ k ≤ 18) → S' k i = S k i) (hS : ∀ k i, k ≠ 17 → (k = 12 → i ≠ 2) → (k = 13 → i ≠ 2) → (k = 14 → i ≠ 2) → 12 ≤ k → k ≤ 18 → S' k i = S k i) (hM : ∀ k i, ¬ (23 ≤ k ∧ k ≤ 37) → k ≠ 42 → k ≠ 43 → M' k i = M k i) (h1 : L4 S' M' 2 17 42 43) : RX S' M' := RX_leafs h (fun k i hk => hS0 k i (by omega)) (fun k i a b c => hM k i b (by omega) (by omega)) (LR_one2 h.2.2.2.2.2.2.1 hS (fun k i a b c d => hM k i (by omega) c d) h1) (by
  rw [hM _ _ (by decide) (by decide) (by decide), hS0 _ _ (by decide)]
  exact h.2.2.2.2.2.2.2)
theorem RX_L42 {S M : zM} (h : RX S M) : L4 S M 2 17 42 43 := by
  have := LR_4.mp h.2.2.2.2.2.2.1
  obtain ⟨h0, h1, h2, h3⟩ := this
  assumption
set_option maxRecDepth 100000 in
set_option maxHeartbeats 4000000 in
theorem s_begin2 {M : zM} {F : zM → Prop} {f n : Int} (hR : ∀ M', (∀ k i, k ≠ 42 → k ≠ 43 → M' k i = M k i) → M' 42 1 = f → M' 42 2 = n → (∀ i, 0 ≤ i → i < 60 → M' 43 i = 0) → F M') : zcn (zv 1 tX1_begin) [.inr (.inr 42), .inl f, .inl n] M F := by
  refine zcnv rfl ?_
  simp only [↓eX1_begin, ↓rX1_begin_0, ↓rX1_begin_1, ↓rX1_begin_2, ↓rX1_begin_5, ↓rX1_begin_6, ↓rX1_begin_7, ↓rX1_begin_10, ↓rX1_begin_11, ↓rX1_begin_14, ↓rX1_begin_15, ↓hg_fX1_9_38, ↓hg_fX1_9_40, ↓hg_fX1_9_42, ↓hg_fX1_9_44, ↓hp_fX1_15_38, ↓hp_fX1_15_40, ↓hp_fX1_15_42, ↓hp_fX1_15_44, ↓hp_fX1_19_38, ↓hp_fX1_19_40, ↓hp_fX1_19_42, ↓hp_fX1_19_44, ↓reduceIte, zkeep_n, zkeep_i, zkeep_r, zkeep_l, zIR, zLR, List.length_cons, List.length_nil, Nat.reduceAdd, Nat.reduceLeDiff, Nat.reduceEqDiff, Nat.reduceSub, Int.reduceLE, Int.reduceLT, Int.reduceEq, Int.reduceNe, Int.reduceNeg, Int.reduceAdd, Int.reduceSub, Int.reduceMul, Int.reduceToNat, Nat.le_refl, Nat.zero_le, Nat.zero_add, Int.zero_add, Int.add_zero, and_true, true_and, and_false, false_and, not_true_eq_false, not_false_eq_true, eq_self, ne_eq, true_implies, false_implies, implies_true, or_true, true_or, or_false, false_or, reduceCtorEq, Option.some.injEq, Sum.inl.injEq, exists_eq_left', exists_eq_left, zite]
  refine zcns (s_fill43 (fun M' g1 g2 => ⟨rfl, ?_⟩))
  have fin := hR M' (fun k i a b => by rw [g1 k i b, zup_ne a, zup_ne a]) (by rw [g1 _ _ (by decide)]; simp [zup_eq]) (by rw [g1 _ _ (by decide)]; simp [zup_eq]) g2
  simp only [↓rX1_begin_18, ↓reduceIte, zkeep_n, zkeep_i, zkeep_r, zkeep_l, zup_eq, zIR, zLR, List.length_cons, List.length_nil, Nat.reduceAdd, Nat.reduceLeDiff, Nat.reduceEqDiff, Nat.reduceSub, Int.reduceLE, Int.reduceLT, Int.reduceEq, Int.reduceNe, Int.reduceNeg, Int.reduceAdd, Int.reduceSub, Int.reduceMul, Int.reduceToNat, Nat.le_refl, Nat.zero_le, Nat.zero_add, Int.zero_add, Int.add_zero, and_true, true_and, and_false, false_and, not_true_eq_false, not_false_eq_true, eq_self, ne_eq, true_implies, false_implies, implies_true, or_true, true_or, or_false, false_or, reduceCtorEq, Option.some.injEq, Sum.inl.injEq, exists_eq_left', exists_eq_left, zite]
  exact fin
set_option maxRecDepth 100000 in
set_option maxHeartbeats 4000000 in
theorem x_lose2 {S M : zM} {R : zP} (h : RX S M) (hR : ∀ M', RX (mLose S 2) M' → XF M M' → R (some (.inl (aLose S 2))) M') : tX7_lose [.inr (.inr 0), .inl 2] M R := by
  unfold mLose aLose at hR
  have g0 : (0 : Int) ≤ 2 ∧ (2 : Int) < 4 := by decide
  rw [if_pos g0, if_pos g0] at hR
  obtain ⟨l1, l2, l3, l4⟩ := RX_L42 h
  by_cases e : S 12 2 = 0
  · rw [if_pos e, if_pos e] at hR
    have e1 := l2 e
    have fin := hR _ (RX_find h (by decide)) XF_find
    simp only [↓eX7_lose, ↓rX7_lose_0, ↓rX7_lose_1, ↓rX7_lose_2, ↓rX7_lose_5, ↓rX7_lose_8, ↓rX7_lose_10, ↓rX7_lose_11, ↓rX7_lose_12, ↓rX7_lose_15, ↓rX7_lose_16, ↓rX7_lose_17, ↓rX7_lose_18, ↓rX7_lose_19, ↓rX7_lose_22, ↓rX7_lose_25, ↓rX7_lose_26, ↓rX7_lose_27, ↓rX7_lose_30, ↓rX7_lose_31, ↓rX7_lose_32, ↓rX7_lose_35, ↓rX7_lose_36, ↓rX7_lose_37, ↓rX7_lose_40, ↓rX7_lose_41, ↓hg_fX7_134_38, ↓hg_fX7_134_40, ↓hg_fX7_134_42, ↓hg_fX7_134_44, ↓hg_fX7_44_0, ↓hrow_22, ↓i_finding, ↓i_isLost38, ↓i_isLost40, ↓i_isLost42, ↓i_isLost44, ↓i_outside, ↓i_vanish38, ↓i_vanish40, ↓i_vanish42, ↓i_vanish44, ↓reduceIte, ↓hrw, ↓hgd0, ↓hgd1, ↓hgd2, ↓hgd3, zkeep_n, zkeep_i, zkeep_r, zkeep_l, zIR, zLR, List.length_cons, List.length_nil, Nat.reduceAdd, Nat.reduceLeDiff, Nat.reduceEqDiff, Nat.reduceSub, Int.reduceLE, Int.reduceLT, Int.reduceEq, Int.reduceNe, Int.reduceNeg, Int.reduceAdd, Int.reduceSub, Int.reduceMul, Int.reduceToNat, Nat.le_refl, Nat.zero_le, Nat.zero_add, Int.zero_add, Int.add_zero, and_true, true_and, and_false, false_and, not_true_eq_false, not_false_eq_true, eq_self, ne_eq, true_implies, false_implies, implies_true, or_true, true_or, or_false, false_or, reduceCtorEq, Option.some.injEq, Sum.inl.injEq, exists_eq_left', exists_eq_left, e1, zite]
    repeat' (first | with_reducible apply And.intro | with_reducible intro _)
    all_goals first | omega | (exact fin)
  · rw [if_neg e, if_neg e] at hR
    obtain ⟨l5, l6⟩ := l3 (by omega)
    have e1 := l5.1
    have e2 := l6.1
    have fin := hR (zup (zup M 42 1 (-1)) 42 2 0) (RX_one2 h (fun k i hk => zup_ne (by omega)) (fun k i h1 h2 h3 h4 h5 h6 => by
      rw [zup_eq, if_neg]
      rintro ⟨q1, q2⟩
      exact h2 q1 q2) (fun k i h1 h2 h3 => by rw [zup_ne h2, zup_ne h2]) (by
      unfold L4
      rw [zup_in, if_pos rfl]
      refine ⟨Or.inl rfl, fun _ => by simp [zup_eq], fun q => by omega, fun i a b => ?_⟩
      rw [zup_ne (by decide), zup_ne (by decide), zup_ne (by decide)]
      exact l4 i a b)) (fun k i hk => by rw [zup_ne (by omega), zup_ne (by omega)])
    simp only [↓eX7_lose, ↓rX7_lose_0, ↓rX7_lose_1, ↓rX7_lose_2, ↓rX7_lose_5, ↓rX7_lose_8, ↓rX7_lose_10, ↓rX7_lose_11, ↓rX7_lose_12, ↓rX7_lose_15, ↓rX7_lose_16, ↓rX7_lose_17, ↓rX7_lose_18, ↓rX7_lose_19, ↓rX7_lose_22, ↓rX7_lose_25, ↓rX7_lose_26, ↓rX7_lose_27, ↓rX7_lose_30, ↓rX7_lose_31, ↓rX7_lose_32, ↓rX7_lose_35, ↓rX7_lose_36, ↓rX7_lose_37, ↓rX7_lose_40, ↓rX7_lose_41, ↓hg_fX7_134_38, ↓hg_fX7_134_40, ↓hg_fX7_134_42, ↓hg_fX7_134_44, ↓hg_fX7_44_0, ↓hrow_22, ↓i_finding, ↓i_isLost38, ↓i_isLost40, ↓i_isLost42, ↓i_isLost44, ↓i_outside, ↓i_vanish38, ↓i_vanish40, ↓i_vanish42, ↓i_vanish44, ↓reduceIte, ↓hrw, ↓hgd0, ↓hgd1, ↓hgd2, ↓hgd3, zkeep_n, zkeep_i, zkeep_r, zkeep_l, zIR, zLR, List.length_cons, List.length_nil, Nat.reduceAdd, Nat.reduceLeDiff, Nat.reduceEqDiff, Nat.reduceSub, Int.reduceLE, Int.reduceLT, Int.reduceEq, Int.reduceNe, Int.reduceNeg, Int.reduceAdd, Int.reduceSub, Int.reduceMul, Int.reduceToNat, Nat.le_refl, Nat.zero_le, Nat.zero_add, Int.zero_add, Int.add_zero, and_true, true_and, and_false, false_and, not_true_eq_false, not_false_eq_true, eq_self, ne_eq, true_implies, false_implies, implies_true, or_true, true_or, or_false, false_or, reduceCtorEq, Option.some.injEq, Sum.inl.injEq, exists_eq_left', exists_eq_left, e1, e2, zite]
    repeat' (first | with_reducible apply And.intro | with_reducible intro _)
    all_goals first | omega | (exact fin)
set_option maxRecDepth 100000 in
set_option maxHeartbeats 4000000 in
theorem x_sheet2 {S M : zM} {R : zP} {f n : Int} (h : RX S M) (z1 : zIR f) (z2 : zIR n) (hR : ∀ M', RX (mSheet S 2 f n) M' → XF M M' → R (some (.inl (aSheet S 2 f n))) M') : tX7_sheet [.inr (.inr 0), .inl 2, .inl f, .inl n] M R := by
  unfold zIR at z1 z2
  unfold mSheet aSheet at hR
  have bad : ¬ ((0 ≤ f ∧ f < 3) ∧ n ≤ 60) → R (some (.inl (-2))) M := fun q => by
    have := hR M (by rw [if_neg (fun z => q z.2)]; exact h) XF.rfl
    rw [if_neg (fun z => q z.2)] at this
    exact this
  have neg : (0 ≤ f ∧ f < 3) → n < 0 → R (some (.inl (-15))) (zup M 0 6 5) := fun q1 q2 => by
    have := hR (zup M 0 6 5) (by rw [if_pos ⟨by decide, q1, by omega⟩, if_pos q2]; exact RX_find h (by decide)) XF_find
    rw [if_pos ⟨by decide, q1, by omega⟩, if_pos q2] at this
    exact this
  have ok : (0 ≤ f ∧ f < 3) → (0 ≤ n ∧ n ≤ 60) → zcn (zv 1 tX1_begin) [.inr (.inr 42), .inl f, .inl n] M (fun M' => uX7_sheet R 46 [some (.inr (.inr 0)), some (.inl 2), some (.inl f), some (.inl n)] [] M') := fun q1 q2 => by
    refine s_begin2 (fun M' g1 g2 g3 g4 => ?_)
    have fin := hR M' (by
      rw [if_pos ⟨by decide, q1, by omega⟩, if_neg (by omega)]
      refine RX_one2 h (fun k i hk => ?_) (fun k i h1 h2 h3 h4 h5 h6 => ?_) (fun k i h1 h2 h3 => g1 k i h2 h3) ?_
      · unfold nSheet
        rw [if_neg (by omega), if_neg (by omega), if_neg (by omega), if_neg (by simp; omega)]
      · unfold nSheet
        rw [if_neg (fun q => h2 q.1 q.2), if_neg (fun q => h3 q.1 q.2), if_neg (fun q => h4 q.1 q.2), if_neg (by simp; omega)]
      · have e1 : nSheet S 2 f n 12 2 = 1 := by unfold nSheet; rw [if_pos (by decide)]
        have e2 : nSheet S 2 f n 13 2 = f := by unfold nSheet; rw [if_neg (by decide), if_pos (by decide)]
        have e3 : nSheet S 2 f n 14 2 = n := by unfold nSheet; rw [if_neg (by decide), if_neg (by decide), if_pos (by decide)]
        have e4 : ∀ i, nSheet S 2 f n 17 i = 0 := fun i => by unfold nSheet; rw [if_neg (fun q => absurd q.1 (by decide)), if_neg (fun q => absurd q.1 (by decide)), if_neg (fun q => absurd q.1 (by decide)), if_pos (by decide)]
        unfold L4
        rw [e1, e2, e3, g2, g3]
        refine ⟨Or.inr rfl, fun q => by omega, fun _ => ⟨⟨rfl, by omega⟩, ⟨rfl, by omega⟩⟩, fun i a b => ?_⟩
        rw [e4, g4 i a b]
        exact ⟨rfl, by decide, by decide⟩) (fun k i hk => g1 k i (by omega) (by omega))
    rw [if_pos ⟨by decide, q1, by omega⟩, if_neg (by omega)] at fin
    simp only [↓rX7_sheet_46, ↓rX7_sheet_47, ↓reduceIte, zkeep_n, zkeep_i, zkeep_r, zkeep_l, zup_eq, zIR, zLR, List.length_cons, List.length_nil, Nat.reduceAdd, Nat.reduceLeDiff, Nat.reduceEqDiff, Nat.reduceSub, Int.reduceLE, Int.reduceLT, Int.reduceEq, Int.reduceNe, Int.reduceNeg, Int.reduceAdd, Int.reduceSub, Int.reduceMul, Int.reduceToNat, Nat.le_refl, Nat.zero_le, Nat.zero_add, Int.zero_add, Int.add_zero, and_true, true_and, and_false, false_and, not_true_eq_false, not_false_eq_true, eq_self, ne_eq, true_implies, false_implies, implies_true, or_true, true_or, or_false, false_or, reduceCtorEq, Option.some.injEq, Sum.inl.injEq, exists_eq_left', exists_eq_left, zite]
    exact fin
  simp only [↓eX7_sheet, ↓rX7_sheet_0, ↓rX7_sheet_1, ↓rX7_sheet_2, ↓rX7_sheet_5, ↓rX7_sheet_8, ↓rX7_sheet_9, ↓rX7_sheet_10, ↓rX7_sheet_13, ↓rX7_sheet_16, ↓rX7_sheet_17, ↓rX7_sheet_19, ↓rX7_sheet_22, ↓rX7_sheet_24, ↓rX7_sheet_25, ↓rX7_sheet_26, ↓rX7_sheet_29, ↓rX7_sheet_30, ↓rX7_sheet_31, ↓rX7_sheet_34, ↓rX7_sheet_35, ↓rX7_sheet_36, ↓rX7_sheet_39, ↓rX7_sheet_40, ↓rX7_sheet_41, ↓rX7_sheet_42, ↓rX7_sheet_43, ↓hg_fX7_44_0, ↓hrow_22, ↓i_finding, ↓i_outside, ↓reduceIte, ↓hrw, ↓hgd0, ↓hgd1, ↓hgd2, ↓hgd3, zkeep_n, zkeep_i, zkeep_r, zkeep_l, zIR, zLR, List.length_cons, List.length_nil, Nat.reduceAdd, Nat.reduceLeDiff, Nat.reduceEqDiff, Nat.reduceSub, Int.reduceLE, Int.reduceLT, Int.reduceEq, Int.reduceNe, Int.reduceNeg, Int.reduceAdd, Int.reduceSub, Int.reduceMul, Int.reduceToNat, Nat.le_refl, Nat.zero_le, Nat.zero_add, Int.zero_add, Int.add_zero, and_true, true_and, and_false, false_and, not_true_eq_false, not_false_eq_true, eq_self, ne_eq, true_implies, false_implies, implies_true, or_true, true_or, or_false, false_or, reduceCtorEq, Option.some.injEq, Sum.inl.injEq, exists_eq_left', exists_eq_left, zite]
  repeat' (first | with_reducible apply And.intro | with_reducible intro _)
  all_goals first | omega | (exact bad (by omega)) | (exact neg (by omega) (by omega)) | (exact ok (by omega) (by omega))
theorem LR_one3 {S S' M M' : zM} (h : LR S M) (hS : ∀ k i, k ≠ 18 → (k = 12 → i ≠ 3) → (k = 13 → i ≠ 3) → (k = 14 → i ≠ 3) → 12 ≤ k → k ≤ 18 → S' k i = S k i) (hM : ∀ k i, 38 ≤ k → k ≤ 45 → k ≠ 44 → k ≠ 45 → M' k i = M k i) (h1 : L4 S' M' 3 18 44 45) : LR S' M' := by
  rw [LR_4] at h ⊢
  obtain ⟨h0, h1', h2, h3⟩ := h
  refine ⟨?_, ?_, ?_, ?_⟩
  all_goals first | exact h1 | (refine L4_cg (by assumption) (hS _ _ (by decide) (by decide) (by decide) (by decide) (by decide) (by decide)) (hS _ _ (by decide) (by decide) (by decide) (by decide) (by decide) (by decide)) (hS _ _ (by decide) (by decide) (by decide) (by decide) (by decide) (by decide)) (fun i => hS _ _ (by decide) (fun q => absurd q (by decide)) (fun q => absurd q (by decide)) (fun q => absurd q (by decide)) (by decide) (by decide)) (fun i => hM _ _ (by decide) (by decide) (by decide) (by decide)) (fun i => hM _ _ (by decide) (by decide) (by decide) (by decide)))
theorem RX_one3 {S S' M M' : zM} (h : RX S M) (hS0 : ∀ k i, ¬ (12 ≤ k ∧ k ≤ 18) → S' k i = S k i) (hS : ∀ k i, k ≠ 18 → (k = 12 → i ≠ 3) → (k = 13 → i ≠ 3) → (k = 14 → i ≠ 3) → 12 ≤ k → k ≤ 18 → S' k i = S k i) (hM : ∀ k i, ¬ (23 ≤ k ∧ k ≤ 37) → k ≠ 44 → k ≠ 45 → M' k i = M k i) (h1 : L4 S' M' 3 18 44 45) : RX S' M' := RX_leafs h (fun k i hk => hS0 k i (by omega)) (fun k i a b c => hM k i b (by omega) (by omega)) (LR_one3 h.2.2.2.2.2.2.1 hS (fun k i a b c d => hM k i (by omega) c d) h1) (by
  rw [hM _ _ (by decide) (by decide) (by decide), hS0 _ _ (by decide)]
  exact h.2.2.2.2.2.2.2)
theorem RX_L43 {S M : zM} (h : RX S M) : L4 S M 3 18 44 45 := by
  have := LR_4.mp h.2.2.2.2.2.2.1
  obtain ⟨h0, h1, h2, h3⟩ := this
  assumption
set_option maxRecDepth 100000 in
set_option maxHeartbeats 4000000 in
theorem s_begin3 {M : zM} {F : zM → Prop} {f n : Int} (hR : ∀ M', (∀ k i, k ≠ 44 → k ≠ 45 → M' k i = M k i) → M' 44 1 = f → M' 44 2 = n → (∀ i, 0 ≤ i → i < 60 → M' 45 i = 0) → F M') : zcn (zv 1 tX1_begin) [.inr (.inr 44), .inl f, .inl n] M F := by
  refine zcnv rfl ?_
  simp only [↓eX1_begin, ↓rX1_begin_0, ↓rX1_begin_1, ↓rX1_begin_2, ↓rX1_begin_5, ↓rX1_begin_6, ↓rX1_begin_7, ↓rX1_begin_10, ↓rX1_begin_11, ↓rX1_begin_14, ↓rX1_begin_15, ↓hg_fX1_9_38, ↓hg_fX1_9_40, ↓hg_fX1_9_42, ↓hg_fX1_9_44, ↓hp_fX1_15_38, ↓hp_fX1_15_40, ↓hp_fX1_15_42, ↓hp_fX1_15_44, ↓hp_fX1_19_38, ↓hp_fX1_19_40, ↓hp_fX1_19_42, ↓hp_fX1_19_44, ↓reduceIte, zkeep_n, zkeep_i, zkeep_r, zkeep_l, zIR, zLR, List.length_cons, List.length_nil, Nat.reduceAdd, Nat.reduceLeDiff, Nat.reduceEqDiff, Nat.reduceSub, Int.reduceLE, Int.reduceLT, Int.reduceEq, Int.reduceNe, Int.reduceNeg, Int.reduceAdd, Int.reduceSub, Int.reduceMul, Int.reduceToNat, Nat.le_refl, Nat.zero_le, Nat.zero_add, Int.zero_add, Int.add_zero, and_true, true_and, and_false, false_and, not_true_eq_false, not_false_eq_true, eq_self, ne_eq, true_implies, false_implies, implies_true, or_true, true_or, or_false, false_or, reduceCtorEq, Option.some.injEq, Sum.inl.injEq, exists_eq_left', exists_eq_left, zite]
  refine zcns (s_fill45 (fun M' g1 g2 => ⟨rfl, ?_⟩))
  have fin := hR M' (fun k i a b => by rw [g1 k i b, zup_ne a, zup_ne a]) (by rw [g1 _ _ (by decide)]; simp [zup_eq]) (by rw [g1 _ _ (by decide)]; simp [zup_eq]) g2
  simp only [↓rX1_begin_18, ↓reduceIte, zkeep_n, zkeep_i, zkeep_r, zkeep_l, zup_eq, zIR, zLR, List.length_cons, List.length_nil, Nat.reduceAdd, Nat.reduceLeDiff, Nat.reduceEqDiff, Nat.reduceSub, Int.reduceLE, Int.reduceLT, Int.reduceEq, Int.reduceNe, Int.reduceNeg, Int.reduceAdd, Int.reduceSub, Int.reduceMul, Int.reduceToNat, Nat.le_refl, Nat.zero_le, Nat.zero_add, Int.zero_add, Int.add_zero, and_true, true_and, and_false, false_and, not_true_eq_false, not_false_eq_true, eq_self, ne_eq, true_implies, false_implies, implies_true, or_true, true_or, or_false, false_or, reduceCtorEq, Option.some.injEq, Sum.inl.injEq, exists_eq_left', exists_eq_left, zite]
  exact fin
set_option maxRecDepth 100000 in
set_option maxHeartbeats 4000000 in
theorem x_lose3 {S M : zM} {R : zP} (h : RX S M) (hR : ∀ M', RX (mLose S 3) M' → XF M M' → R (some (.inl (aLose S 3))) M') : tX7_lose [.inr (.inr 0), .inl 3] M R := by
  unfold mLose aLose at hR
  have g0 : (0 : Int) ≤ 3 ∧ (3 : Int) < 4 := by decide
  rw [if_pos g0, if_pos g0] at hR
  obtain ⟨l1, l2, l3, l4⟩ := RX_L43 h
  by_cases e : S 12 3 = 0
  · rw [if_pos e, if_pos e] at hR
    have e1 := l2 e
    have fin := hR _ (RX_find h (by decide)) XF_find
    simp only [↓eX7_lose, ↓rX7_lose_0, ↓rX7_lose_1, ↓rX7_lose_2, ↓rX7_lose_5, ↓rX7_lose_8, ↓rX7_lose_10, ↓rX7_lose_11, ↓rX7_lose_12, ↓rX7_lose_15, ↓rX7_lose_16, ↓rX7_lose_17, ↓rX7_lose_18, ↓rX7_lose_19, ↓rX7_lose_22, ↓rX7_lose_25, ↓rX7_lose_26, ↓rX7_lose_27, ↓rX7_lose_30, ↓rX7_lose_31, ↓rX7_lose_32, ↓rX7_lose_35, ↓rX7_lose_36, ↓rX7_lose_37, ↓rX7_lose_40, ↓rX7_lose_41, ↓hg_fX7_134_38, ↓hg_fX7_134_40, ↓hg_fX7_134_42, ↓hg_fX7_134_44, ↓hg_fX7_44_0, ↓hrow_22, ↓i_finding, ↓i_isLost38, ↓i_isLost40, ↓i_isLost42, ↓i_isLost44, ↓i_outside, ↓i_vanish38, ↓i_vanish40, ↓i_vanish42, ↓i_vanish44, ↓reduceIte, ↓hrw, ↓hgd0, ↓hgd1, ↓hgd2, ↓hgd3, zkeep_n, zkeep_i, zkeep_r, zkeep_l, zIR, zLR, List.length_cons, List.length_nil, Nat.reduceAdd, Nat.reduceLeDiff, Nat.reduceEqDiff, Nat.reduceSub, Int.reduceLE, Int.reduceLT, Int.reduceEq, Int.reduceNe, Int.reduceNeg, Int.reduceAdd, Int.reduceSub, Int.reduceMul, Int.reduceToNat, Nat.le_refl, Nat.zero_le, Nat.zero_add, Int.zero_add, Int.add_zero, and_true, true_and, and_false, false_and, not_true_eq_false, not_false_eq_true, eq_self, ne_eq, true_implies, false_implies, implies_true, or_true, true_or, or_false, false_or, reduceCtorEq, Option.some.injEq, Sum.inl.injEq, exists_eq_left', exists_eq_left, e1, zite]
    repeat' (first | with_reducible apply And.intro | with_reducible intro _)
    all_goals first | omega | (exact fin)
  · rw [if_neg e, if_neg e] at hR
    obtain ⟨l5, l6⟩ := l3 (by omega)
    have e1 := l5.1
    have e2 := l6.1
    have fin := hR (zup (zup M 44 1 (-1)) 44 2 0) (RX_one3 h (fun k i hk => zup_ne (by omega)) (fun k i h1 h2 h3 h4 h5 h6 => by
      rw [zup_eq, if_neg]
      rintro ⟨q1, q2⟩
      exact h2 q1 q2) (fun k i h1 h2 h3 => by rw [zup_ne h2, zup_ne h2]) (by
      unfold L4
      rw [zup_in, if_pos rfl]
      refine ⟨Or.inl rfl, fun _ => by simp [zup_eq], fun q => by omega, fun i a b => ?_⟩
      rw [zup_ne (by decide), zup_ne (by decide), zup_ne (by decide)]
      exact l4 i a b)) (fun k i hk => by rw [zup_ne (by omega), zup_ne (by omega)])
    simp only [↓eX7_lose, ↓rX7_lose_0, ↓rX7_lose_1, ↓rX7_lose_2, ↓rX7_lose_5, ↓rX7_lose_8, ↓rX7_lose_10, ↓rX7_lose_11, ↓rX7_lose_12, ↓rX7_lose_15, ↓rX7_lose_16, ↓rX7_lose_17, ↓rX7_lose_18, ↓rX7_lose_19, ↓rX7_lose_22, ↓rX7_lose_25, ↓rX7_lose_26, ↓rX7_lose_27, ↓rX7_lose_30, ↓rX7_lose_31, ↓rX7_lose_32, ↓rX7_lose_35, ↓rX7_lose_36, ↓rX7_lose_37, ↓rX7_lose_40, ↓rX7_lose_41, ↓hg_fX7_134_38, ↓hg_fX7_134_40, ↓hg_fX7_134_42, ↓hg_fX7_134_44, ↓hg_fX7_44_0, ↓hrow_22, ↓i_finding, ↓i_isLost38, ↓i_isLost40, ↓i_isLost42, ↓i_isLost44, ↓i_outside, ↓i_vanish38, ↓i_vanish40, ↓i_vanish42, ↓i_vanish44, ↓reduceIte, ↓hrw, ↓hgd0, ↓hgd1, ↓hgd2, ↓hgd3, zkeep_n, zkeep_i, zkeep_r, zkeep_l, zIR, zLR, List.length_cons, List.length_nil, Nat.reduceAdd, Nat.reduceLeDiff, Nat.reduceEqDiff, Nat.reduceSub, Int.reduceLE, Int.reduceLT, Int.reduceEq, Int.reduceNe, Int.reduceNeg, Int.reduceAdd, Int.reduceSub, Int.reduceMul, Int.reduceToNat, Nat.le_refl, Nat.zero_le, Nat.zero_add, Int.zero_add, Int.add_zero, and_true, true_and, and_false, false_and, not_true_eq_false, not_false_eq_true, eq_self, ne_eq, true_implies, false_implies, implies_true, or_true, true_or, or_false, false_or, reduceCtorEq, Option.some.injEq, Sum.inl.injEq, exists_eq_left', exists_eq_left, e1, e2, zite]
    repeat' (first | with_reducible apply And.intro | with_reducible intro _)
    all_goals first | omega | (exact fin)
set_option maxRecDepth 100000 in
set_option maxHeartbeats 4000000 in
theorem x_sheet3 {S M : zM} {R : zP} {f n : Int} (h : RX S M) (z1 : zIR f) (z2 : zIR n) (hR : ∀ M', RX (mSheet S 3 f n) M' → XF M M' → R (some (.inl (aSheet S 3 f n))) M') : tX7_sheet [.inr (.inr 0), .inl 3, .inl f, .inl n] M R := by
  unfold zIR at z1 z2
  unfold mSheet aSheet at hR
  have bad : ¬ ((0 ≤ f ∧ f < 3) ∧ n ≤ 60) → R (some (.inl (-2))) M := fun q => by
    have := hR M (by rw [if_neg (fun z => q z.2)]; exact h) XF.rfl
    rw [if_neg (fun z => q z.2)] at this
    exact this
  have neg : (0 ≤ f ∧ f < 3) → n < 0 → R (some (.inl (-15))) (zup M 0 6 5) := fun q1 q2 => by
    have := hR (zup M 0 6 5) (by rw [if_pos ⟨by decide, q1, by omega⟩, if_pos q2]; exact RX_find h (by decide)) XF_find
    rw [if_pos ⟨by decide, q1, by omega⟩, if_pos q2] at this
    exact this
  have ok : (0 ≤ f ∧ f < 3) → (0 ≤ n ∧ n ≤ 60) → zcn (zv 1 tX1_begin) [.inr (.inr 44), .inl f, .inl n] M (fun M' => uX7_sheet R 46 [some (.inr (.inr 0)), some (.inl 3), some (.inl f), some (.inl n)] [] M') := fun q1 q2 => by
    refine s_begin3 (fun M' g1 g2 g3 g4 => ?_)
    have fin := hR M' (by
      rw [if_pos ⟨by decide, q1, by omega⟩, if_neg (by omega)]
      refine RX_one3 h (fun k i hk => ?_) (fun k i h1 h2 h3 h4 h5 h6 => ?_) (fun k i h1 h2 h3 => g1 k i h2 h3) ?_
      · unfold nSheet
        rw [if_neg (by omega), if_neg (by omega), if_neg (by omega), if_neg (by simp; omega)]
      · unfold nSheet
        rw [if_neg (fun q => h2 q.1 q.2), if_neg (fun q => h3 q.1 q.2), if_neg (fun q => h4 q.1 q.2), if_neg (by simp; omega)]
      · have e1 : nSheet S 3 f n 12 3 = 1 := by unfold nSheet; rw [if_pos (by decide)]
        have e2 : nSheet S 3 f n 13 3 = f := by unfold nSheet; rw [if_neg (by decide), if_pos (by decide)]
        have e3 : nSheet S 3 f n 14 3 = n := by unfold nSheet; rw [if_neg (by decide), if_neg (by decide), if_pos (by decide)]
        have e4 : ∀ i, nSheet S 3 f n 18 i = 0 := fun i => by unfold nSheet; rw [if_neg (fun q => absurd q.1 (by decide)), if_neg (fun q => absurd q.1 (by decide)), if_neg (fun q => absurd q.1 (by decide)), if_pos (by decide)]
        unfold L4
        rw [e1, e2, e3, g2, g3]
        refine ⟨Or.inr rfl, fun q => by omega, fun _ => ⟨⟨rfl, by omega⟩, ⟨rfl, by omega⟩⟩, fun i a b => ?_⟩
        rw [e4, g4 i a b]
        exact ⟨rfl, by decide, by decide⟩) (fun k i hk => g1 k i (by omega) (by omega))
    rw [if_pos ⟨by decide, q1, by omega⟩, if_neg (by omega)] at fin
    simp only [↓rX7_sheet_46, ↓rX7_sheet_47, ↓reduceIte, zkeep_n, zkeep_i, zkeep_r, zkeep_l, zup_eq, zIR, zLR, List.length_cons, List.length_nil, Nat.reduceAdd, Nat.reduceLeDiff, Nat.reduceEqDiff, Nat.reduceSub, Int.reduceLE, Int.reduceLT, Int.reduceEq, Int.reduceNe, Int.reduceNeg, Int.reduceAdd, Int.reduceSub, Int.reduceMul, Int.reduceToNat, Nat.le_refl, Nat.zero_le, Nat.zero_add, Int.zero_add, Int.add_zero, and_true, true_and, and_false, false_and, not_true_eq_false, not_false_eq_true, eq_self, ne_eq, true_implies, false_implies, implies_true, or_true, true_or, or_false, false_or, reduceCtorEq, Option.some.injEq, Sum.inl.injEq, exists_eq_left', exists_eq_left, zite]
    exact fin
  simp only [↓eX7_sheet, ↓rX7_sheet_0, ↓rX7_sheet_1, ↓rX7_sheet_2, ↓rX7_sheet_5, ↓rX7_sheet_8, ↓rX7_sheet_9, ↓rX7_sheet_10, ↓rX7_sheet_13, ↓rX7_sheet_16, ↓rX7_sheet_17, ↓rX7_sheet_19, ↓rX7_sheet_22, ↓rX7_sheet_24, ↓rX7_sheet_25, ↓rX7_sheet_26, ↓rX7_sheet_29, ↓rX7_sheet_30, ↓rX7_sheet_31, ↓rX7_sheet_34, ↓rX7_sheet_35, ↓rX7_sheet_36, ↓rX7_sheet_39, ↓rX7_sheet_40, ↓rX7_sheet_41, ↓rX7_sheet_42, ↓rX7_sheet_43, ↓hg_fX7_44_0, ↓hrow_22, ↓i_finding, ↓i_outside, ↓reduceIte, ↓hrw, ↓hgd0, ↓hgd1, ↓hgd2, ↓hgd3, zkeep_n, zkeep_i, zkeep_r, zkeep_l, zIR, zLR, List.length_cons, List.length_nil, Nat.reduceAdd, Nat.reduceLeDiff, Nat.reduceEqDiff, Nat.reduceSub, Int.reduceLE, Int.reduceLT, Int.reduceEq, Int.reduceNe, Int.reduceNeg, Int.reduceAdd, Int.reduceSub, Int.reduceMul, Int.reduceToNat, Nat.le_refl, Nat.zero_le, Nat.zero_add, Int.zero_add, Int.add_zero, and_true, true_and, and_false, false_and, not_true_eq_false, not_false_eq_true, eq_self, ne_eq, true_implies, false_implies, implies_true, or_true, true_or, or_false, false_or, reduceCtorEq, Option.some.injEq, Sum.inl.injEq, exists_eq_left', exists_eq_left, zite]
  repeat' (first | with_reducible apply And.intro | with_reducible intro _)
  all_goals first | omega | (exact bad (by omega)) | (exact neg (by omega) (by omega)) | (exact ok (by omega) (by omega))
set_option maxRecDepth 100000 in
set_option maxHeartbeats 4000000 in
theorem x_lose {S M : zM} {R : zP} {s : Int} (h : RX S M) (z1 : zIR s) (hR : ∀ M', RX (mLose S s) M' → XF M M' → R (some (.inl (aLose S s))) M') : tX7_lose [.inr (.inr 0), .inl s] M R := by
  by_cases hs : 0 ≤ s ∧ s < 4
  · have e : s = 0 ∨ s = 1 ∨ s = 2 ∨ s = 3 := by omega
    rcases e with rfl | rfl | rfl | rfl
    · exact x_lose0 h hR
    · exact x_lose1 h hR
    · exact x_lose2 h hR
    · exact x_lose3 h hR
  · have fin := hR M (by unfold mLose; rw [if_neg hs]; exact h) XF.rfl
    unfold aLose at fin
    rw [if_neg hs] at fin
    unfold zIR at z1
    simp only [↓eX7_lose, ↓rX7_lose_0, ↓rX7_lose_1, ↓rX7_lose_2, ↓rX7_lose_5, ↓rX7_lose_8, ↓rX7_lose_10, ↓i_outside, ↓reduceIte, zkeep_n, zkeep_i, zkeep_r, zkeep_l, zup_eq, zIR, zLR, List.length_cons, List.length_nil, Nat.reduceAdd, Nat.reduceLeDiff, Nat.reduceEqDiff, Nat.reduceSub, Int.reduceLE, Int.reduceLT, Int.reduceEq, Int.reduceNe, Int.reduceNeg, Int.reduceAdd, Int.reduceSub, Int.reduceMul, Int.reduceToNat, Nat.le_refl, Nat.zero_le, Nat.zero_add, Int.zero_add, Int.add_zero, and_true, true_and, and_false, false_and, not_true_eq_false, not_false_eq_true, eq_self, ne_eq, true_implies, false_implies, implies_true, or_true, true_or, or_false, false_or, reduceCtorEq, Option.some.injEq, Sum.inl.injEq, exists_eq_left', exists_eq_left, zite]
    repeat' (first | with_reducible apply And.intro | with_reducible intro _)
    all_goals first | omega | (exact fin)
set_option maxRecDepth 100000 in
set_option maxHeartbeats 4000000 in
theorem x_sheet {S M : zM} {R : zP} {s f n : Int} (h : RX S M) (z0 : zIR s) (z1 : zIR f) (z2 : zIR n) (hR : ∀ M', RX (mSheet S s f n) M' → XF M M' → R (some (.inl (aSheet S s f n))) M') : tX7_sheet [.inr (.inr 0), .inl s, .inl f, .inl n] M R := by
  by_cases hs : 0 ≤ s ∧ s < 4
  · have e : s = 0 ∨ s = 1 ∨ s = 2 ∨ s = 3 := by omega
    rcases e with rfl | rfl | rfl | rfl
    · exact x_sheet0 h z1 z2 hR
    · exact x_sheet1 h z1 z2 hR
    · exact x_sheet2 h z1 z2 hR
    · exact x_sheet3 h z1 z2 hR
  · have fin := hR M (by unfold mSheet; rw [if_neg (fun q => hs q.1)]; exact h) XF.rfl
    unfold aSheet at fin
    rw [if_neg (fun q => hs q.1)] at fin
    unfold zIR at z0
    simp only [↓eX7_sheet, ↓rX7_sheet_0, ↓rX7_sheet_1, ↓rX7_sheet_2, ↓rX7_sheet_5, ↓rX7_sheet_22, ↓rX7_sheet_24, ↓i_outside, ↓reduceIte, zkeep_n, zkeep_i, zkeep_r, zkeep_l, zup_eq, zIR, zLR, List.length_cons, List.length_nil, Nat.reduceAdd, Nat.reduceLeDiff, Nat.reduceEqDiff, Nat.reduceSub, Int.reduceLE, Int.reduceLT, Int.reduceEq, Int.reduceNe, Int.reduceNeg, Int.reduceAdd, Int.reduceSub, Int.reduceMul, Int.reduceToNat, Nat.le_refl, Nat.zero_le, Nat.zero_add, Int.zero_add, Int.add_zero, and_true, true_and, and_false, false_and, not_true_eq_false, not_false_eq_true, eq_self, ne_eq, true_implies, false_implies, implies_true, or_true, true_or, or_false, false_or, reduceCtorEq, Option.some.injEq, Sum.inl.injEq, exists_eq_left', exists_eq_left, zite]
    repeat' (first | with_reducible apply And.intro | with_reducible intro _)
    all_goals first | omega | (exact fin)
