theorem zor_Xd : ∀ m : Fin 10, ∀ b : Fin 1024, ((b.val : Int) < 2 ^ m.val → zor b.val (zshl 1 m.val) = b.val + 2 ^ m.val) ∧ zor b.val (zshl 0 m.val) = b.val := by decide +kernel
theorem two_leX (k : Nat) (h : k ≤ 10) : (2 : Int) ^ k ≤ 1024 := by
  have : ∀ k : Fin 11, (2 : Int) ^ k.val ≤ 1024 := by decide
  exact this ⟨k, by omega⟩
theorem zor_1X {m : Nat} {b : Int} (hm : m < 10) (h0 : 0 ≤ b) (h1 : b < 2 ^ m) : zor b (zshl 1 m) = b + 2 ^ m := by
  have h2 := two_leX m (by omega)
  have := (zor_Xd ⟨m, hm⟩ ⟨b.toNat, by omega⟩).1
  simp only [Int.toNat_of_nonneg h0] at this
  exact this h1
theorem zor_0X {m : Nat} {b : Int} (hm : m < 10) (h0 : 0 ≤ b) (h1 : b < 1024) : zor b (zshl 0 m) = b := by
  have := (zor_Xd ⟨m, hm⟩ ⟨b.toNat, by omega⟩).2
  simp only [Int.toNat_of_nonneg h0] at this
  exact this
theorem zbit_Xd : ∀ m : Fin 10, ∀ b : Fin 1024, zand (zshr b.val m.val) 1 = (b.val : Int) / 2 ^ m.val % 2 := by decide +kernel
theorem wbs_bitX (p : Nat → Bool) : ∀ (k m : Nat), m < k → wbs p k / 2 ^ m % 2 = if p m = true then 1 else 0
  | 0, _, h => by omega
  | k + 1, m, h => by
    have h1 := wbs_R p k
    have hp : ∀ j : Nat, (0 : Int) < 2 ^ j := fun j => Int.pow_pos (by decide)
    unfold wbs
    by_cases hm : m = k
    · subst hm
      have e0 : wbs p m / 2 ^ m = 0 := Int.ediv_eq_zero_of_lt h1.1 h1.2
      split
      · have := Int.add_mul_ediv_left (wbs p m) 1 (Int.ne_of_gt (hp m))
        rw [Int.mul_one] at this
        rw [this, e0]
        decide
      · rw [Int.add_zero, e0]
        decide
    · have ih := wbs_bitX p k m (by omega)
      split
      · have e : (2 : Int) ^ k = 2 ^ m * (2 * 2 ^ (k - m - 1)) := by
          rw [← Int.pow_succ', ← Int.pow_add]
          congr 1
          omega
        have := Int.add_mul_ediv_left (wbs p k) (2 * 2 ^ (k - m - 1)) (Int.ne_of_gt (hp m))
        rw [e, this, ← ih]
        generalize (2 : Int) ^ (k - m - 1) = z
        omega
      · rw [Int.add_zero, ih]
theorem zbit_wbsX (p : Nat → Bool) {k m : Nat} (hk : k ≤ 10) (hm : m < k) : zand (zshr (wbs p k) m) 1 = if p m = true then 1 else 0 := by
  have h1 := wbs_R p k
  have h2 := two_leX k hk
  have := zbit_Xd ⟨m, by omega⟩ ⟨(wbs p k).toNat, by omega⟩
  simp only [Int.toNat_of_nonneg h1.1] at this
  rw [this, wbs_bitX p k m hm]
def kbut (f : Nat) : Int → Bool := fun i => decide (i ≠ f)
theorem kbut_d : ∀ f : Fin 8, ∀ i : Fin 8, kpm (zand 255 (zxor (zshl 1 f.val) (-1))) i.val = kbut f.val i.val := by decide +kernel
theorem wX_kp {S : zM} {kp kp' : Int → Bool} {so : Int → Int} {fi : Int → Int → Int} {m : Int} {T : Nat} (h : ∀ f : Nat, f < nf S → kp f = kp' f) : wX S kp so fi m T = wX S kp' so fi m T := wseg_kp h _
def aNever (S : zM) : Int := wbs (fun f => wsee S (wX S (kbut f) (so0 S) (fst S))) (nf S)
set_option maxRecDepth 100000 in
set_option maxHeartbeats 4000000 in
theorem x_never {S M : zM} {R : zP} (h : RX S M) (hR : ∀ M', QF M M' → R (some (.inl (aNever S))) M') : tX7_never [.inr (.inr 0)] M R := by
  have hn : S 3 0 = nf S := by have := h.2.2.2.2.1.1; unfold nf; omega
  have hn8 := h.2.2.2.2.1.2.2.1
  have hs0 := h.2.2.2.2.2.1.2.1.1
  simp only [↓eX7_never, ↓rX7_never_0, ↓rX7_never_1, ↓rX7_never_2, ↓rX7_never_3, ↓reduceIte, zkeep_n, zkeep_i, zkeep_r, zkeep_l, zup_eq, zIR, zLR, List.length_cons, List.length_nil, Nat.reduceAdd, Nat.reduceLeDiff, Nat.reduceEqDiff, Nat.reduceSub, Int.reduceLE, Int.reduceLT, Int.reduceEq, Int.reduceNe, Int.reduceNeg, Int.reduceAdd, Int.reduceSub, Int.reduceMul, Int.reduceToNat, Nat.le_refl, Nat.zero_le, Nat.zero_add, Int.zero_add, Int.add_zero, and_true, true_and, and_false, false_and, not_true_eq_false, not_false_eq_true, eq_self, ne_eq, true_implies, false_implies, implies_true, or_true, true_or, or_false, false_or, reduceCtorEq, Option.some.injEq, Sum.inl.injEq, exists_eq_left', exists_eq_left, zite]
  unfold aNever at hR
  generalize hp : (fun f => wsee S (wX S (kbut f) (so0 S) (fst S))) = p at hR
  have L : ∀ s : Nat × zM, (s.1 ≤ nf S ∧ QF M s.2) → uX7_never R 4 [some (.inr (.inr 0)), some (.inl (wbs p s.1)), some (.inl (s.1 : Int))] [] s.2 := by
    refine zind (fun s => nf S - s.1) ?_
    rintro ⟨m, N⟩ ⟨hm, hfr⟩ ih
    simp only at hm hfr ih
    have n1 : N 7 4 = (nf S : Int) := (RX_qf h hfr).2.2.2.2.1.2.1
    have hpm : p m = wsee S (wX S (kbut m) (so0 S) (fst S)) := by rw [← hp]
    refine rX7_never_4.mpr ?_
    by_cases he : m = nf S
    · subst he
      have fin := hR N hfr
      simp only [↓rX7_never_5, ↓rX7_never_6, ↓rX7_never_9, ↓rX7_never_12, ↓rX7_never_44, ↓rX7_never_45, ↓hg_fX7_234_12, ↓hg_fX7_234_7, ↓hg_fX7_28_0, ↓reduceIte, zkeep_n, zkeep_i, zkeep_r, zkeep_l, zup_eq, zIR, zLR, List.length_cons, List.length_nil, Nat.reduceAdd, Nat.reduceLeDiff, Nat.reduceEqDiff, Nat.reduceSub, Int.reduceLE, Int.reduceLT, Int.reduceEq, Int.reduceNe, Int.reduceNeg, Int.reduceAdd, Int.reduceSub, Int.reduceMul, Int.reduceToNat, Nat.le_refl, Nat.zero_le, Nat.zero_add, Int.zero_add, Int.add_zero, and_true, true_and, and_false, false_and, not_true_eq_false, not_false_eq_true, eq_self, ne_eq, true_implies, false_implies, implies_true, or_true, true_or, or_false, false_or, reduceCtorEq, Option.some.injEq, Sum.inl.injEq, exists_eq_left', exists_eq_left, n1, zite]
      repeat' (first | with_reducible apply And.intro | with_reducible intro _)
      all_goals first | omega | (exact fin)
    · have hk : ∀ m' T, wX S (kpm (zand 255 (zxor (zshl 1 m) (-1)))) (so0 S) (fst S) m' T = wX S (kbut m) (so0 S) (fst S) m' T := fun m' T => wX_kp (fun f hf => kbut_d ⟨m, by omega⟩ ⟨f, by omega⟩)
      have hw := wbs_R p m
      have z1 := zor_1 (m := m) (by omega) hw.1 hw.2
      have next : ∀ N', QF N N' → uX7_never R 4 [some (.inr (.inr 0)), some (.inl (wbs p (m + 1))), some (.inl ((m : Int) + 1))] [] N' := fun N' g => ih (m + 1, N') ⟨by simp only; omega, hfr.trans g⟩ (by simp only; omega)
      simp only [wbs] at next
      have call : zcv (zv 7 tX7_restAgree) [.inr (.inr 0), .inl (-1), .inl (zand 255 (zxor (zshl 1 m) (-1)))] N (fun v N' => uX7_never R 29 [some (.inr (.inr 0)), some (.inl (wbs p m)), some (.inl (m : Int))] [v] N') := by
        refine zcvv rfl (s_rest (RX_qf h hfr) (by decide) (fun N' f1 hall => ⟨_, rfl, ?_⟩) (fun N' f1 hex => ⟨_, rfl, ?_⟩))
        · simp only [hk] at hall
          have hsee : p m = true := by
            rw [hpm, wsee_iff hs0]
            exact fun i a b => hall i a b (by have := (h.2.2.2.2.2.1.2.2 i a b).2.1; omega)
          have nx := next N' (fun k i a b => f1 k i (by omega) (by omega))
          rw [if_pos hsee] at nx
          simp only [↓rX7_never_29, ↓rX7_never_32, ↓rX7_never_33, ↓rX7_never_34, ↓rX7_never_35, ↓rX7_never_36, ↓rX7_never_37, ↓rX7_never_38, ↓rX7_never_41, ↓reduceIte, zkeep_n, zkeep_i, zkeep_r, zkeep_l, zup_eq, zIR, zLR, List.length_cons, List.length_nil, Nat.reduceAdd, Nat.reduceLeDiff, Nat.reduceEqDiff, Nat.reduceSub, Int.reduceLE, Int.reduceLT, Int.reduceEq, Int.reduceNe, Int.reduceNeg, Int.reduceAdd, Int.reduceSub, Int.reduceMul, Int.reduceToNat, Nat.le_refl, Nat.zero_le, Nat.zero_add, Int.zero_add, Int.add_zero, and_true, true_and, and_false, false_and, not_true_eq_false, not_false_eq_true, eq_self, ne_eq, true_implies, false_implies, implies_true, or_true, true_or, or_false, false_or, reduceCtorEq, Option.some.injEq, Sum.inl.injEq, exists_eq_left', exists_eq_left, zite]
          rw [z1]
          exact nx
        · simp only [hk] at hex
          have hsee : ¬ p m = true := by
            rw [hpm, wsee_iff hs0]
            obtain ⟨i, a, b, c, d⟩ := hex
            exact fun q => d (q i a b)
          have nx := next N' (fun k i a b => f1 k i (by omega) (by omega))
          rw [if_neg hsee, Int.add_zero] at nx
          simp only [↓rX7_never_29, ↓rX7_never_32, ↓rX7_never_33, ↓rX7_never_34, ↓rX7_never_35, ↓rX7_never_36, ↓rX7_never_37, ↓rX7_never_38, ↓rX7_never_41, ↓reduceIte, zkeep_n, zkeep_i, zkeep_r, zkeep_l, zup_eq, zIR, zLR, List.length_cons, List.length_nil, Nat.reduceAdd, Nat.reduceLeDiff, Nat.reduceEqDiff, Nat.reduceSub, Int.reduceLE, Int.reduceLT, Int.reduceEq, Int.reduceNe, Int.reduceNeg, Int.reduceAdd, Int.reduceSub, Int.reduceMul, Int.reduceToNat, Nat.le_refl, Nat.zero_le, Nat.zero_add, Int.zero_add, Int.add_zero, and_true, true_and, and_false, false_and, not_true_eq_false, not_false_eq_true, eq_self, ne_eq, true_implies, false_implies, implies_true, or_true, true_or, or_false, false_or, reduceCtorEq, Option.some.injEq, Sum.inl.injEq, exists_eq_left', exists_eq_left, zite]
          exact nx
      simp only [↓rX7_never_5, ↓rX7_never_6, ↓rX7_never_9, ↓rX7_never_12, ↓rX7_never_15, ↓rX7_never_16, ↓rX7_never_17, ↓rX7_never_20, ↓rX7_never_21, ↓rX7_never_22, ↓rX7_never_23, ↓rX7_never_24, ↓rX7_never_25, ↓rX7_never_26, ↓hg_fX7_234_12, ↓hg_fX7_234_7, ↓hg_fX7_28_0, ↓reduceIte, zkeep_n, zkeep_i, zkeep_r, zkeep_l, zup_eq, zIR, zLR, List.length_cons, List.length_nil, Nat.reduceAdd, Nat.reduceLeDiff, Nat.reduceEqDiff, Nat.reduceSub, Int.reduceLE, Int.reduceLT, Int.reduceEq, Int.reduceNe, Int.reduceNeg, Int.reduceAdd, Int.reduceSub, Int.reduceMul, Int.reduceToNat, Nat.le_refl, Nat.zero_le, Nat.zero_add, Int.zero_add, Int.add_zero, and_true, true_and, and_false, false_and, not_true_eq_false, not_false_eq_true, eq_self, ne_eq, true_implies, false_implies, implies_true, or_true, true_or, or_false, false_or, reduceCtorEq, Option.some.injEq, Sum.inl.injEq, exists_eq_left', exists_eq_left, n1, zite]
      repeat' (first | with_reducible apply And.intro | with_reducible intro _)
      all_goals first | omega | (exact call)
  exact L (0, M) ⟨Nat.zero_le _, QF.rfl⟩
def fup (f : Int → Int) (a b : Int) : Int → Int := fun x => if x = a then b else f x
def fup2 (f : Int → Int → Int) (a c b : Int) : Int → Int → Int := fun x y => if x = a ∧ y = c then b else f x y
def aSort (S : zM) (me : Int) : Int := if 0 ≤ me ∧ me < qn S 0 then wbs (fun v => wsee S (wX S kall (fup (so0 S) me v) (fst S))) 3 else -2
def pfst (S : zM) (me qu : Int) : Nat → Bool := fun v => wsee S (wX S kall (so0 S) (fup2 (fst S) me qu v))
def aFirst (S : zM) (me qu : Int) : Int := if (0 ≤ me ∧ me < qn S 0) ∧ (0 ≤ qu ∧ qu < 4) then wbs (pfst S me qu) 10 else -2
theorem kall_255 {S : zM} (hn : nf S ≤ 8) {so : Int → Int} {fi : Int → Int → Int} (m : Int) (T : Nat) : wX S (kpm 255) so fi m T = wX S kall so fi m T := wX_kp (fun f hf => kpm_255d ⟨f, by omega⟩)
theorem wX_other {S : zM} {kp : Int → Bool} {so so' : Int → Int} {fi fi' : Int → Int → Int} {m : Int} {T : Nat} (h1 : so m = so' m) (h2 : fi m = fi' m) : wX S kp so fi m T = wX S kp so' fi' m T := by
  unfold wX
  rw [h1, h2]
theorem wsee_split {S : zM} {me : Int} {V V' : Int → Nat → Int → Int} (h0 : 0 ≤ S 7 0) (hme : me < qn S 0) (hV : ∀ m T, m ≠ me → V' m T = V m T) : wsee S V' = true ↔ ((∀ i, 0 ≤ i → i < S 7 0 → S 9 i ≠ me → (S 9 i < qn S 0 ∧ V (S 9 i) (S 8 i).toNat (S 10 i) = S 11 i)) ∧ (∀ i, 0 ≤ i → i < S 7 0 → S 9 i = me → V' me (S 8 i).toNat (S 10 i) = S 11 i)) := by
  rw [wsee_iff h0]
  constructor
  · intro q
    refine ⟨fun i a b c => ?_, fun i a b c => ?_⟩
    · have := q i a b
      rw [hV _ _ c] at this
      exact this
    · have := (q i a b).2
      rw [c] at this
      exact this
  · intro q i a b
    by_cases c : S 9 i = me
    · have := q.2 i a b c
      rw [c]
      exact ⟨hme, this⟩
    · have := q.1 i a b c
      rw [hV _ _ c]
      exact this
