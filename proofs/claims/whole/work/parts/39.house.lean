def wbs (p : Nat → Bool) : Nat → Int
  | 0 => 0
  | k + 1 => wbs p k + if p k = true then 2 ^ k else 0
def wct (p : Nat → Bool) : Nat → Int
  | 0 => 0
  | k + 1 => wct p k + if p k = true then 1 else 0
theorem wbs_R (p : Nat → Bool) : ∀ k : Nat, 0 ≤ wbs p k ∧ wbs p k < 2 ^ k
  | 0 => by simp [wbs]
  | k + 1 => by
    have := wbs_R p k
    unfold wbs
    rw [Int.pow_succ]
    split <;> omega
theorem two_le (k : Nat) (h : k ≤ 8) : (2 : Int) ^ k ≤ 256 := by
  have : ∀ k : Fin 9, (2 : Int) ^ k.val ≤ 256 := by decide
  exact this ⟨k, by omega⟩
theorem wbs_8 (p : Nat → Bool) {k : Nat} (h : k ≤ 8) : 0 ≤ wbs p k ∧ wbs p k < 256 := by
  have := wbs_R p k
  have := two_le k h
  omega
theorem zor_1d : ∀ m : Fin 8, ∀ b : Fin 256, ((b.val : Int) < 2 ^ m.val → zor b.val (zshl 1 m.val) = b.val + 2 ^ m.val) ∧ zor b.val (zshl 0 m.val) = b.val := by decide +kernel
theorem zor_1 {m : Nat} {b : Int} (hm : m < 8) (h0 : 0 ≤ b) (h1 : b < 2 ^ m) : zor b (zshl 1 m) = b + 2 ^ m := by
  have h2 := two_le m (by omega)
  have := (zor_1d ⟨m, hm⟩ ⟨b.toNat, by omega⟩).1
  simp only [Int.toNat_of_nonneg h0] at this
  exact this h1
theorem zor_0 {m : Nat} {b : Int} (hm : m < 8) (h0 : 0 ≤ b) (h1 : b < 256) : zor b (zshl 0 m) = b := by
  have := (zor_1d ⟨m, hm⟩ ⟨b.toNat, by omega⟩).2
  simp only [Int.toNat_of_nonneg h0] at this
  exact this
theorem wones_d : ∀ m : Fin 8, ∀ b : Fin 256, (b.val : Int) < 2 ^ m.val → wones (b.val + 2 ^ m.val) = wones b.val + 1 := by decide +kernel
theorem wones_wbs (p : Nat → Bool) : ∀ k : Nat, k ≤ 8 → wones (wbs p k) = wct p k
  | 0, _ => by show wones 0 = 0; decide
  | k + 1, h => by
    have h1 := wbs_R p k
    have h2 := two_le k (by omega)
    have ih := wones_wbs p k (by omega)
    unfold wbs wct
    split
    · have := wones_d ⟨k, by omega⟩ ⟨(wbs p k).toNat, by omega⟩
      simp only [Int.toNat_of_nonneg h1.1] at this
      rw [this h1.2, ih]
    · rw [Int.add_zero, Int.add_zero, ih]
theorem zbit_d : ∀ m : Fin 8, ∀ b : Fin 256, zand (zshr b.val m.val) 1 = (b.val : Int) / 2 ^ m.val % 2 := by decide +kernel
theorem wbit_d : ∀ n : Fin 8, ∀ m : Fin 8, ∀ b : Fin 256, (b.val : Int) < 2 ^ n.val → m.val < n.val → ((b.val : Int) + 2 ^ n.val) / 2 ^ m.val % 2 = (b.val : Int) / 2 ^ m.val % 2 := by decide +kernel
theorem wbit_e : ∀ n : Fin 8, ∀ b : Fin 256, (b.val : Int) < 2 ^ n.val → ((b.val : Int) + 2 ^ n.val) / 2 ^ n.val % 2 = 1 ∧ (b.val : Int) / 2 ^ n.val % 2 = 0 := by decide +kernel
theorem wbs_bit (p : Nat → Bool) : ∀ (k m : Nat), k ≤ 8 → m < k → wbs p k / 2 ^ m % 2 = if p m = true then 1 else 0
  | 0, _, _, h => by omega
  | k + 1, m, hk, h => by
    have h1 := wbs_R p k
    have h2 := two_le k (by omega)
    unfold wbs
    by_cases hm : m = k
    · subst hm
      have := wbit_e ⟨m, by omega⟩ ⟨(wbs p m).toNat, by omega⟩
      simp only [Int.toNat_of_nonneg h1.1] at this
      have := this h1.2
      split
      · exact this.1
      · rw [Int.add_zero]
        exact this.2
    · have ih := wbs_bit p k m (by omega) (by omega)
      split
      · have := wbit_d ⟨k, by omega⟩ ⟨m, by omega⟩ ⟨(wbs p k).toNat, by omega⟩
        simp only [Int.toNat_of_nonneg h1.1] at this
        rw [this h1.2 (by omega), ih]
      · rw [Int.add_zero, ih]
theorem zbit_wbs (p : Nat → Bool) {k m : Nat} (hk : k ≤ 8) (hm : m < k) : zand (zshr (wbs p k) m) 1 = if p m = true then 1 else 0 := by
  have h1 := wbs_8 p hk
  have := zbit_d ⟨m, by omega⟩ ⟨(wbs p k).toNat, by omega⟩
  simp only [Int.toNat_of_nonneg h1.1] at this
  rw [this, wbs_bit p k m hk hm]
def wvec (S g : zM) (n : Nat) (kp : Int → Bool) (m : Int) (T : Nat) : Int → Int := wseg S g n kp (wbyS S m) m 0 (T + 1) (wst S m)
theorem vokb_vec {S g : zM} {n : Nat} {kp : Int → Bool} {m : Int} {T : Nat} (hq : QR S) (h0 : 0 ≤ m) (h1 : m < qn S 0) (hg : ∀ f : Nat, f < n → (0 ≤ g 1 f ∧ g 1 f < 20) ∧ 0 ≤ g 3 f) (hn : n ≤ 8) (hT : T < 20) : vokb 32 (wvec S g n kp m T) := by
  unfold wvec
  rw [show ((0 : Int)) = ((0 : Nat) : Int) by rfl, wseg_fold]
  have h := vokb_fold (g := g) (kp := kp) (m := m) hq (wbyS_R S m).1 (qseg n (g 1) 0 (T + 1)) 0 _ (fun f hf => (hg f (qseg_mem.mp hf).1).2) (vokb_wst hq h0 h1)
  have hlen := qseg_len (n := n) (ft := g 1) n (fun f hf => (hg f hf).1)
  have : (qseg n (g 1) 0 (T + 1)).length ≤ n := by
    unfold qord at hlen
    rw [show (20 : Nat) = (T + 1) + (19 - T) by omega, qseg_add, List.length_append] at hlen
    omega
  exact ⟨h.1, h.2.1, h.2.2.1, h.2.2.2.1, by have := h.2.2.2.2; omega⟩
set_option maxRecDepth 100000 in
set_option maxHeartbeats 4000000 in
theorem s_ayes {S M g : zM} {R : zP} {n T : Nat} {q : Int} (hC : CW S M) (hF : FR 7 n g M) (hT : T < 20) (hq : 0 ≤ q ∧ q < 4)
    (hR : ∀ M', (∀ k i, ¬ (23 ≤ k ∧ k ≤ 26) → M' k i = M k i) → R (some (.inl (wbs (fun m => decide (5 ≤ wvec S g n (kpm 255) m T q)) (qn S 0).toNat))) M') : tX7_ayes [.inr (.inr 0), .inl T, .inl q] M R := by
  have hqn := (hC.1 0 (by decide)).1
  simp only [↓eX7_ayes, ↓rX7_ayes_0, ↓rX7_ayes_1, ↓rX7_ayes_2, ↓rX7_ayes_3, ↓reduceIte, zkeep_n, zkeep_i, zkeep_r, zkeep_l, zup_eq, zIR, zLR, List.length_cons, List.length_nil, Nat.reduceAdd, Nat.reduceLeDiff, Nat.reduceEqDiff, Nat.reduceSub, Int.reduceLE, Int.reduceLT, Int.reduceEq, Int.reduceNe, Int.reduceNeg, Int.reduceAdd, Int.reduceSub, Int.reduceMul, Int.reduceToNat, Nat.le_refl, Nat.zero_le, Nat.zero_add, Int.zero_add, Int.add_zero, and_true, true_and, and_false, false_and, not_true_eq_false, not_false_eq_true, eq_self, ne_eq, true_implies, false_implies, implies_true, or_true, true_or, or_false, false_or, reduceCtorEq, Option.some.injEq, Sum.inl.injEq, exists_eq_left', exists_eq_left, zite]
  generalize hp : (fun m : Nat => decide (5 ≤ wvec S g n (kpm 255) m T q)) = p at hR
  have L : ∀ s : Nat × zM, (s.1 ≤ (qn S 0).toNat ∧ (∀ k i, ¬ (23 ≤ k ∧ k ≤ 26) → s.2 k i = M k i)) → uX7_ayes R 5 [some (.inr (.inr 0)), some (.inl T), some (.inl q), some (.inl (wbs p s.1)), some (.inl (s.1 : Int))] [] s.2 := by
    refine zind (fun s => (qn S 0).toNat - s.1) ?_
    rintro ⟨m, N⟩ ⟨hm, hfr⟩ ih
    simp only at hm hfr ih
    have n1 : N 1 5 = qn S 0 := (hfr _ _ (by decide)).trans hC.2.1
    refine rX7_ayes_5.mpr ?_
    by_cases he : m = (qn S 0).toNat
    · simp only [↓rX7_ayes_7, ↓rX7_ayes_8, ↓rX7_ayes_11, ↓rX7_ayes_14, ↓rX7_ayes_64, ↓rX7_ayes_65, ↓hg_fX7_116_1, ↓hg_fX7_116_4, ↓hg_fX7_14_0, ↓reduceIte, zkeep_n, zkeep_i, zkeep_r, zkeep_l, zup_eq, zIR, zLR, List.length_cons, List.length_nil, Nat.reduceAdd, Nat.reduceLeDiff, Nat.reduceEqDiff, Nat.reduceSub, Int.reduceLE, Int.reduceLT, Int.reduceEq, Int.reduceNe, Int.reduceNeg, Int.reduceAdd, Int.reduceSub, Int.reduceMul, Int.reduceToNat, Nat.le_refl, Nat.zero_le, Nat.zero_add, Int.zero_add, Int.add_zero, and_true, true_and, and_false, false_and, not_true_eq_false, not_false_eq_true, eq_self, ne_eq, true_implies, false_implies, implies_true, or_true, true_or, or_false, false_or, reduceCtorEq, Option.some.injEq, Sum.inl.injEq, exists_eq_left', exists_eq_left, n1, zite]
      subst he
      repeat' (first | with_reducible apply And.intro | with_reducible intro _)
      all_goals first | omega | (exact hR N hfr)
    · have call : zcn (zv 7 tX7_raise) [.inr (.inr 0), .inr (.inr 7), .inl (m : Int), .inl T, .inl 255] N (fun N' => uX7_ayes R 31 [some (.inr (.inr 0)), some (.inl T), some (.inl q), some (.inl (wbs p m)), some (.inl (m : Int))] [] N') := by
        refine zcnv rfl (s_raise7 (S := S) (g := g) (n := n) (CW_fr hC (fun k i hk => hfr k i (by omega))) (FR_fr hF (fun k i a b => hfr k i (by omega))) hT (by omega) (by omega) (fun N' f1 f2 => ⟨rfl, ?_⟩))
        have hv := vokb_vec (g := g) (n := n) (kp := kpm 255) (m := m) (T := T) hC.1 (by omega) (by omega) (fun f hf => ⟨(hF.2.2.2 f hf).1.2, (hF.2.2.2 f hf).2.2.2.1⟩) hF.2.1 hT
        have e24 : N' 24 q = wvec S g n (kpm 255) m T q := (f2.1 q hq.1 hq.2).1
        have r24 := hv.1 q (by omega) (by omega)
        have hw := wbs_R p m
        have hw2 := two_le m (by omega)
        have next := ih (m + 1, N') ⟨by simp only; omega, fun k i hk => (f1 k i hk).trans (hfr k i hk)⟩ (by simp only; omega)
        have hpm : p m = decide (5 ≤ wvec S g n (kpm 255) m T q) := by rw [← hp]
        simp only [wbs, hpm, decide_eq_true_eq] at next
        have z1 := zor_1 (m := m) (by omega) hw.1 hw.2
        have z0 := zor_0 (m := m) (by omega) hw.1 (by omega)
        simp only [↓rX7_ayes_31, ↓rX7_ayes_32, ↓rX7_ayes_33, ↓rX7_ayes_36, ↓rX7_ayes_39, ↓rX7_ayes_40, ↓rX7_ayes_41, ↓rX7_ayes_42, ↓rX7_ayes_45, ↓rX7_ayes_46, ↓rX7_ayes_50, ↓rX7_ayes_53, ↓rX7_ayes_55, ↓rX7_ayes_56, ↓rX7_ayes_57, ↓rX7_ayes_58, ↓rX7_ayes_61, ↓rX7_ayes_49, ↓hg_fX7_146_23, ↓hg_fX7_146_27, ↓hg_fX7_55_0, ↓hr_10, ↓hr_11, ↓hr_13, ↓hr_14, ↓hr_15, ↓hr_16, ↓hr_18, ↓hr_19, ↓hr_2, ↓hr_20, ↓hr_21, ↓hr_24, ↓hr_25, ↓hr_26, ↓hr_28, ↓hr_29, ↓hr_3, ↓hr_30, ↓hr_33, ↓hr_34, ↓hr_35, ↓hr_36, ↓hr_37, ↓hr_39, ↓hr_41, ↓hr_43, ↓hr_45, ↓hr_5, ↓hr_6, ↓hr_8, ↓hr_9, ↓hr_fX7_104, ↓hw_10, ↓hw_11, ↓hw_13, ↓hw_14, ↓hw_15, ↓hw_16, ↓hw_18, ↓hw_19, ↓hw_2, ↓hw_20, ↓hw_21, ↓hw_24, ↓hw_25, ↓hw_26, ↓hw_28, ↓hw_29, ↓hw_3, ↓hw_30, ↓hw_33, ↓hw_34, ↓hw_35, ↓hw_36, ↓hw_37, ↓hw_39, ↓hw_41, ↓hw_43, ↓hw_45, ↓hw_5, ↓hw_6, ↓hw_8, ↓hw_9, ↓i_bit, ↓reduceIte, zkeep_n, zkeep_i, zkeep_r, zkeep_l, zup_eq, zIR, zLR, List.length_cons, List.length_nil, Nat.reduceAdd, Nat.reduceLeDiff, Nat.reduceEqDiff, Nat.reduceSub, Int.reduceLE, Int.reduceLT, Int.reduceEq, Int.reduceNe, Int.reduceNeg, Int.reduceAdd, Int.reduceSub, Int.reduceMul, Int.reduceToNat, Nat.le_refl, Nat.zero_le, Nat.zero_add, Int.zero_add, Int.add_zero, and_true, true_and, and_false, false_and, not_true_eq_false, not_false_eq_true, eq_self, ne_eq, true_implies, false_implies, implies_true, or_true, true_or, or_false, false_or, reduceCtorEq, Option.some.injEq, Sum.inl.injEq, exists_eq_left', exists_eq_left, e24, zite]
        repeat' (first | with_reducible apply And.intro | with_reducible intro _)
        all_goals first | omega | (rw [z1]; rw [if_pos (by omega)] at next; exact next) | (rw [z0]; rw [if_neg (by omega), Int.add_zero] at next; exact next)
      simp only [↓rX7_ayes_7, ↓rX7_ayes_8, ↓rX7_ayes_11, ↓rX7_ayes_14, ↓rX7_ayes_17, ↓rX7_ayes_18, ↓rX7_ayes_19, ↓rX7_ayes_22, ↓rX7_ayes_24, ↓rX7_ayes_25, ↓rX7_ayes_28, ↓hg_fX7_116_1, ↓hg_fX7_116_4, ↓hg_fX7_14_0, ↓hg_fX7_28_0, ↓reduceIte, zkeep_n, zkeep_i, zkeep_r, zkeep_l, zup_eq, zIR, zLR, List.length_cons, List.length_nil, Nat.reduceAdd, Nat.reduceLeDiff, Nat.reduceEqDiff, Nat.reduceSub, Int.reduceLE, Int.reduceLT, Int.reduceEq, Int.reduceNe, Int.reduceNeg, Int.reduceAdd, Int.reduceSub, Int.reduceMul, Int.reduceToNat, Nat.le_refl, Nat.zero_le, Nat.zero_add, Int.zero_add, Int.add_zero, and_true, true_and, and_false, false_and, not_true_eq_false, not_false_eq_true, eq_self, ne_eq, true_implies, false_implies, implies_true, or_true, true_or, or_false, false_or, reduceCtorEq, Option.some.injEq, Sum.inl.injEq, exists_eq_left', exists_eq_left, n1, zite]
      repeat' (first | with_reducible apply And.intro | with_reducible intro _)
      all_goals first | omega | (exact call)
  exact L (0, M) ⟨Nat.zero_le _, fun _ _ _ => rfl⟩
theorem s_haveIt_gen {S M : zM} {f : zV → zM → Prop} {a : Int} (hC : CW S M) (ha : 0 ≤ a ∧ a < 256) : zcv (zv 7 tX7_haveIt) [.inr (.inr 0), .inl a] M f ↔ if 2 * wones a ≤ qn S 0 then f (.inl 0) M else f (.inl 1) M := by
  have hqn := (hC.1 0 (by decide)).1
  have hw : ∀ a : Fin 256, 0 ≤ wones a.val ∧ wones a.val ≤ 8 := by decide +kernel
  have hwa := hw ⟨a.toNat, by omega⟩
  simp only [Int.toNat_of_nonneg ha.1] at hwa
  have n1 := hC.2.1
  have e := zbc_at ha.1 ha.2
  refine Iff.trans (zcv_gv (F := fX7) (V := vX7_haveIt) (cc := cX7_haveIt) (nL := 2) (show zrcv _ _ from rfl)) ?_
  show tX7_haveIt _ _ _ ↔ _
  simp only [↓eX7_haveIt, ↓rX7_haveIt_0, ↓rX7_haveIt_1, ↓rX7_haveIt_2, ↓rX7_haveIt_5, ↓rX7_haveIt_6, ↓rX7_haveIt_7, ↓rX7_haveIt_10, ↓rX7_haveIt_13, ↓rX7_haveIt_16, ↓rX7_haveIt_17, ↓rX7_haveIt_21, ↓rX7_haveIt_20, ↓hg_fX7_116_1, ↓hg_fX7_116_4, ↓hg_fX7_14_0, ↓i_bitCount, ↓reduceIte, zkeep_n, zkeep_i, zkeep_r, zkeep_l, zup_eq, zIR, zLR, List.length_cons, List.length_nil, Nat.reduceAdd, Nat.reduceLeDiff, Nat.reduceEqDiff, Nat.reduceSub, Int.reduceLE, Int.reduceLT, Int.reduceEq, Int.reduceNe, Int.reduceNeg, Int.reduceAdd, Int.reduceSub, Int.reduceMul, Int.reduceToNat, Nat.le_refl, Nat.zero_le, Nat.zero_add, Int.zero_add, Int.add_zero, and_true, true_and, and_false, false_and, not_true_eq_false, not_false_eq_true, eq_self, ne_eq, true_implies, false_implies, implies_true, or_true, true_or, or_false, false_or, reduceCtorEq, Option.some.injEq, Sum.inl.injEq, exists_eq_left', exists_eq_left, n1, e, zite]
  constructor
  · exact fun h => h.2
  · exact fun h => ⟨⟨⟨by omega, by omega⟩, by omega, by omega⟩, h⟩
