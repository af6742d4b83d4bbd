def CF (S M g : zM) (n : Nat) (so : Int → Int) (fi : Int → Int → Int) : Prop := M 46 2 = qn S 0 ∧ M 46 5 = qn S 1 ∧ (∀ k, 0 ≤ k → k < qn S 0 → (M 49 k = so k ∧ 0 ≤ so k ∧ so k ≤ 2) ∧ ∀ q, 0 ≤ q → q < 4 → M 50 (4 * k + q) = fi k q ∧ 0 ≤ fi k q ∧ fi k q ≤ 9) ∧ (∀ c, 0 ≤ c → c < qn S 1 → M 51 c = qfact S 1 c 0 ∧ ∀ q, 0 ≤ q → q < 4 → M 52 (4 * c + q) = qfact S 1 c (1 + q)) ∧ M 46 12 = n ∧ n ≤ 10 ∧ ∀ f : Nat, f < n → (M 56 f = g 1 f ∧ 0 ≤ g 1 f ∧ g 1 f < 20) ∧ (M 57 f = g 2 f ∧ 0 ≤ g 2 f ∧ g 2 f < 8) ∧ (M 58 f = g 3 f ∧ 0 ≤ g 3 f ∧ g 3 f < 8)
theorem CF_fr {S M M' g : zM} {n : Nat} {so : Int → Int} {fi : Int → Int → Int} (h : CF S M g n so fi) (hf : ∀ k i, (k = 46 ∧ (i = 2 ∨ i = 5 ∨ i = 12)) ∨ (49 ≤ k ∧ k ≤ 52) ∨ (56 ≤ k ∧ k ≤ 58) → M' k i = M k i) : CF S M' g n so fi := by
  obtain ⟨h1, h2, h3, h4, h5, h6, h7⟩ := h
  refine ⟨(hf _ _ (by decide)).trans h1, (hf _ _ (by decide)).trans h2, fun k a b => ?_, fun c a b => ?_, (hf _ _ (by decide)).trans h5, h6, fun f a => ?_⟩
  · have := h3 k a b
    rw [hf 49 _ (Or.inr (Or.inl (by decide)))]
    refine ⟨this.1, fun q q0 q1 => ?_⟩
    rw [hf 50 _ (Or.inr (Or.inl (by decide)))]
    exact this.2 q q0 q1
  · have := h4 c a b
    rw [hf 51 _ (Or.inr (Or.inl (by decide)))]
    refine ⟨this.1, fun q q0 q1 => ?_⟩
    rw [hf 52 _ (Or.inr (Or.inl (by decide)))]
    exact this.2 q q0 q1
  · rw [hf 56 _ (Or.inr (Or.inr (by decide))), hf 57 _ (Or.inr (Or.inr (by decide))), hf 58 _ (Or.inr (Or.inr (by decide)))]
    exact h7 f a
def knt (nt : Int) : Int → Bool := fun f => decide (zand (zshr nt f) 1 ≠ 1)
theorem vokb_mono {b b' : Int} {v : Int → Int} (h : vokb b v) (hb : b ≤ b') : vokb b' v := ⟨h.1, h.2.1, h.2.2.1, h.2.2.2.1, by have := h.2.2.2.2; omega⟩
theorem vokb_term {S g : zM} {kp : Int → Bool} {by_ m t b : Int} {v : Int → Int} (hq : QR S) (hb : 0 ≤ by_) (hv : vokb b v) : ∀ n : Nat, (∀ f : Nat, f < n → 0 ≤ g 3 f) → vokb (b + 4 * n) (wterm S g kp by_ m t n v)
  | 0, _ => by
    rw [Int.natCast_zero, Int.mul_zero, Int.add_zero]
    exact hv
  | n + 1, h => by
    have ih := vokb_term (kp := kp) (m := m) (t := t) hq hb hv n (fun f hf => h f (by omega))
    unfold wterm
    split
    · have := vokb_feed (kp := kp) (m := m) (f := n) hq ih hb (h n (by omega))
      exact vokb_mono this (by omega)
    · exact vokb_mono ih (by omega)
theorem wby_R (so : Int) : 0 ≤ wby so ∧ wby so ≤ 2 := by
  unfold wby
  (repeat' split) <;> omega
set_option maxRecDepth 100000 in
set_option maxHeartbeats 8000000 in
theorem s_goesBy {S M g : zM} {R : zP} {n t : Nat} {nt b : Int} {so : Int → Int} {fi : Int → Int → Int} {V : Int → Int → Int} (hq : QR S) (hC : CF S M g n so fi) (hnt : M 46 16 = nt) (hP : ∀ k, 0 ≤ k → k < qn S 0 → PM k M (V k) ∧ vokb b (V k)) (hb : b ≤ 900) (ht : t < 20)
    (hR : ∀ M', (∀ k i, ¬ (59 ≤ k ∧ k ≤ 68) → M' k i = M k i) → (∀ k, 0 ≤ k → k < qn S 0 → PM k M' (wterm S g (knt nt) (wby (so k)) k t n (V k)) ∧ (∀ q, 0 ≤ q → q < 4 → M' 64 (32 * t + 4 * k + q) = wterm S g (knt nt) (wby (so k)) k t n (V k) q ∧ M' 65 (32 * t + 4 * k + q) = wterm S g (knt nt) (wby (so k)) k t n (V k) (4 + q) ∧ M' 66 (32 * t + 4 * k + q) = wterm S g (knt nt) (wby (so k)) k t n (V k) (8 + q)) ∧ M' 67 (8 * t + k) = wterm S g (knt nt) (wby (so k)) k t n (V k) 12 ∧ M' 68 (8 * t + k) = wterm S g (knt nt) (wby (so k)) k t n (V k) 13) → (∀ i, ¬ (32 * (t : Int) ≤ i ∧ i < 32 * t + 32) → M' 64 i = M 64 i ∧ M' 65 i = M 65 i ∧ M' 66 i = M 66 i) → (∀ i, ¬ (8 * (t : Int) ≤ i ∧ i < 8 * t + 8) → M' 67 i = M 67 i ∧ M' 68 i = M 68 i) → R none M') : tX8_goesBy [.inr (.inr 46), .inl (t : Int)] M R := by
  have hq0 := (hq 0 (by decide)).1
  have hq1 := hq 1 (by decide)
  obtain ⟨c1, c2, c3, c4, c5, c6, c7⟩ := hC
  -- phase 3
  have P3 : ∀ (N1 : zM), (∀ k i, ¬ (59 ≤ k ∧ k ≤ 66) → N1 k i = M k i) → (∀ k, 0 ≤ k → k < qn S 0 → PM k N1 (wterm S g (knt nt) (wby (so k)) k t n (V k)) ∧ (∀ q, 0 ≤ q → q < 4 → N1 64 (32 * t + 4 * k + q) = wterm S g (knt nt) (wby (so k)) k t n (V k) q ∧ N1 65 (32 * t + 4 * k + q) = wterm S g (knt nt) (wby (so k)) k t n (V k) (4 + q) ∧ N1 66 (32 * t + 4 * k + q) = wterm S g (knt nt) (wby (so k)) k t n (V k) (8 + q))) → (∀ i, ¬ (32 * (t : Int) ≤ i ∧ i < 32 * t + 32) → N1 64 i = M 64 i ∧ N1 65 i = M 65 i ∧ N1 66 i = M 66 i) → uX8_goesBy R 150 [some (.inr (.inr 46)), some (.inl (t : Int)), some (.inl 0)] [] N1 := by
    intro N1 k1 k2 k3
    have e1 : N1 46 2 = qn S 0 := (k1 _ _ (by decide)).trans c1
    have L : ∀ s : Int × zM, ((0 ≤ s.1 ∧ s.1 ≤ qn S 0) ∧ (∀ k i, ¬ (67 ≤ k ∧ k ≤ 68) → s.2 k i = N1 k i) ∧ (∀ k, 0 ≤ k → k < s.1 → s.2 67 (8 * t + k) = N1 62 k ∧ s.2 68 (8 * t + k) = N1 63 k) ∧ (∀ i, ¬ (8 * (t : Int) ≤ i ∧ i < 8 * t + 8) → s.2 67 i = M 67 i ∧ s.2 68 i = M 68 i)) → uX8_goesBy R 150 [some (.inr (.inr 46)), some (.inl (t : Int)), some (.inl s.1)] [] s.2 := by
      refine zind (fun s => (qn S 0 - s.1).toNat) ?_
      rintro ⟨k, N⟩ ⟨hk, hfr, hx, ho⟩ ih
      simp only at hk hfr hx ho ih
      have n2 : N 46 2 = qn S 0 := (hfr _ _ (by decide)).trans e1
      refine rX8_goesBy_150.mpr ?_
      by_cases he : k = qn S 0
      · have fin := hR N (fun k i a => (hfr k i (by omega)).trans (k1 k i (by omega))) (fun j a b => by
          have := k2 j a b
          have hxx := hx j a (by omega)
          refine ⟨PM_fr this.1 (fun q _ _ => ⟨hfr _ _ (by decide), hfr _ _ (by decide), hfr _ _ (by decide)⟩) (hfr _ _ (by decide)) (hfr _ _ (by decide)), fun q q0 q1 => ?_, hxx.1.trans this.1.2.1, hxx.2.trans this.1.2.2⟩
          rw [hfr 64 _ (by decide), hfr 65 _ (by decide), hfr 66 _ (by decide)]
          exact this.2 q q0 q1) (fun i hi => by
          rw [hfr 64 _ (by decide), hfr 65 _ (by decide), hfr 66 _ (by decide)]
          exact k3 i hi) ho
        simp only [↓rX8_goesBy_151, ↓rX8_goesBy_152, ↓rX8_goesBy_155, ↓rX8_goesBy_198, ↓hg_fX8_127_46, ↓reduceIte, zkeep_n, zkeep_i, zkeep_r, zkeep_l, zup_eq, zIR, zLR, List.length_cons, List.length_nil, Nat.reduceAdd, Nat.reduceLeDiff, Nat.reduceEqDiff, Nat.reduceSub, Int.reduceLE, Int.reduceLT, Int.reduceEq, Int.reduceNe, Int.reduceNeg, Int.reduceAdd, Int.reduceSub, Int.reduceMul, Int.reduceToNat, Nat.le_refl, Nat.zero_le, Nat.zero_add, Int.zero_add, Int.add_zero, and_true, true_and, and_false, false_and, not_true_eq_false, not_false_eq_true, eq_self, ne_eq, true_implies, false_implies, implies_true, or_true, true_or, or_false, false_or, reduceCtorEq, Option.some.injEq, Sum.inl.injEq, exists_eq_left', exists_eq_left, n2, zite]
        repeat' (first | with_reducible apply And.intro | with_reducible intro _)
        all_goals first | omega | (exact fin)
      · have a1 : N 62 k = N1 62 k := hfr _ _ (by decide)
        have a2 : N 63 k = N1 63 k := hfr _ _ (by decide)
        have nx := ih (k + 1, zup (zup N 67 (8 * t + k) (N1 62 k)) 68 (8 * t + k) (N1 63 k)) ⟨by simp only; omega, fun j i hj => by simp only [zup_ne (show j ≠ 67 by omega), zup_ne (show j ≠ 68 by omega)]; exact hfr j i hj, fun j j0 j1 => by
          simp only [zup_eq, Nat.reduceEqDiff, false_and, true_and, if_false] at j1 ⊢
          by_cases e : j = k
          · rw [if_pos (by omega), if_pos (by omega), e]
            exact ⟨rfl, rfl⟩
          · rw [if_neg (by omega), if_neg (by omega)]
            exact hx j j0 (by omega), fun i hi => by
          simp only [zup_eq, Nat.reduceEqDiff, false_and, true_and, if_false]
          rw [if_neg (by omega), if_neg (by omega)]
          exact ho i hi⟩ (by simp only; omega)
        simp only [↓rX8_goesBy_151, ↓rX8_goesBy_152, ↓rX8_goesBy_155, ↓rX8_goesBy_158, ↓rX8_goesBy_159, ↓rX8_goesBy_162, ↓rX8_goesBy_164, ↓rX8_goesBy_165, ↓rX8_goesBy_166, ↓rX8_goesBy_167, ↓rX8_goesBy_168, ↓rX8_goesBy_169, ↓rX8_goesBy_172, ↓rX8_goesBy_173, ↓rX8_goesBy_174, ↓rX8_goesBy_175, ↓rX8_goesBy_176, ↓rX8_goesBy_179, ↓rX8_goesBy_181, ↓rX8_goesBy_182, ↓rX8_goesBy_183, ↓rX8_goesBy_184, ↓rX8_goesBy_185, ↓rX8_goesBy_186, ↓rX8_goesBy_189, ↓rX8_goesBy_190, ↓rX8_goesBy_191, ↓rX8_goesBy_192, ↓rX8_goesBy_195, ↓hg_fX8_127_46, ↓hg_fX8_55_46, ↓hg_fX8_58_46, ↓hg_fX8_70_46, ↓hg_fX8_73_46, ↓hr_47, ↓hr_48, ↓hr_49, ↓hr_50, ↓hr_51, ↓hr_52, ↓hr_53, ↓hr_54, ↓hr_55, ↓hr_56, ↓hr_57, ↓hr_58, ↓hr_59, ↓hr_60, ↓hr_61, ↓hr_62, ↓hr_63, ↓hr_64, ↓hr_65, ↓hr_66, ↓hr_67, ↓hr_68, ↓hr_69, ↓hr_70, ↓hr_71, ↓hr_72, ↓hr_73, ↓hr_74, ↓hr_75, ↓hr_76, ↓hr_77, ↓hr_78, ↓hr_79, ↓hw_47, ↓hw_48, ↓hw_49, ↓hw_50, ↓hw_51, ↓hw_52, ↓hw_53, ↓hw_54, ↓hw_55, ↓hw_56, ↓hw_57, ↓hw_58, ↓hw_59, ↓hw_60, ↓hw_61, ↓hw_62, ↓hw_63, ↓hw_64, ↓hw_65, ↓hw_66, ↓hw_67, ↓hw_68, ↓hw_69, ↓hw_70, ↓hw_71, ↓hw_72, ↓hw_73, ↓hw_74, ↓hw_75, ↓hw_76, ↓hw_77, ↓hw_78, ↓hw_79, ↓reduceIte, zkeep_n, zkeep_i, zkeep_r, zkeep_l, zIR, zLR, List.length_cons, List.length_nil, Nat.reduceAdd, Nat.reduceLeDiff, Nat.reduceEqDiff, Nat.reduceSub, Int.reduceLE, Int.reduceLT, Int.reduceEq, Int.reduceNe, Int.reduceNeg, Int.reduceAdd, Int.reduceSub, Int.reduceMul, Int.reduceToNat, Nat.le_refl, Nat.zero_le, Nat.zero_add, Int.zero_add, Int.add_zero, and_true, true_and, and_false, false_and, not_true_eq_false, not_false_eq_true, eq_self, ne_eq, true_implies, false_implies, implies_true, or_true, true_or, or_false, false_or, reduceCtorEq, Option.some.injEq, Sum.inl.injEq, exists_eq_left', exists_eq_left, n2, a1, a2, zup_ne, zite]
        repeat' (first | with_reducible apply And.intro | with_reducible intro _)
        all_goals first | omega | (exact nx)
    exact L (0, N1) ⟨by simp only; omega, fun _ _ _ => rfl, fun k a b => by simp only at b; omega, fun i hi => ⟨k1 _ _ (by decide), k1 _ _ (by decide)⟩⟩
  -- phase 2
  have P2 : ∀ (N1 : zM), (∀ k i, ¬ (59 ≤ k ∧ k ≤ 63) → N1 k i = M k i) → (∀ k, 0 ≤ k → k < qn S 0 → PM k N1 (wterm S g (knt nt) (wby (so k)) k t n (V k))) → uX8_goesBy R 81 [some (.inr (.inr 46)), some (.inl (t : Int)), some (.inl 0)] [] N1 := by
    intro N1 k1 k2
    have e1 : N1 46 2 = qn S 0 := (k1 _ _ (by decide)).trans c1
    have L : ∀ s : Int × zM, ((0 ≤ s.1 ∧ s.1 ≤ 4 * qn S 0) ∧ (∀ k i, ¬ (64 ≤ k ∧ k ≤ 66) → s.2 k i = N1 k i) ∧ (∀ p, 0 ≤ p → p < s.1 → s.2 64 (32 * t + p) = N1 59 p ∧ s.2 65 (32 * t + p) = N1 60 p ∧ s.2 66 (32 * t + p) = N1 61 p) ∧ (∀ i, ¬ (32 * (t : Int) ≤ i ∧ i < 32 * t + 32) → s.2 64 i = M 64 i ∧ s.2 65 i = M 65 i ∧ s.2 66 i = M 66 i)) → uX8_goesBy R 81 [some (.inr (.inr 46)), some (.inl (t : Int)), some (.inl s.1)] [] s.2 := by
      refine zind (fun s => (4 * qn S 0 - s.1).toNat) ?_
      rintro ⟨p, N⟩ ⟨hp, hfr, hx, ho⟩ ih
      simp only at hp hfr hx ho ih
      have n2 : N 46 2 = qn S 0 := (hfr _ _ (by decide)).trans e1
      refine rX8_goesBy_81.mpr ?_
      by_cases he : p = 4 * qn S 0
      · have fin := P3 N (fun k i a => (hfr k i (by omega)).trans (k1 k i (by omega))) (fun j a b => by
          have := k2 j a b
          refine ⟨PM_fr this (fun q _ _ => ⟨hfr _ _ (by decide), hfr _ _ (by decide), hfr _ _ (by decide)⟩) (hfr _ _ (by decide)) (hfr _ _ (by decide)), fun q q0 q1 => ?_⟩
          have hxx := hx (4 * j + q) (by omega) (by omega)
          have e := this.1 q q0 q1
          rw [show 32 * (t : Int) + 4 * j + q = 32 * t + (4 * j + q) by omega]
          exact ⟨hxx.1.trans e.1, hxx.2.1.trans e.2.1, hxx.2.2.trans e.2.2⟩) ho
        simp only [↓rX8_goesBy_82, ↓rX8_goesBy_83, ↓rX8_goesBy_84, ↓rX8_goesBy_87, ↓rX8_goesBy_88, ↓rX8_goesBy_148, ↓rX8_goesBy_149, ↓hg_fX8_127_46, ↓reduceIte, zkeep_n, zkeep_i, zkeep_r, zkeep_l, zup_eq, zIR, zLR, List.length_cons, List.length_nil, Nat.reduceAdd, Nat.reduceLeDiff, Nat.reduceEqDiff, Nat.reduceSub, Int.reduceLE, Int.reduceLT, Int.reduceEq, Int.reduceNe, Int.reduceNeg, Int.reduceAdd, Int.reduceSub, Int.reduceMul, Int.reduceToNat, Nat.le_refl, Nat.zero_le, Nat.zero_add, Int.zero_add, Int.add_zero, and_true, true_and, and_false, false_and, not_true_eq_false, not_false_eq_true, eq_self, ne_eq, true_implies, false_implies, implies_true, or_true, true_or, or_false, false_or, reduceCtorEq, Option.some.injEq, Sum.inl.injEq, exists_eq_left', exists_eq_left, n2, zite]
        repeat' (first | with_reducible apply And.intro | with_reducible intro _)
        all_goals first | omega | (exact fin)
      · have a1 : N 59 p = N1 59 p := hfr _ _ (by decide)
        have a2 : N 60 p = N1 60 p := hfr _ _ (by decide)
        have a3 : N 61 p = N1 61 p := hfr _ _ (by decide)
        have nx := ih (p + 1, zup (zup (zup N 64 (32 * t + p) (N1 59 p)) 65 (32 * t + p) (N1 60 p)) 66 (32 * t + p) (N1 61 p)) ⟨by simp only; omega, fun j i hj => by simp only [zup_ne (show j ≠ 64 by omega), zup_ne (show j ≠ 65 by omega), zup_ne (show j ≠ 66 by omega)]; exact hfr j i hj, fun j j0 j1 => by
          simp only [zup_eq, Nat.reduceEqDiff, false_and, true_and, if_false] at j1 ⊢
          by_cases e : j = p
          · rw [if_pos (by omega), if_pos (by omega), if_pos (by omega), e]
            exact ⟨rfl, rfl, rfl⟩
          · rw [if_neg (by omega), if_neg (by omega), if_neg (by omega)]
            exact hx j j0 (by omega), fun i hi => by
          simp only [zup_eq, Nat.reduceEqDiff, false_and, true_and, if_false]
          rw [if_neg (by omega), if_neg (by omega), if_neg (by omega)]
          exact ho i hi⟩ (by simp only; omega)
        simp only [↓rX8_goesBy_82, ↓rX8_goesBy_83, ↓rX8_goesBy_84, ↓rX8_goesBy_87, ↓rX8_goesBy_88, ↓rX8_goesBy_91, ↓rX8_goesBy_92, ↓rX8_goesBy_95, ↓rX8_goesBy_97, ↓rX8_goesBy_98, ↓rX8_goesBy_99, ↓rX8_goesBy_100, ↓rX8_goesBy_101, ↓rX8_goesBy_102, ↓rX8_goesBy_105, ↓rX8_goesBy_106, ↓rX8_goesBy_107, ↓rX8_goesBy_108, ↓rX8_goesBy_109, ↓rX8_goesBy_112, ↓rX8_goesBy_114, ↓rX8_goesBy_115, ↓rX8_goesBy_116, ↓rX8_goesBy_117, ↓rX8_goesBy_118, ↓rX8_goesBy_119, ↓rX8_goesBy_122, ↓rX8_goesBy_123, ↓rX8_goesBy_124, ↓rX8_goesBy_125, ↓rX8_goesBy_126, ↓rX8_goesBy_129, ↓rX8_goesBy_131, ↓rX8_goesBy_132, ↓rX8_goesBy_133, ↓rX8_goesBy_134, ↓rX8_goesBy_135, ↓rX8_goesBy_136, ↓rX8_goesBy_139, ↓rX8_goesBy_140, ↓rX8_goesBy_141, ↓rX8_goesBy_142, ↓rX8_goesBy_145, ↓hg_fX8_127_46, ↓hg_fX8_46_46, ↓hg_fX8_49_46, ↓hg_fX8_52_46, ↓hg_fX8_61_46, ↓hg_fX8_64_46, ↓hg_fX8_67_46, ↓hr_47, ↓hr_48, ↓hr_49, ↓hr_50, ↓hr_51, ↓hr_52, ↓hr_53, ↓hr_54, ↓hr_55, ↓hr_56, ↓hr_57, ↓hr_58, ↓hr_59, ↓hr_60, ↓hr_61, ↓hr_62, ↓hr_63, ↓hr_64, ↓hr_65, ↓hr_66, ↓hr_67, ↓hr_68, ↓hr_69, ↓hr_70, ↓hr_71, ↓hr_72, ↓hr_73, ↓hr_74, ↓hr_75, ↓hr_76, ↓hr_77, ↓hr_78, ↓hr_79, ↓hw_47, ↓hw_48, ↓hw_49, ↓hw_50, ↓hw_51, ↓hw_52, ↓hw_53, ↓hw_54, ↓hw_55, ↓hw_56, ↓hw_57, ↓hw_58, ↓hw_59, ↓hw_60, ↓hw_61, ↓hw_62, ↓hw_63, ↓hw_64, ↓hw_65, ↓hw_66, ↓hw_67, ↓hw_68, ↓hw_69, ↓hw_70, ↓hw_71, ↓hw_72, ↓hw_73, ↓hw_74, ↓hw_75, ↓hw_76, ↓hw_77, ↓hw_78, ↓hw_79, ↓reduceIte, zkeep_n, zkeep_i, zkeep_r, zkeep_l, zIR, zLR, List.length_cons, List.length_nil, Nat.reduceAdd, Nat.reduceLeDiff, Nat.reduceEqDiff, Nat.reduceSub, Int.reduceLE, Int.reduceLT, Int.reduceEq, Int.reduceNe, Int.reduceNeg, Int.reduceAdd, Int.reduceSub, Int.reduceMul, Int.reduceToNat, Nat.le_refl, Nat.zero_le, Nat.zero_add, Int.zero_add, Int.add_zero, and_true, true_and, and_false, false_and, not_true_eq_false, not_false_eq_true, eq_self, ne_eq, true_implies, false_implies, implies_true, or_true, true_or, or_false, false_or, reduceCtorEq, Option.some.injEq, Sum.inl.injEq, exists_eq_left', exists_eq_left, n2, a1, a2, a3, zup_ne, zite]
        repeat' (first | with_reducible apply And.intro | with_reducible intro _)
        all_goals first | omega | (exact nx)
    exact L (0, N1) ⟨by simp only; omega, fun _ _ _ => rfl, fun k a b => by simp only at b; omega, fun i hi => ⟨k1 _ _ (by decide), k1 _ _ (by decide), k1 _ _ (by decide)⟩⟩
  -- phase 1
  have L : ∀ s : Nat × zM, (s.1 ≤ n ∧ (∀ k i, ¬ (59 ≤ k ∧ k ≤ 63) → s.2 k i = M k i) ∧ (∀ k, 0 ≤ k → k < qn S 0 → PM k s.2 (wterm S g (knt nt) (wby (so k)) k t s.1 (V k)))) → uX8_goesBy R 2 [some (.inr (.inr 46)), some (.inl (t : Int)), some (.inl (s.1 : Int))] [] s.2 := by
    refine zind (fun s => n - s.1) ?_
    rintro ⟨i, N⟩ ⟨hi, hfr, hPN⟩ ih
    simp only at hi hfr hPN ih
    have n2 : N 46 2 = qn S 0 := (hfr _ _ (by decide)).trans c1
    have n5 : N 46 5 = qn S 1 := (hfr _ _ (by decide)).trans c2
    have n12 : N 46 12 = n := (hfr _ _ (by decide)).trans c5
    have n16 : N 46 16 = nt := (hfr _ _ (by decide)).trans hnt
    refine rX8_goesBy_2.mpr ?_
    by_cases he : i = n
    · subst he
      have fin := P2 N hfr hPN
      simp only [↓rX8_goesBy_3, ↓rX8_goesBy_4, ↓rX8_goesBy_7, ↓rX8_goesBy_79, ↓rX8_goesBy_80, ↓hg_fX8_178_46, ↓reduceIte, zkeep_n, zkeep_i, zkeep_r, zkeep_l, zup_eq, zIR, zLR, List.length_cons, List.length_nil, Nat.reduceAdd, Nat.reduceLeDiff, Nat.reduceEqDiff, Nat.reduceSub, Int.reduceLE, Int.reduceLT, Int.reduceEq, Int.reduceNe, Int.reduceNeg, Int.reduceAdd, Int.reduceSub, Int.reduceMul, Int.reduceToNat, Nat.le_refl, Nat.zero_le, Nat.zero_add, Int.zero_add, Int.add_zero, and_true, true_and, and_false, false_and, not_true_eq_false, not_false_eq_true, eq_self, ne_eq, true_implies, false_implies, implies_true, or_true, true_or, or_false, false_or, reduceCtorEq, Option.some.injEq, Sum.inl.injEq, exists_eq_left', exists_eq_left, n12, zite]
      repeat' (first | with_reducible apply And.intro | with_reducible intro _)
      all_goals first | omega | (exact fin)
    · obtain ⟨g1, g2, g3⟩ := c7 i (by omega)
      have a1 : N 56 i = g 1 i := (hfr _ _ (by decide)).trans g1.1
      have a2 : N 57 i = g 2 i := (hfr _ _ (by decide)).trans g2.1
      have a3 : N 58 i = g 3 i := (hfr _ _ (by decide)).trans g3.1
      have hz := zand_R (zshr nt i) 1
      have same : ¬ (g 1 i = t ∧ g 2 i < qn S 0 ∧ g 3 i < qn S 1 ∧ ¬ zand (zshr nt i) 1 = 1) → uX8_goesBy R 2 [some (.inr (.inr 46)), some (.inl (t : Int)), some (.inl ((i : Int) + 1))] [] N := fun q => by
        refine ih (i + 1, N) ⟨by simp only; omega, hfr, fun k a b => ?_⟩ (by simp only; omega)
        have e : wterm S g (knt nt) (wby (so k)) k t (i + 1) (V k) = wterm S g (knt nt) (wby (so k)) k t i (V k) := by
          conv => lhs; unfold wterm
          split
          · rename_i e1
            unfold wfeed
            rw [if_neg]
            rintro ⟨z1, z2, z3⟩
            refine q ⟨e1, by omega, z2, ?_⟩
            unfold knt at z3
            simpa using z3
          · rfl
        rw [e]
        exact hPN k a b
      have call : (g 1 i = t ∧ g 2 i < qn S 0 ∧ g 3 i < qn S 1 ∧ ¬ zand (zshr nt i) 1 = 1) → zcn (zv 8 tX8_drinks) [.inr (.inr 46), .inl (g 2 i), .inl (g 3 i)] N (fun N' => uX8_goesBy R 73 [some (.inr (.inr 46)), some (.inl (t : Int)), some (.inl (i : Int))] [] N') := fun q => by
        obtain ⟨s1, s2⟩ := c3 (g 2 i) g2.2.1 q.2.1
        obtain ⟨m1, m2⟩ := c4 (g 3 i) g3.2.1 q.2.2.1
        have hqq := hq1.2 (g 3 i) g3.2.1 q.2.2.1
        have hvb := vokb_term (g := g) (kp := knt nt) (m := g 2 i) (t := t) hq (wby_R (so (g 2 i))).1 (hP (g 2 i) g2.2.1 q.2.1).2 i (fun f hf => (c7 f (by omega)).2.2.2.1)
        refine zcnv rfl (s_drinks (so := so (g 2 i)) (wa := qfact S 1 (g 3 i) 0) (mi := fun q => qfact S 1 (g 3 i) (1 + q)) (by omega) (by omega) ((hfr _ _ (by decide)).trans s1.1) s1.2 ((hfr _ _ (by decide)).trans m1) (by omega) (fun q q0 q1 => ⟨(hfr _ _ (by decide)).trans (m2 q q0 q1), hqq.2.2 (1 + q) (by omega) (by omega)⟩) (hPN (g 2 i) g2.2.1 q.2.1) (vokb_ok hvb (by omega)) (fun N' f1 f2 f3 f4 => ⟨rfl, ?_⟩))
        have nx := ih (i + 1, N') ⟨by simp only; omega, fun k j a => (f1 k j a).trans (hfr k j a), fun k a b => ?_⟩ (by simp only; omega)
        · simp only [↓rX8_goesBy_73, ↓rX8_goesBy_76, ↓reduceIte, zkeep_n, zkeep_i, zkeep_r, zkeep_l, zup_eq, zIR, zLR, List.length_cons, List.length_nil, Nat.reduceAdd, Nat.reduceLeDiff, Nat.reduceEqDiff, Nat.reduceSub, Int.reduceLE, Int.reduceLT, Int.reduceEq, Int.reduceNe, Int.reduceNeg, Int.reduceAdd, Int.reduceSub, Int.reduceMul, Int.reduceToNat, Nat.le_refl, Nat.zero_le, Nat.zero_add, Int.zero_add, Int.add_zero, and_true, true_and, and_false, false_and, not_true_eq_false, not_false_eq_true, eq_self, ne_eq, true_implies, false_implies, implies_true, or_true, true_or, or_false, false_or, reduceCtorEq, Option.some.injEq, Sum.inl.injEq, exists_eq_left', exists_eq_left, zite]
          exact nx
        · show PM k N' (wterm S g (knt nt) (wby (so k)) k t (i + 1) (V k))
          have e : wterm S g (knt nt) (wby (so k)) k t (i + 1) (V k) = wfeed S g (knt nt) (wby (so k)) k i (wterm S g (knt nt) (wby (so k)) k t i (V k)) := by
            conv => lhs; unfold wterm
            rw [if_pos q.1]
          rw [e]
          unfold wfeed
          by_cases ek : g 2 i = k
          · rw [if_pos ⟨ek, q.2.2.1, by unfold knt; simpa using q.2.2.2⟩]
            rw [ek] at f4
            exact f4
          · rw [if_neg (fun z => ek z.1)]
            exact PM_fr (hPN k a b) (fun q q0 q1 => f2 _ (by omega)) (f3 k (by omega)).1 (f3 k (by omega)).2
      have same : ¬ (g 1 i = t ∧ g 2 i < qn S 0 ∧ g 3 i < qn S 1 ∧ ¬ zand (zshr nt i) 1 = 1) → uX8_goesBy R 73 [some (.inr (.inr 46)), some (.inl (t : Int)), some (.inl (i : Int))] [] N := fun q => by
        have := same q
        simp only [↓rX8_goesBy_73, ↓rX8_goesBy_76, ↓reduceIte, zkeep_n, zkeep_i, zkeep_r, zkeep_l, zup_eq, zIR, zLR, List.length_cons, List.length_nil, Nat.reduceAdd, Nat.reduceLeDiff, Nat.reduceEqDiff, Nat.reduceSub, Int.reduceLE, Int.reduceLT, Int.reduceEq, Int.reduceNe, Int.reduceNeg, Int.reduceAdd, Int.reduceSub, Int.reduceMul, Int.reduceToNat, Nat.le_refl, Nat.zero_le, Nat.zero_add, Int.zero_add, Int.add_zero, and_true, true_and, and_false, false_and, not_true_eq_false, not_false_eq_true, eq_self, ne_eq, true_implies, false_implies, implies_true, or_true, true_or, or_false, false_or, reduceCtorEq, Option.some.injEq, Sum.inl.injEq, exists_eq_left', exists_eq_left, zite]
        exact this
      simp only [↓rX8_goesBy_3, ↓rX8_goesBy_4, ↓rX8_goesBy_7, ↓rX8_goesBy_10, ↓rX8_goesBy_11, ↓rX8_goesBy_14, ↓rX8_goesBy_15, ↓rX8_goesBy_16, ↓rX8_goesBy_17, ↓rX8_goesBy_20, ↓rX8_goesBy_21, ↓rX8_goesBy_24, ↓rX8_goesBy_25, ↓rX8_goesBy_26, ↓rX8_goesBy_27, ↓rX8_goesBy_30, ↓rX8_goesBy_33, ↓rX8_goesBy_34, ↓rX8_goesBy_37, ↓rX8_goesBy_38, ↓rX8_goesBy_39, ↓rX8_goesBy_40, ↓rX8_goesBy_43, ↓rX8_goesBy_46, ↓rX8_goesBy_47, ↓rX8_goesBy_50, ↓rX8_goesBy_51, ↓rX8_goesBy_54, ↓rX8_goesBy_57, ↓rX8_goesBy_58, ↓rX8_goesBy_59, ↓rX8_goesBy_62, ↓rX8_goesBy_63, ↓rX8_goesBy_64, ↓rX8_goesBy_65, ↓rX8_goesBy_68, ↓rX8_goesBy_69, ↓rX8_goesBy_70, ↓hg_fX8_127_46, ↓hg_fX8_131_46, ↓hg_fX8_178_46, ↓hg_fX8_181_46, ↓hg_fX8_37_46, ↓hg_fX8_40_46, ↓hg_fX8_43_46, ↓hr_47, ↓hr_48, ↓hr_49, ↓hr_50, ↓hr_51, ↓hr_52, ↓hr_53, ↓hr_54, ↓hr_55, ↓hr_56, ↓hr_57, ↓hr_58, ↓hr_59, ↓hr_60, ↓hr_61, ↓hr_62, ↓hr_63, ↓hr_64, ↓hr_65, ↓hr_66, ↓hr_67, ↓hr_68, ↓hr_69, ↓hr_70, ↓hr_71, ↓hr_72, ↓hr_73, ↓hr_74, ↓hr_75, ↓hr_76, ↓hr_77, ↓hr_78, ↓hr_79, ↓hw_47, ↓hw_48, ↓hw_49, ↓hw_50, ↓hw_51, ↓hw_52, ↓hw_53, ↓hw_54, ↓hw_55, ↓hw_56, ↓hw_57, ↓hw_58, ↓hw_59, ↓hw_60, ↓hw_61, ↓hw_62, ↓hw_63, ↓hw_64, ↓hw_65, ↓hw_66, ↓hw_67, ↓hw_68, ↓hw_69, ↓hw_70, ↓hw_71, ↓hw_72, ↓hw_73, ↓hw_74, ↓hw_75, ↓hw_76, ↓hw_77, ↓hw_78, ↓hw_79, ↓i_isIn, ↓reduceIte, zkeep_n, zkeep_i, zkeep_r, zkeep_l, zup_eq, zIR, zLR, List.length_cons, List.length_nil, Nat.reduceAdd, Nat.reduceLeDiff, Nat.reduceEqDiff, Nat.reduceSub, Int.reduceLE, Int.reduceLT, Int.reduceEq, Int.reduceNe, Int.reduceNeg, Int.reduceAdd, Int.reduceSub, Int.reduceMul, Int.reduceToNat, Nat.le_refl, Nat.zero_le, Nat.zero_add, Int.zero_add, Int.add_zero, and_true, true_and, and_false, false_and, not_true_eq_false, not_false_eq_true, eq_self, ne_eq, true_implies, false_implies, implies_true, or_true, true_or, or_false, false_or, reduceCtorEq, Option.some.injEq, Sum.inl.injEq, exists_eq_left', exists_eq_left, n12, a1, a2, a3, n2, n5, n16, zite]
      repeat' (first | with_reducible apply And.intro | with_reducible intro _)
      all_goals first | omega | (exact same (by omega)) | (exact call (by omega))
  have st := L (0, M) ⟨Nat.zero_le _, fun _ _ _ => rfl, fun k a b => (hP k a b).1⟩
  simp only [↓eX8_goesBy, ↓rX8_goesBy_0, ↓rX8_goesBy_1, ↓reduceIte, zkeep_n, zkeep_i, zkeep_r, zkeep_l, zup_eq, zIR, zLR, List.length_cons, List.length_nil, Nat.reduceAdd, Nat.reduceLeDiff, Nat.reduceEqDiff, Nat.reduceSub, Int.reduceLE, Int.reduceLT, Int.reduceEq, Int.reduceNe, Int.reduceNeg, Int.reduceAdd, Int.reduceSub, Int.reduceMul, Int.reduceToNat, Nat.le_refl, Nat.zero_le, Nat.zero_add, Int.zero_add, Int.add_zero, and_true, true_and, and_false, false_and, not_true_eq_false, not_false_eq_true, eq_self, ne_eq, true_implies, false_implies, implies_true, or_true, true_or, or_false, false_or, reduceCtorEq, Option.some.injEq, Sum.inl.injEq, exists_eq_left', exists_eq_left, zite]
  exact st
