def kb2 (a b : Nat) : Int → Bool := fun i => decide (i ≠ a ∧ i ≠ b)
theorem kb2_d : ∀ a : Fin 8, ∀ b : Fin 8, ∀ i : Fin 8, kpm (zand 255 (zxor (zor (zshl 1 a.val) (zshl 1 b.val)) (-1))) i.val = kb2 a.val b.val i.val := by decide +kernel
def unk (S : zM) (kp : Int → Bool) : Nat → Bool := fun m => !wknb (wX S kp (so0 S) (fst S) m 19) (fst S m)
def sp0 (S : zM) (kp : Int → Bool) : Bool := decide (wbs (unk S kp) (qk S) = 0)
def sp2 (S : zM) : Nat → Nat → Bool := fun a b => decide (a < b) && sp0 S (kb2 a b)
theorem unk_kp {S : zM} {kp kp' : Int → Bool} (h : ∀ f : Nat, f < nf S → kp f = kp' f) : unk S kp = unk S kp' := by
  funext m
  unfold unk
  rw [wX_kp h]
theorem RX_unk {S M : zM} (h : RX S M) {kept : Int} {kp : Int → Bool} (hk : ∀ f : Nat, f < nf S → kpm kept f = kp f) {F : zV → zM → Prop} (hR : ∀ M', (∀ k i, ¬ (23 ≤ k ∧ k ≤ 26) → M' k i = M k i) → F (.inl (wbs (unk S kp) (qk S))) M') : zcv (zv 7 tX7_unknowing) [.inr (.inr 0), .inr (.inr 7), .inl kept] M F := by
  refine zcvv rfl (s_unknowing7 (S := S) (g := gt S) (n := nf S) h.2.2.2.1 h.2.2.2.2.1.2 (fun M' f1 => ⟨_, rfl, ?_⟩))
  have := hR M' f1
  rw [← unk_kp hk] at this
  exact this
set_option maxRecDepth 100000 in
set_option maxHeartbeats 4000000 in
theorem s_planSpare {S M : zM} {R : zP} (h : RX S M)
    (hR : ∀ M', QF M M' → M' 31 0 = plN (sp0 S kall) (fun a => sp0 S (kbut a)) (sp2 S) (nf S) → M' 31 1 = plA (sp0 S kall) (fun a => sp0 S (kbut a)) (sp2 S) (nf S) → M' 31 2 = plB (sp0 S kall) (fun a => sp0 S (kbut a)) (sp2 S) (nf S) → R none M') : tX7_planSpare [.inr (.inr 0)] M R := by
  have hn8 := h.2.2.2.2.1.2.2.1
  have hqn := (h.2.2.2.1.1 0 (by decide)).1
  have hk8 : qk S ≤ 8 := by unfold qk; omega
  have hw8 : ∀ kp, 0 ≤ wbs (unk S kp) (qk S) ∧ wbs (unk S kp) (qk S) < 256 := fun kp => wbs_8 _ hk8
  have p0e : sp0 S kall = true ↔ wbs (unk S kall) (qk S) = 0 := by simp [sp0]
  have p1e : ∀ a : Nat, (fun a => sp0 S (kbut a)) a = true ↔ wbs (unk S (kbut a)) (qk S) = 0 := fun a => by simp [sp0]
  have p2e : ∀ a b : Nat, sp2 S a b = true ↔ (a < b ∧ wbs (unk S (kb2 a b)) (qk S) = 0) := fun a b => by simp [sp2, sp0]
  generalize sp0 S kall = p0 at *
  generalize (fun a : Nat => sp0 S (kbut a)) = p1 at *
  generalize sp2 S = p2 at *
  have ends : ∀ (N : zM) (n a b : Int), QF M N → n = plN p0 p1 p2 (nf S) ∧ a = plA p0 p1 p2 (nf S) ∧ b = plB p0 p1 p2 (nf S) → R none (zup (zup (zup N 31 0 n) 31 1 a) 31 2 b) := by
    intro N n a b hN he
    refine hR _ (fun k i a b => ?_) ?_ ?_ ?_
    · rw [zup_ne (by omega), zup_ne (by omega), zup_ne (by omega)]
      exact hN k i a b
    · rw [zup_in, if_neg (by decide), zup_in, if_neg (by decide), zup_in, if_pos rfl]; exact he.1
    · rw [zup_in, if_neg (by decide), zup_in, if_pos rfl]; exact he.2.1
    · rw [zup_in, if_pos rfl]; exact he.2.2
  have L2 : (p0 = false) → (∀ j : Nat, j < nf S → p1 j = false) → ∀ t : Nat × Nat × zM, (t.1 < nf S ∧ t.1 < t.2.1 ∧ t.2.1 ≤ nf S ∧ QF M t.2.2 ∧ (∀ i : Nat, i < t.1 → ∀ j : Nat, j < nf S → p2 i j = false) ∧ (∀ j : Nat, j < t.2.1 → p2 t.1 j = false)) → uX7_planSpare R 92 [some (.inr (.inr 0)), some (.inl (t.1 : Int)), some (.inl (t.2.1 : Int))] [] t.2.2 := by
    intro hp0 hp1
    refine zind (fun t => (nf S - t.1) * (nf S + 1) + (nf S - t.2.1)) ?_
    rintro ⟨a, b, N⟩ ⟨ha, hab, hb, hN, hp, hpb⟩ ih
    simp only at ha hab hb hN hp hpb ih
    have hRN := RX_qf h hN
    have n1 : N 7 4 = (nf S : Int) := hRN.2.2.2.2.1.2.1
    refine rX7_planSpare_92.mpr ?_
    by_cases hbe : b = nf S
    · by_cases hae : a + 1 = nf S
      · have := pl_3 hp0 hp1 (K := nf S) (p2 := p2) (fun i hi j hj => by
          by_cases e : i = a
          · rw [e]; exact hpb j (by omega)
          · exact hp i (by omega) j hj)
        have fin := ends N (-1) (-1) (-1) hN ⟨this.1.symm, this.2.1.symm, this.2.2.symm⟩
        simp only [↓rX7_planSpare_77, ↓rX7_planSpare_78, ↓rX7_planSpare_79, ↓rX7_planSpare_82, ↓rX7_planSpare_85, ↓rX7_planSpare_150, ↓rX7_planSpare_151, ↓rX7_planSpare_154, ↓rX7_planSpare_155, ↓rX7_planSpare_156, ↓rX7_planSpare_157, ↓rX7_planSpare_160, ↓rX7_planSpare_93, ↓rX7_planSpare_94, ↓rX7_planSpare_97, ↓rX7_planSpare_100, ↓rX7_planSpare_144, ↓rX7_planSpare_147, ↓hg_fX7_234_12, ↓hg_fX7_234_7, ↓hg_fX7_28_0, ↓hg_fX7_65_0, ↓i_planBecome, ↓reduceIte, zkeep_n, zkeep_i, zkeep_r, zkeep_l, zIR, zLR, List.length_cons, List.length_nil, Nat.reduceAdd, Nat.reduceLeDiff, Nat.reduceEqDiff, Nat.reduceSub, Int.reduceLE, Int.reduceLT, Int.reduceEq, Int.reduceNe, Int.reduceNeg, Int.reduceAdd, Int.reduceSub, Int.reduceMul, Int.reduceToNat, Nat.le_refl, Nat.zero_le, Nat.zero_add, Int.zero_add, Int.add_zero, and_true, true_and, and_false, false_and, not_true_eq_false, not_false_eq_true, eq_self, ne_eq, true_implies, false_implies, implies_true, or_true, true_or, or_false, false_or, reduceCtorEq, Option.some.injEq, Sum.inl.injEq, exists_eq_left', exists_eq_left, n1, zite]
        repeat' (first | with_reducible apply And.intro | with_reducible intro _)
        all_goals first | omega | (exact fin)
      · have nx := ih (a + 1, a + 2, N) ⟨by simp only; omega, by simp only; omega, by simp only; omega, hN, fun i hi j hj => ?_, fun j hj => ?_⟩ ?_
        · rw [show (((a + 1, a + 2, N) : Nat × Nat × zM).1 : Int) = (a : Int) + 1 by rfl, show (((a + 1, a + 2, N) : Nat × Nat × zM).2.1 : Int) = (a : Int) + 1 + 1 by simp only; omega] at nx
          simp only [↓rX7_planSpare_77, ↓rX7_planSpare_78, ↓rX7_planSpare_79, ↓rX7_planSpare_82, ↓rX7_planSpare_85, ↓rX7_planSpare_88, ↓rX7_planSpare_89, ↓rX7_planSpare_90, ↓rX7_planSpare_91, ↓rX7_planSpare_150, ↓rX7_planSpare_151, ↓rX7_planSpare_154, ↓rX7_planSpare_155, ↓rX7_planSpare_156, ↓rX7_planSpare_157, ↓rX7_planSpare_160, ↓rX7_planSpare_93, ↓rX7_planSpare_94, ↓rX7_planSpare_97, ↓rX7_planSpare_100, ↓rX7_planSpare_144, ↓rX7_planSpare_147, ↓hg_fX7_234_12, ↓hg_fX7_234_7, ↓hg_fX7_28_0, ↓hg_fX7_65_0, ↓i_planBecome, ↓reduceIte, zkeep_n, zkeep_i, zkeep_r, zkeep_l, zup_eq, zIR, zLR, List.length_cons, List.length_nil, Nat.reduceAdd, Nat.reduceLeDiff, Nat.reduceEqDiff, Nat.reduceSub, Int.reduceLE, Int.reduceLT, Int.reduceEq, Int.reduceNe, Int.reduceNeg, Int.reduceAdd, Int.reduceSub, Int.reduceMul, Int.reduceToNat, Nat.le_refl, Nat.zero_le, Nat.zero_add, Int.zero_add, Int.add_zero, and_true, true_and, and_false, false_and, not_true_eq_false, not_false_eq_true, eq_self, ne_eq, true_implies, false_implies, implies_true, or_true, true_or, or_false, false_or, reduceCtorEq, Option.some.injEq, Sum.inl.injEq, exists_eq_left', exists_eq_left, n1, zite]
          repeat' (first | with_reducible apply And.intro | with_reducible intro _)
          all_goals first | omega | (exact nx)
        · simp only at hi
          by_cases e : i = a
          · rw [e]; exact hpb j (by omega)
          · exact hp i (by omega) j hj
        · simp only at hj ⊢
          rw [← Bool.not_eq_true, p2e]
          omega
        · simp only
          have e : nf S - a = (nf S - (a + 1)) + 1 := by omega
          rw [e, Nat.add_mul]
          omega
    · have hw := hw8 (kb2 a b)
      have call := RX_unk hRN (kept := zand 255 (zxor (zor (zshl 1 a) (zshl 1 b)) (-1))) (kp := kb2 a b) (fun f hf => kb2_d ⟨a, by omega⟩ ⟨b, by omega⟩ ⟨f, by omega⟩) (F := fun v M => uX7_planSpare R 124 [some (.inr (.inr 0)), some (.inl (a : Int)), some (.inl (b : Int))] [v] M) (fun N' g1 => ?_)
      · simp only [↓rX7_planSpare_93, ↓rX7_planSpare_94, ↓rX7_planSpare_97, ↓rX7_planSpare_100, ↓rX7_planSpare_103, ↓rX7_planSpare_104, ↓rX7_planSpare_105, ↓rX7_planSpare_108, ↓rX7_planSpare_111, ↓rX7_planSpare_112, ↓rX7_planSpare_113, ↓rX7_planSpare_114, ↓rX7_planSpare_115, ↓rX7_planSpare_116, ↓rX7_planSpare_117, ↓rX7_planSpare_118, ↓rX7_planSpare_119, ↓rX7_planSpare_120, ↓rX7_planSpare_121, ↓hg_fX7_234_12, ↓hg_fX7_234_7, ↓hg_fX7_28_0, ↓reduceIte, zkeep_n, zkeep_i, zkeep_r, zkeep_l, zup_eq, zIR, zLR, List.length_cons, List.length_nil, Nat.reduceAdd, Nat.reduceLeDiff, Nat.reduceEqDiff, Nat.reduceSub, Int.reduceLE, Int.reduceLT, Int.reduceEq, Int.reduceNe, Int.reduceNeg, Int.reduceAdd, Int.reduceSub, Int.reduceMul, Int.reduceToNat, Nat.le_refl, Nat.zero_le, Nat.zero_add, Int.zero_add, Int.add_zero, and_true, true_and, and_false, false_and, not_true_eq_false, not_false_eq_true, eq_self, ne_eq, true_implies, false_implies, implies_true, or_true, true_or, or_false, false_or, reduceCtorEq, Option.some.injEq, Sum.inl.injEq, exists_eq_left', exists_eq_left, n1, zite]
        repeat' (first | with_reducible apply And.intro | with_reducible intro _)
        all_goals first | omega | (exact call)
      · have hN' : QF M N' := hN.trans (QF.of g1)
        have yes : wbs (unk S (kb2 a b)) (qk S) = 0 → R none (zup (zup (zup N' 31 0 2) 31 1 a) 31 2 b) := fun hz => by
          have := pl_2 (K := nf S) (a := a) (b := b) hp0 hp1 ha (by omega) ((p2e a b).mpr ⟨hab, hz⟩) hpb hp
          exact ends N' 2 a b hN' ⟨this.1.symm, this.2.1.symm, this.2.2.symm⟩
        have no : ¬ wbs (unk S (kb2 a b)) (qk S) = 0 → uX7_planSpare R 92 [some (.inr (.inr 0)), some (.inl (a : Int)), some (.inl ((b : Int) + 1))] [] N' := fun hz => by
          refine ih (a, b + 1, N') ⟨ha, by simp only; omega, by simp only; omega, hN', hp, fun j hj => ?_⟩ (by simp only; omega)
          simp only at hj
          by_cases e : j = b
          · rw [e, ← Bool.not_eq_true, p2e]
            exact fun q => hz q.2
          · exact hpb j (by omega)
        simp only [↓rX7_planSpare_124, ↓rX7_planSpare_127, ↓rX7_planSpare_128, ↓rX7_planSpare_131, ↓rX7_planSpare_132, ↓rX7_planSpare_133, ↓rX7_planSpare_134, ↓rX7_planSpare_137, ↓rX7_planSpare_138, ↓rX7_planSpare_141, ↓hg_fX7_65_0, ↓i_planBecome, ↓reduceIte, zkeep_n, zkeep_i, zkeep_r, zkeep_l, zIR, zLR, List.length_cons, List.length_nil, Nat.reduceAdd, Nat.reduceLeDiff, Nat.reduceEqDiff, Nat.reduceSub, Int.reduceLE, Int.reduceLT, Int.reduceEq, Int.reduceNe, Int.reduceNeg, Int.reduceAdd, Int.reduceSub, Int.reduceMul, Int.reduceToNat, Nat.le_refl, Nat.zero_le, Nat.zero_add, Int.zero_add, Int.add_zero, and_true, true_and, and_false, false_and, not_true_eq_false, not_false_eq_true, eq_self, ne_eq, true_implies, false_implies, implies_true, or_true, true_or, or_false, false_or, reduceCtorEq, Option.some.injEq, Sum.inl.injEq, exists_eq_left', exists_eq_left, zite]
        repeat' (first | with_reducible apply And.intro | with_reducible intro _)
        all_goals first | omega | (exact no (by omega)) | (exact yes (by omega))
  have L1 : (p0 = false) → ∀ t : Nat × zM, (t.1 ≤ nf S ∧ QF M t.2 ∧ (∀ j : Nat, j < t.1 → p1 j = false)) → uX7_planSpare R 27 [some (.inr (.inr 0)), some (.inl (t.1 : Int)), none] [] t.2 := by
    intro hp0
    refine zind (fun t => nf S - t.1) ?_
    rintro ⟨a, N⟩ ⟨ha, hN, hp⟩ ih
    simp only at ha hN hp ih
    have hRN := RX_qf h hN
    have n1 : N 7 4 = (nf S : Int) := hRN.2.2.2.2.1.2.1
    refine rX7_planSpare_27.mpr ?_
    by_cases hae : a = nf S
    · subst hae
      by_cases hz : nf S = 0
      · have := pl_3 (K := nf S) (p2 := p2) hp0 hp (fun i hi => by omega)
        have fin := ends N (-1) (-1) (-1) hN ⟨this.1.symm, this.2.1.symm, this.2.2.symm⟩
        simp only [↓rX7_planSpare_28, ↓rX7_planSpare_29, ↓rX7_planSpare_32, ↓rX7_planSpare_35, ↓rX7_planSpare_75, ↓rX7_planSpare_76, ↓rX7_planSpare_77, ↓rX7_planSpare_78, ↓rX7_planSpare_79, ↓rX7_planSpare_82, ↓rX7_planSpare_85, ↓rX7_planSpare_150, ↓rX7_planSpare_151, ↓rX7_planSpare_154, ↓rX7_planSpare_155, ↓rX7_planSpare_156, ↓rX7_planSpare_157, ↓rX7_planSpare_160, ↓hg_fX7_234_12, ↓hg_fX7_234_7, ↓hg_fX7_28_0, ↓hg_fX7_65_0, ↓i_planBecome, ↓reduceIte, zkeep_n, zkeep_i, zkeep_r, zkeep_l, zIR, zLR, List.length_cons, List.length_nil, Nat.reduceAdd, Nat.reduceLeDiff, Nat.reduceEqDiff, Nat.reduceSub, Int.reduceLE, Int.reduceLT, Int.reduceEq, Int.reduceNe, Int.reduceNeg, Int.reduceAdd, Int.reduceSub, Int.reduceMul, Int.reduceToNat, Nat.le_refl, Nat.zero_le, Nat.zero_add, Int.zero_add, Int.add_zero, and_true, true_and, and_false, false_and, not_true_eq_false, not_false_eq_true, eq_self, ne_eq, true_implies, false_implies, implies_true, or_true, true_or, or_false, false_or, reduceCtorEq, Option.some.injEq, Sum.inl.injEq, exists_eq_left', exists_eq_left, n1, zite]
        repeat' (first | with_reducible apply And.intro | with_reducible intro _)
        all_goals first | omega | (exact fin)
      · have nx := L2 hp0 hp (0, 1, N) ⟨by simp only; omega, by simp only; omega, by simp only; omega, hN, fun i hi => by simp at hi, fun j hj => by simp only at hj ⊢; rw [← Bool.not_eq_true, p2e]; omega⟩
        rw [show (((0, 1, N) : Nat × Nat × zM).2.1 : Int) = 1 by rfl, show (((0, 1, N) : Nat × Nat × zM).1 : Int) = 0 by rfl] at nx
        simp only [↓rX7_planSpare_28, ↓rX7_planSpare_29, ↓rX7_planSpare_32, ↓rX7_planSpare_35, ↓rX7_planSpare_75, ↓rX7_planSpare_76, ↓rX7_planSpare_77, ↓rX7_planSpare_78, ↓rX7_planSpare_79, ↓rX7_planSpare_82, ↓rX7_planSpare_85, ↓rX7_planSpare_88, ↓rX7_planSpare_89, ↓rX7_planSpare_90, ↓rX7_planSpare_91, ↓rX7_planSpare_150, ↓rX7_planSpare_151, ↓rX7_planSpare_154, ↓rX7_planSpare_155, ↓rX7_planSpare_156, ↓rX7_planSpare_157, ↓rX7_planSpare_160, ↓hg_fX7_234_12, ↓hg_fX7_234_7, ↓hg_fX7_28_0, ↓hg_fX7_65_0, ↓i_planBecome, ↓reduceIte, zkeep_n, zkeep_i, zkeep_r, zkeep_l, zup_eq, zIR, zLR, List.length_cons, List.length_nil, Nat.reduceAdd, Nat.reduceLeDiff, Nat.reduceEqDiff, Nat.reduceSub, Int.reduceLE, Int.reduceLT, Int.reduceEq, Int.reduceNe, Int.reduceNeg, Int.reduceAdd, Int.reduceSub, Int.reduceMul, Int.reduceToNat, Nat.le_refl, Nat.zero_le, Nat.zero_add, Int.zero_add, Int.add_zero, and_true, true_and, and_false, false_and, not_true_eq_false, not_false_eq_true, eq_self, ne_eq, true_implies, false_implies, implies_true, or_true, true_or, or_false, false_or, reduceCtorEq, Option.some.injEq, Sum.inl.injEq, exists_eq_left', exists_eq_left, n1, zite]
        repeat' (first | with_reducible apply And.intro | with_reducible intro _)
        all_goals first | omega | (exact nx)
    · have hw := hw8 (kbut a)
      have call := RX_unk hRN (kept := zand 255 (zxor (zshl 1 a) (-1))) (kp := kbut a) (fun f hf => kbut_d ⟨a, by omega⟩ ⟨f, by omega⟩) (F := fun v M => uX7_planSpare R 55 [some (.inr (.inr 0)), some (.inl (a : Int)), none] [v] M) (fun N' g1 => ?_)
      · simp only [↓rX7_planSpare_28, ↓rX7_planSpare_29, ↓rX7_planSpare_32, ↓rX7_planSpare_35, ↓rX7_planSpare_38, ↓rX7_planSpare_39, ↓rX7_planSpare_40, ↓rX7_planSpare_43, ↓rX7_planSpare_46, ↓rX7_planSpare_47, ↓rX7_planSpare_48, ↓rX7_planSpare_49, ↓rX7_planSpare_50, ↓rX7_planSpare_51, ↓rX7_planSpare_52, ↓hg_fX7_234_12, ↓hg_fX7_234_7, ↓hg_fX7_28_0, ↓reduceIte, zkeep_n, zkeep_i, zkeep_r, zkeep_l, zup_eq, zIR, zLR, List.length_cons, List.length_nil, Nat.reduceAdd, Nat.reduceLeDiff, Nat.reduceEqDiff, Nat.reduceSub, Int.reduceLE, Int.reduceLT, Int.reduceEq, Int.reduceNe, Int.reduceNeg, Int.reduceAdd, Int.reduceSub, Int.reduceMul, Int.reduceToNat, Nat.le_refl, Nat.zero_le, Nat.zero_add, Int.zero_add, Int.add_zero, and_true, true_and, and_false, false_and, not_true_eq_false, not_false_eq_true, eq_self, ne_eq, true_implies, false_implies, implies_true, or_true, true_or, or_false, false_or, reduceCtorEq, Option.some.injEq, Sum.inl.injEq, exists_eq_left', exists_eq_left, n1, zite]
        repeat' (first | with_reducible apply And.intro | with_reducible intro _)
        all_goals first | omega | (exact call)
      · have hN' : QF M N' := hN.trans (QF.of g1)
        have yes : wbs (unk S (kbut a)) (qk S) = 0 → R none (zup (zup (zup N' 31 0 1) 31 1 a) 31 2 (-1)) := fun hz => by
          have := pl_1 (K := nf S) (a := a) (p2 := p2) hp0 (by omega) ((p1e a).mpr hz) hp
          exact ends N' 1 a (-1) hN' ⟨this.1.symm, this.2.1.symm, this.2.2.symm⟩
        have no : ¬ wbs (unk S (kbut a)) (qk S) = 0 → uX7_planSpare R 27 [some (.inr (.inr 0)), some (.inl ((a : Int) + 1)), none] [] N' := fun hz => by
          refine ih (a + 1, N') ⟨by simp only; omega, hN', fun j hj => ?_⟩ (by simp only; omega)
          simp only at hj
          by_cases e : j = a
          · rw [e, ← Bool.not_eq_true, p1e]; exact hz
          · exact hp j (by omega)
        simp only [↓rX7_planSpare_55, ↓rX7_planSpare_58, ↓rX7_planSpare_59, ↓rX7_planSpare_62, ↓rX7_planSpare_63, ↓rX7_planSpare_64, ↓rX7_planSpare_65, ↓rX7_planSpare_68, ↓rX7_planSpare_69, ↓rX7_planSpare_72, ↓hg_fX7_65_0, ↓i_planBecome, ↓reduceIte, zkeep_n, zkeep_i, zkeep_r, zkeep_l, zIR, zLR, List.length_cons, List.length_nil, Nat.reduceAdd, Nat.reduceLeDiff, Nat.reduceEqDiff, Nat.reduceSub, Int.reduceLE, Int.reduceLT, Int.reduceEq, Int.reduceNe, Int.reduceNeg, Int.reduceAdd, Int.reduceSub, Int.reduceMul, Int.reduceToNat, Nat.le_refl, Nat.zero_le, Nat.zero_add, Int.zero_add, Int.add_zero, and_true, true_and, and_false, false_and, not_true_eq_false, not_false_eq_true, eq_self, ne_eq, true_implies, false_implies, implies_true, or_true, true_or, or_false, false_or, reduceCtorEq, Option.some.injEq, Sum.inl.injEq, exists_eq_left', exists_eq_left, zite]
        repeat' (first | with_reducible apply And.intro | with_reducible intro _)
        all_goals first | omega | (exact no (by omega)) | (exact yes (by omega))
  have hw := hw8 kall
  simp only [↓eX7_planSpare, ↓rX7_planSpare_0, ↓rX7_planSpare_1, ↓rX7_planSpare_2, ↓rX7_planSpare_5, ↓rX7_planSpare_8, ↓hg_fX7_28_0, ↓reduceIte, zkeep_n, zkeep_i, zkeep_r, zkeep_l, zup_eq, zIR, zLR, List.length_cons, List.length_nil, Nat.reduceAdd, Nat.reduceLeDiff, Nat.reduceEqDiff, Nat.reduceSub, Int.reduceLE, Int.reduceLT, Int.reduceEq, Int.reduceNe, Int.reduceNeg, Int.reduceAdd, Int.reduceSub, Int.reduceMul, Int.reduceToNat, Nat.le_refl, Nat.zero_le, Nat.zero_add, Int.zero_add, Int.add_zero, and_true, true_and, and_false, false_and, not_true_eq_false, not_false_eq_true, eq_self, ne_eq, true_implies, false_implies, implies_true, or_true, true_or, or_false, false_or, reduceCtorEq, Option.some.injEq, Sum.inl.injEq, exists_eq_left', exists_eq_left, zite]
  refine RX_unk h (kp := kall) (fun f hf => kpm_255d ⟨f, by omega⟩) (fun M1 f1 => ?_)
  have yes : wbs (unk S kall) (qk S) = 0 → R none (zup (zup (zup M1 31 0 0) 31 1 (-1)) 31 2 (-1)) := fun hz => by
    have := pl_0 (p1 := p1) (p2 := p2) (K := nf S) (p0e.mpr hz)
    exact ends M1 0 (-1) (-1) (QF.of f1) ⟨this.1.symm, this.2.1.symm, this.2.2.symm⟩
  have no : ¬ wbs (unk S kall) (qk S) = 0 → uX7_planSpare R 27 [some (.inr (.inr 0)), some (.inl 0), none] [] M1 := fun hz => L1 (by rw [← Bool.not_eq_true, p0e]; exact hz) (0, M1) ⟨Nat.zero_le _, QF.of f1, fun j hj => by simp at hj⟩
  simp only [↓rX7_planSpare_11, ↓rX7_planSpare_14, ↓rX7_planSpare_15, ↓rX7_planSpare_18, ↓rX7_planSpare_19, ↓rX7_planSpare_20, ↓rX7_planSpare_21, ↓rX7_planSpare_24, ↓rX7_planSpare_25, ↓rX7_planSpare_26, ↓hg_fX7_65_0, ↓i_planBecome, ↓reduceIte, zkeep_n, zkeep_i, zkeep_r, zkeep_l, zIR, zLR, List.length_cons, List.length_nil, Nat.reduceAdd, Nat.reduceLeDiff, Nat.reduceEqDiff, Nat.reduceSub, Int.reduceLE, Int.reduceLT, Int.reduceEq, Int.reduceNe, Int.reduceNeg, Int.reduceAdd, Int.reduceSub, Int.reduceMul, Int.reduceToNat, Nat.le_refl, Nat.zero_le, Nat.zero_add, Int.zero_add, Int.add_zero, and_true, true_and, and_false, false_and, not_true_eq_false, not_false_eq_true, eq_self, ne_eq, true_implies, false_implies, implies_true, or_true, true_or, or_false, false_or, reduceCtorEq, Option.some.injEq, Sum.inl.injEq, exists_eq_left', exists_eq_left, zite]
  repeat' (first | with_reducible apply And.intro | with_reducible intro _)
  all_goals first | omega | (exact no (by omega)) | (exact yes (by omega))
def aSpare (S : zM) (i : Int) : Int := if -1 ≤ i ∧ i ≤ 1 then (if i = -1 then plN (sp0 S kall) (fun a => sp0 S (kbut a)) (sp2 S) (nf S) else if i = 0 then plA (sp0 S kall) (fun a => sp0 S (kbut a)) (sp2 S) (nf S) else plB (sp0 S kall) (fun a => sp0 S (kbut a)) (sp2 S) (nf S)) else -2
set_option maxRecDepth 100000 in
set_option maxHeartbeats 4000000 in
theorem x_spare {S M : zM} {R : zP} {i : Int} (h : RX S M) (z4 : zIR i) (hR : ∀ M', QF M M' → R (some (.inl (aSpare S i))) M') : tX7_spare [.inr (.inr 0), .inl i] M R := by
  unfold zIR at z4
  have bad : ¬ (-1 ≤ i ∧ i ≤ 1) → R (some (.inl (-2))) M := fun hb => by
    have := hR M QF.rfl
    unfold aSpare at this
    rw [if_neg hb] at this
    exact this
  have call : (-1 ≤ i ∧ i ≤ 1) → zcn (zv 7 tX7_planSpare) [.inr (.inr 0)] M (fun M' => uX7_spare R 17 [some (.inr (.inr 0)), some (.inl i)] [] M') := by
    intro hg
    unfold aSpare at hR
    rw [if_pos hg] at hR
    refine zcnv rfl (s_planSpare h (fun M' f1 e0 e1 e2 => ⟨rfl, ?_⟩))
    have fin := hR M' f1
    simp only [↓rX7_spare_17, ↓rX7_spare_18, ↓rX7_spare_21, ↓rX7_spare_22, ↓rX7_spare_25, ↓hg_fX7_65_0, ↓i_planTell, ↓reduceIte, zkeep_n, zkeep_i, zkeep_r, zkeep_l, zup_eq, zIR, zLR, List.length_cons, List.length_nil, Nat.reduceAdd, Nat.reduceLeDiff, Nat.reduceEqDiff, Nat.reduceSub, Int.reduceLE, Int.reduceLT, Int.reduceEq, Int.reduceNe, Int.reduceNeg, Int.reduceAdd, Int.reduceSub, Int.reduceMul, Int.reduceToNat, Nat.le_refl, Nat.zero_le, Nat.zero_add, Int.zero_add, Int.add_zero, and_true, true_and, and_false, false_and, not_true_eq_false, not_false_eq_true, eq_self, ne_eq, true_implies, false_implies, implies_true, or_true, true_or, or_false, false_or, reduceCtorEq, Option.some.injEq, Sum.inl.injEq, exists_eq_left', exists_eq_left, e0, e1, e2, zite]
    repeat' (first | with_reducible apply And.intro | with_reducible intro _)
    all_goals first | omega | (rw [if_pos (by omega)] at fin; exact fin) | (rw [if_neg (by omega), if_pos (by omega)] at fin; exact fin) | (rw [if_neg (by omega), if_neg (by omega)] at fin; exact fin)
  simp only [↓eX7_spare, ↓rX7_spare_0, ↓rX7_spare_1, ↓rX7_spare_2, ↓rX7_spare_5, ↓rX7_spare_6, ↓rX7_spare_7, ↓rX7_spare_10, ↓rX7_spare_12, ↓rX7_spare_13, ↓rX7_spare_14, ↓reduceIte, zkeep_n, zkeep_i, zkeep_r, zkeep_l, zup_eq, zIR, zLR, List.length_cons, List.length_nil, Nat.reduceAdd, Nat.reduceLeDiff, Nat.reduceEqDiff, Nat.reduceSub, Int.reduceLE, Int.reduceLT, Int.reduceEq, Int.reduceNe, Int.reduceNeg, Int.reduceAdd, Int.reduceSub, Int.reduceMul, Int.reduceToNat, Nat.le_refl, Nat.zero_le, Nat.zero_add, Int.zero_add, Int.add_zero, and_true, true_and, and_false, false_and, not_true_eq_false, not_false_eq_true, eq_self, ne_eq, true_implies, false_implies, implies_true, or_true, true_or, or_false, false_or, reduceCtorEq, Option.some.injEq, Sum.inl.injEq, exists_eq_left', exists_eq_left, zite]
  repeat' (first | with_reducible apply And.intro | with_reducible intro _)
  all_goals first | omega | (exact bad (by omega)) | (exact call (by omega))
