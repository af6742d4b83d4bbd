def ck (S : zM) : Nat := (qn S 1).toNat
def re0 (S : zM) (me qu s : Int) : Bool := decide (wspk (wV S me 19) qu s)
def re1 (S : zM) (me qu s : Int) : Nat → Bool := fun a => decide (wspk (drS S (wbyS S me) a (wV S me 19)) qu s)
def re2 (S : zM) (me qu s : Int) : Nat → Nat → Bool := fun a b => decide (wspk (drS S (wbyS S me) b (drS S (wbyS S me) a (wV S me 19))) qu s)
theorem RX_raise2 {S M : zM} (h : RX S M) {R : zP} {m : Int} {T : Int} (hT : 0 ≤ T ∧ T < 20) (h0 : 0 ≤ m) (h1 : m < qn S 0) (hR : ∀ M', (∀ k i, ¬ (23 ≤ k ∧ k ≤ 26) → M' k i = M k i) → M' 23 4 = wbyS S m → PV 23 M' (wV S m T.toNat) → R none M') : tX7_raise [.inr (.inr 0), .inr (.inr 7), .inl m, .inl T, .inl 255] M R := by
  have hC := h.2.2.2.1
  have hF := h.2.2.2.2.1.2
  have hq := (hC.1 0 (by decide))
  simp only [↓eX7_raise, ↓rX7_raise_0, ↓rX7_raise_1, ↓rX7_raise_4, ↓rX7_raise_5, ↓rX7_raise_8, ↓rX7_raise_9, ↓hg_fX7_14_0, ↓hg_fX7_55_0, ↓reduceIte, zkeep_n, zkeep_i, zkeep_r, zkeep_l, zup_eq, zIR, zLR, List.length_cons, List.length_nil, Nat.reduceAdd, Nat.reduceLeDiff, Nat.reduceEqDiff, Nat.reduceSub, Int.reduceLE, Int.reduceLT, Int.reduceEq, Int.reduceNe, Int.reduceNeg, Int.reduceAdd, Int.reduceSub, Int.reduceMul, Int.reduceToNat, Nat.le_refl, Nat.zero_le, Nat.zero_add, Int.zero_add, Int.add_zero, and_true, true_and, and_false, false_and, not_true_eq_false, not_false_eq_true, eq_self, ne_eq, true_implies, false_implies, implies_true, or_true, true_or, or_false, false_or, reduceCtorEq, Option.some.injEq, Sum.inl.injEq, exists_eq_left', exists_eq_left, zite]
  refine zcnv rfl (s_enterS hC h0 h1 (fun M1 f1 f2 f3 => ⟨rfl, ?_⟩))
  simp only [↓rX7_raise_12, ↓rX7_raise_13, ↓rX7_raise_14, ↓rX7_raise_15, ↓rX7_raise_16, ↓rX7_raise_17, ↓rX7_raise_19, ↓reduceIte, zkeep_n, zkeep_i, zkeep_r, zkeep_l, zup_eq, zIR, zLR, List.length_cons, List.length_nil, Nat.reduceAdd, Nat.reduceLeDiff, Nat.reduceEqDiff, Nat.reduceSub, Int.reduceLE, Int.reduceLT, Int.reduceEq, Int.reduceNe, Int.reduceNeg, Int.reduceAdd, Int.reduceSub, Int.reduceMul, Int.reduceToNat, Nat.le_refl, Nat.zero_le, Nat.zero_add, Int.zero_add, Int.add_zero, and_true, true_and, and_false, false_and, not_true_eq_false, not_false_eq_true, eq_self, ne_eq, true_implies, false_implies, implies_true, or_true, true_or, or_false, false_or, reduceCtorEq, Option.some.injEq, Sum.inl.injEq, exists_eq_left', exists_eq_left, zite]
  have hby := wbyS_R S m
  have := s_bringUp7 (S := S) (M := M1) (g := gt S) (n := nf S) (a := 0) (T := T.toNat) (m := m) (kept := 255) (R := fun r M' => ∃ v, r = some v ∧ uX7_raise R 22 [some (.inr (.inr 0)), some (.inr (.inr 7)), some (.inl m), some (.inl T), some (.inl 255)] [v] M') (CW_fr hC (fun k i hk => f1 k i (by omega))) (FR_fr hF (fun k i a b => f1 k i (by omega))) f3 (vokb_wst hC.1 h0 h1) (by decide) f2 hby (by omega) (by omega) (by omega) (fun M2 g1 g2 g3 => ⟨_, rfl, ?_⟩)
  · simp only [qseg_zero, List.length_nil] at this
    rw [Int.toNat_of_nonneg hT.1] at this
    exact zcvv rfl this
  · simp only [↓rX7_raise_22, ↓rX7_raise_23, ↓reduceIte, zkeep_n, zkeep_i, zkeep_r, zkeep_l, zup_eq, zIR, zLR, List.length_cons, List.length_nil, Nat.reduceAdd, Nat.reduceLeDiff, Nat.reduceEqDiff, Nat.reduceSub, Int.reduceLE, Int.reduceLT, Int.reduceEq, Int.reduceNe, Int.reduceNeg, Int.reduceAdd, Int.reduceSub, Int.reduceMul, Int.reduceToNat, Nat.le_refl, Nat.zero_le, Nat.zero_add, Int.zero_add, Int.add_zero, and_true, true_and, and_false, false_and, not_true_eq_false, not_false_eq_true, eq_self, ne_eq, true_implies, false_implies, implies_true, or_true, true_or, or_false, false_or, reduceCtorEq, Option.some.injEq, Sum.inl.injEq, exists_eq_left', exists_eq_left, zite]
    refine hR M2 (fun k i hk => (g1 k i hk).trans (f1 k i hk)) g2 ?_
    have e := wvec_255 (S := S) (g := gt S) (m := m) (T := T.toNat) hF.2.1
    unfold wV
    rw [← e]
    exact g3
set_option maxRecDepth 100000 in
set_option maxHeartbeats 4000000 in
theorem s_planRear {S M : zM} {R : zP} {me qu s : Int} (h : RX S M) (hg : 0 ≤ me ∧ me < qn S 0) (hqu : 0 ≤ qu ∧ qu < 4) (hs : 0 ≤ s ∧ s < 10)
    (hR : ∀ M', QF M M' → M' 31 0 = plN (re0 S me qu s) (re1 S me qu s) (re2 S me qu s) (ck S) → M' 31 1 = plA (re0 S me qu s) (re1 S me qu s) (re2 S me qu s) (ck S) → M' 31 2 = plB (re0 S me qu s) (re1 S me qu s) (re2 S me qu s) (ck S) → R none M') : tX7_planRear [.inr (.inr 0), .inl me, .inl qu, .inl s] M R := by
  have hq1 := (h.2.2.2.1.1 1 (by decide)).1
  have hck : (ck S : Int) = qn S 1 := by unfold ck; omega
  have hv := RX_V h hg.1 hg.2 (T := 19) (by decide)
  have hby := wbyS_R S me
  simp only [↓eX7_planRear, ↓rX7_planRear_0, ↓rX7_planRear_1, ↓rX7_planRear_2, ↓rX7_planRear_5, ↓rX7_planRear_6, ↓rX7_planRear_8, ↓rX7_planRear_11, ↓hg_fX7_28_0, ↓reduceIte, zkeep_n, zkeep_i, zkeep_r, zkeep_l, zup_eq, zIR, zLR, List.length_cons, List.length_nil, Nat.reduceAdd, Nat.reduceLeDiff, Nat.reduceEqDiff, Nat.reduceSub, Int.reduceLE, Int.reduceLT, Int.reduceEq, Int.reduceNe, Int.reduceNeg, Int.reduceAdd, Int.reduceSub, Int.reduceMul, Int.reduceToNat, Nat.le_refl, Nat.zero_le, Nat.zero_add, Int.zero_add, Int.add_zero, and_true, true_and, and_false, false_and, not_true_eq_false, not_false_eq_true, eq_self, ne_eq, true_implies, false_implies, implies_true, or_true, true_or, or_false, false_or, reduceCtorEq, Option.some.injEq, Sum.inl.injEq, exists_eq_left', exists_eq_left, zite]
  refine zcnv rfl (RX_raise2 h (by decide) hg.1 hg.2 (fun M1 f1 f2 f3 => ⟨rfl, ?_⟩))
  rw [show (19 : Int).toNat = 19 by rfl] at f3
  have hfM : QF M M1 := QF.of f1
  have h1 := RX_qf h hfM
  have p0e : re0 S me qu s = true ↔ wspk (wV S me 19) qu s := by simp [re0]
  have p1e : ∀ a, re1 S me qu s a = true ↔ wspk (drS S (wbyS S me) a (wV S me 19)) qu s := fun a => by simp [re1]
  have p2e : ∀ a b, re2 S me qu s a b = true ↔ wspk (drS S (wbyS S me) b (drS S (wbyS S me) a (wV S me 19))) qu s := fun a b => by simp [re2]
  generalize re0 S me qu s = p0 at *
  generalize re1 S me qu s = p1 at *
  generalize re2 S me qu s = p2 at *
  have c2 : M1 25 qu = wV S me 19 (4 + qu) := (f3.1 qu hqu.1 hqu.2).2.1
  have c3 : M1 26 qu = wV S me 19 (8 + qu) := (f3.1 qu hqu.1 hqu.2).2.2
  have r2 := hv.1 (4 + qu) (by omega) (by omega)
  have r3 := hv.1 (8 + qu) (by omega) (by omega)
  have ends : ∀ (N : zM) (n a b : Int), (∀ k i, ¬ (27 ≤ k ∧ k ≤ 30) → N k i = M1 k i) → n = plN p0 p1 p2 (ck S) ∧ a = plA p0 p1 p2 (ck S) ∧ b = plB p0 p1 p2 (ck S) → R none (zup (zup (zup N 31 0 n) 31 1 a) 31 2 b) := by
    intro N n a b hN he
    refine hR _ (fun k i a b => ?_) ?_ ?_ ?_
    · rw [zup_ne (by omega), zup_ne (by omega), zup_ne (by omega), hN k i (by omega)]
      exact hfM k i a b
    · rw [zup_in, if_neg (by decide), zup_in, if_neg (by decide), zup_in, if_pos rfl]; exact he.1
    · rw [zup_in, if_neg (by decide), zup_in, if_pos rfl]; exact he.2.1
    · rw [zup_in, if_pos rfl]; exact he.2.2
  have yes : wspk (wV S me 19) qu s → R none (zup (zup (zup M1 31 0 0) 31 1 (-1)) 31 2 (-1)) := fun hy => by
    have := pl_0 (p1 := p1) (p2 := p2) (K := ck S) (p0e.mpr hy)
    exact ends M1 _ _ _ (fun _ _ _ => rfl) ⟨this.1.symm, this.2.1.symm, this.2.2.symm⟩
  have spk : ∀ (N : zM) (a : Nat) (b : Int) (F : zV → zM → Prop), (∀ k i, ¬ (27 ≤ k ∧ k ≤ 30) → N k i = M1 k i) → a < ck S → (b = -1 ∨ (0 ≤ b ∧ b < qn S 1)) → (∀ N', (∀ k i, ¬ (27 ≤ k ∧ k ≤ 30) → N' k i = M1 k i) → wspk (if b = -1 then drS S (wbyS S me) a (wV S me 19) else drS S (wbyS S me) b (drS S (wbyS S me) a (wV S me 19))) qu s → F (.inl 1) N') → (∀ N', (∀ k i, ¬ (27 ≤ k ∧ k ≤ 30) → N' k i = M1 k i) → ¬ wspk (if b = -1 then drS S (wbyS S me) a (wV S me 19) else drS S (wbyS S me) b (drS S (wbyS S me) a (wV S me 19))) qu s → F (.inl 0) N') → zcv (zv 7 tX7_speaksBy) [.inr (.inr 0), .inl (a : Int), .inl b, .inl qu, .inl s] N F := by
    intro N a b F hN ha hb F1 F0
    have hCN : CW S N := CW_fr h1.2.2.2.1 (fun k i hk => hN k i (by omega))
    have hPN : PV 23 N (wV S me 19) := by
      refine ⟨fun q q0 q1 => ?_, (hN _ _ (by decide)).trans f3.2.1, (hN _ _ (by decide)).trans f3.2.2⟩
      rw [hN (23 + 1) q (by decide), hN (23 + 2) q (by decide), hN (23 + 3) q (by decide)]
      exact f3.1 q q0 q1
    exact zcvv rfl (s_speaksBy hCN (by omega) hb hqu hs hPN hv ((hN _ _ (by decide)).trans f2) hby (fun N' g1 g2 => ⟨_, rfl, F1 N' (fun k i hk => (g1 k i hk).trans (hN k i hk)) g2⟩) (fun N' g1 g2 => ⟨_, rfl, F0 N' (fun k i hk => (g1 k i hk).trans (hN k i hk)) g2⟩))
  have L2 : (p0 = false) → (∀ j : Nat, j < ck S → p1 j = false) → ∀ t : Nat × Nat × zM, (t.1 < ck S ∧ t.2.1 ≤ ck S ∧ (∀ k i, ¬ (27 ≤ k ∧ k ≤ 30) → t.2.2 k i = M1 k i) ∧ (∀ i : Nat, i < t.1 → ∀ j : Nat, j < ck S → p2 i j = false) ∧ (∀ j : Nat, j < t.2.1 → p2 t.1 j = false)) → uX7_planRear R 100 [some (.inr (.inr 0)), some (.inl me), some (.inl qu), some (.inl s), some (.inl (t.1 : Int)), some (.inl (t.2.1 : Int))] [] t.2.2 := by
    intro hp0 hp1
    have nonefin : ∀ N, (∀ k i, ¬ (27 ≤ k ∧ k ≤ 30) → N k i = M1 k i) → (∀ i : Nat, i < ck S → ∀ j : Nat, j < ck S → p2 i j = false) → R none (zup (zup (zup N 31 0 (-1)) 31 1 (-1)) 31 2 (-1)) := fun N hN h3 => by
      have := pl_3 hp0 hp1 h3
      exact ends N _ _ _ hN ⟨this.1.symm, this.2.1.symm, this.2.2.symm⟩
    refine zind (fun t => (ck S - t.1) * (ck S + 1) + (ck S - t.2.1)) ?_
    rintro ⟨a, b, N⟩ ⟨ha, hb, hN, hp, hpb⟩ ih
    simp only at ha hb hN hp hpb ih
    have n1 : N 4 5 = qn S 1 := (hN _ _ (by decide)).trans h1.2.2.2.1.2.2.1
    refine rX7_planRear_100.mpr ?_
    by_cases hbe : b = ck S
    · by_cases hae : a + 1 = ck S
      · have fin := nonefin N hN (fun i hi j hj => by
          by_cases e : i = a
          · rw [e]; exact hpb j (by omega)
          · exact hp i (by omega) j hj)
        simp only [↓rX7_planRear_85, ↓rX7_planRear_87, ↓rX7_planRear_88, ↓rX7_planRear_91, ↓rX7_planRear_94, ↓rX7_planRear_150, ↓rX7_planRear_151, ↓rX7_planRear_154, ↓rX7_planRear_155, ↓rX7_planRear_156, ↓rX7_planRear_157, ↓rX7_planRear_160, ↓rX7_planRear_102, ↓rX7_planRear_103, ↓rX7_planRear_106, ↓rX7_planRear_109, ↓rX7_planRear_144, ↓rX7_planRear_147, ↓hg_fX7_116_1, ↓hg_fX7_116_4, ↓hg_fX7_22_0, ↓hg_fX7_65_0, ↓i_planBecome, ↓reduceIte, zkeep_n, zkeep_i, zkeep_r, zkeep_l, zup_eq, zIR, zLR, List.length_cons, List.length_nil, Nat.reduceAdd, Nat.reduceLeDiff, Nat.reduceEqDiff, Nat.reduceSub, Int.reduceLE, Int.reduceLT, Int.reduceEq, Int.reduceNe, Int.reduceNeg, Int.reduceAdd, Int.reduceSub, Int.reduceMul, Int.reduceToNat, Nat.le_refl, Nat.zero_le, Nat.zero_add, Int.zero_add, Int.add_zero, and_true, true_and, and_false, false_and, not_true_eq_false, not_false_eq_true, eq_self, ne_eq, true_implies, false_implies, implies_true, or_true, true_or, or_false, false_or, reduceCtorEq, Option.some.injEq, Sum.inl.injEq, exists_eq_left', exists_eq_left, n1, zite]
        repeat' (first | with_reducible apply And.intro | with_reducible intro _)
        all_goals first | omega | (exact fin)
      · have nx := ih (a + 1, 0, N) ⟨by simp only; omega, Nat.zero_le _, hN, fun i hi j hj => ?_, fun j hj => by simp at hj⟩ ?_
        · simp only [↓rX7_planRear_85, ↓rX7_planRear_87, ↓rX7_planRear_88, ↓rX7_planRear_91, ↓rX7_planRear_94, ↓rX7_planRear_97, ↓rX7_planRear_98, ↓rX7_planRear_150, ↓rX7_planRear_151, ↓rX7_planRear_154, ↓rX7_planRear_155, ↓rX7_planRear_156, ↓rX7_planRear_157, ↓rX7_planRear_160, ↓rX7_planRear_102, ↓rX7_planRear_103, ↓rX7_planRear_106, ↓rX7_planRear_109, ↓rX7_planRear_144, ↓rX7_planRear_147, ↓hg_fX7_116_1, ↓hg_fX7_116_4, ↓hg_fX7_22_0, ↓hg_fX7_65_0, ↓i_planBecome, ↓reduceIte, zkeep_n, zkeep_i, zkeep_r, zkeep_l, zup_eq, zIR, zLR, List.length_cons, List.length_nil, Nat.reduceAdd, Nat.reduceLeDiff, Nat.reduceEqDiff, Nat.reduceSub, Int.reduceLE, Int.reduceLT, Int.reduceEq, Int.reduceNe, Int.reduceNeg, Int.reduceAdd, Int.reduceSub, Int.reduceMul, Int.reduceToNat, Nat.le_refl, Nat.zero_le, Nat.zero_add, Int.zero_add, Int.add_zero, and_true, true_and, and_false, false_and, not_true_eq_false, not_false_eq_true, eq_self, ne_eq, true_implies, false_implies, implies_true, or_true, true_or, or_false, false_or, reduceCtorEq, Option.some.injEq, Sum.inl.injEq, exists_eq_left', exists_eq_left, n1, zite]
          repeat' (first | with_reducible apply And.intro | with_reducible intro _)
          all_goals first | omega | (exact nx)
        · simp only at hi
          by_cases e : i = a
          · rw [e]; exact hpb j (by omega)
          · exact hp i (by omega) j hj
        · simp only
          have e : ck S - a = (ck S - (a + 1)) + 1 := by omega
          rw [e, Nat.add_mul]
          omega
    · have call := spk N a b (fun v M => uX7_planRear R 122 [some (.inr (.inr 0)), some (.inl me), some (.inl qu), some (.inl s), some (.inl (a : Int)), some (.inl (b : Int))] [v] M) hN ha (Or.inr (by omega)) (fun N' g1 g2 => ?_) (fun N' g1 g2 => ?_)
      · simp only [↓rX7_planRear_102, ↓rX7_planRear_103, ↓rX7_planRear_106, ↓rX7_planRear_109, ↓rX7_planRear_112, ↓rX7_planRear_113, ↓rX7_planRear_115, ↓rX7_planRear_117, ↓rX7_planRear_118, ↓rX7_planRear_119, ↓hg_fX7_116_1, ↓hg_fX7_116_4, ↓hg_fX7_22_0, ↓reduceIte, zkeep_n, zkeep_i, zkeep_r, zkeep_l, zup_eq, zIR, zLR, List.length_cons, List.length_nil, Nat.reduceAdd, Nat.reduceLeDiff, Nat.reduceEqDiff, Nat.reduceSub, Int.reduceLE, Int.reduceLT, Int.reduceEq, Int.reduceNe, Int.reduceNeg, Int.reduceAdd, Int.reduceSub, Int.reduceMul, Int.reduceToNat, Nat.le_refl, Nat.zero_le, Nat.zero_add, Int.zero_add, Int.add_zero, and_true, true_and, and_false, false_and, not_true_eq_false, not_false_eq_true, eq_self, ne_eq, true_implies, false_implies, implies_true, or_true, true_or, or_false, false_or, reduceCtorEq, Option.some.injEq, Sum.inl.injEq, exists_eq_left', exists_eq_left, n1, zite]
        repeat' (first | with_reducible apply And.intro | with_reducible intro _)
        all_goals first | omega | (exact call)
      · rw [if_neg (by omega)] at g2
        have := pl_2 hp0 hp1 ha (by omega) ((p2e a b).mpr g2) hpb hp
        have fin := ends N' 2 a b g1 ⟨this.1.symm, this.2.1.symm, this.2.2.symm⟩
        simp only [↓rX7_planRear_122, ↓rX7_planRear_125, ↓rX7_planRear_126, ↓rX7_planRear_129, ↓rX7_planRear_130, ↓rX7_planRear_132, ↓rX7_planRear_134, ↓rX7_planRear_137, ↓hg_fX7_65_0, ↓i_planBecome, ↓reduceIte, zkeep_n, zkeep_i, zkeep_r, zkeep_l, zIR, zLR, List.length_cons, List.length_nil, Nat.reduceAdd, Nat.reduceLeDiff, Nat.reduceEqDiff, Nat.reduceSub, Int.reduceLE, Int.reduceLT, Int.reduceEq, Int.reduceNe, Int.reduceNeg, Int.reduceAdd, Int.reduceSub, Int.reduceMul, Int.reduceToNat, Nat.le_refl, Nat.zero_le, Nat.zero_add, Int.zero_add, Int.add_zero, and_true, true_and, and_false, false_and, not_true_eq_false, not_false_eq_true, eq_self, ne_eq, true_implies, false_implies, implies_true, or_true, true_or, or_false, false_or, reduceCtorEq, Option.some.injEq, Sum.inl.injEq, exists_eq_left', exists_eq_left, zite]
        exact fin
      · rw [if_neg (by omega)] at g2
        have nx := ih (a, b + 1, N') ⟨ha, by simp only; omega, g1, hp, fun j hj => ?_⟩ (by simp only; omega)
        · simp only [↓rX7_planRear_122, ↓rX7_planRear_138, ↓rX7_planRear_141, ↓reduceIte, zkeep_n, zkeep_i, zkeep_r, zkeep_l, zup_eq, zIR, zLR, List.length_cons, List.length_nil, Nat.reduceAdd, Nat.reduceLeDiff, Nat.reduceEqDiff, Nat.reduceSub, Int.reduceLE, Int.reduceLT, Int.reduceEq, Int.reduceNe, Int.reduceNeg, Int.reduceAdd, Int.reduceSub, Int.reduceMul, Int.reduceToNat, Nat.le_refl, Nat.zero_le, Nat.zero_add, Int.zero_add, Int.add_zero, and_true, true_and, and_false, false_and, not_true_eq_false, not_false_eq_true, eq_self, ne_eq, true_implies, false_implies, implies_true, or_true, true_or, or_false, false_or, reduceCtorEq, Option.some.injEq, Sum.inl.injEq, exists_eq_left', exists_eq_left, zite]
          exact nx
        · simp only at hj
          by_cases e : j = b
          · rw [e, ← Bool.not_eq_true, p2e]; exact g2
          · exact hpb j (by omega)
  have L1 : (p0 = false) → ∀ t : Nat × zM, (t.1 ≤ ck S ∧ (∀ k i, ¬ (27 ≤ k ∧ k ≤ 30) → t.2 k i = M1 k i) ∧ (∀ j : Nat, j < t.1 → p1 j = false)) → uX7_planRear R 40 [some (.inr (.inr 0)), some (.inl me), some (.inl qu), some (.inl s), some (.inl (t.1 : Int)), none] [] t.2 := by
    intro hp0
    refine zind (fun t => ck S - t.1) ?_
    rintro ⟨a, N⟩ ⟨ha, hN, hp⟩ ih
    simp only at ha hN hp ih
    have n1 : N 4 5 = qn S 1 := (hN _ _ (by decide)).trans h1.2.2.2.1.2.2.1
    refine rX7_planRear_40.mpr ?_
    by_cases hae : a = ck S
    · subst hae
      by_cases hz : ck S = 0
      · have := pl_3 (p2 := p2) hp0 hp (fun i hi => by omega)
        have fin := ends N (-1) (-1) (-1) hN ⟨this.1.symm, this.2.1.symm, this.2.2.symm⟩
        simp only [↓rX7_planRear_42, ↓rX7_planRear_43, ↓rX7_planRear_46, ↓rX7_planRear_49, ↓rX7_planRear_82, ↓rX7_planRear_83, ↓rX7_planRear_85, ↓rX7_planRear_87, ↓rX7_planRear_88, ↓rX7_planRear_91, ↓rX7_planRear_94, ↓rX7_planRear_150, ↓rX7_planRear_151, ↓rX7_planRear_154, ↓rX7_planRear_155, ↓rX7_planRear_156, ↓rX7_planRear_157, ↓rX7_planRear_160, ↓hg_fX7_116_1, ↓hg_fX7_116_4, ↓hg_fX7_22_0, ↓hg_fX7_65_0, ↓i_planBecome, ↓reduceIte, zkeep_n, zkeep_i, zkeep_r, zkeep_l, zup_eq, zIR, zLR, List.length_cons, List.length_nil, Nat.reduceAdd, Nat.reduceLeDiff, Nat.reduceEqDiff, Nat.reduceSub, Int.reduceLE, Int.reduceLT, Int.reduceEq, Int.reduceNe, Int.reduceNeg, Int.reduceAdd, Int.reduceSub, Int.reduceMul, Int.reduceToNat, Nat.le_refl, Nat.zero_le, Nat.zero_add, Int.zero_add, Int.add_zero, and_true, true_and, and_false, false_and, not_true_eq_false, not_false_eq_true, eq_self, ne_eq, true_implies, false_implies, implies_true, or_true, true_or, or_false, false_or, reduceCtorEq, Option.some.injEq, Sum.inl.injEq, exists_eq_left', exists_eq_left, n1, zite]
        repeat' (first | with_reducible apply And.intro | with_reducible intro _)
        all_goals first | omega | (exact fin)
      · have nx := L2 hp0 hp (0, 0, N) ⟨by simp only; omega, Nat.zero_le _, hN, fun i hi => by simp at hi, fun j hj => by simp at hj⟩
        simp only [↓rX7_planRear_42, ↓rX7_planRear_43, ↓rX7_planRear_46, ↓rX7_planRear_49, ↓rX7_planRear_82, ↓rX7_planRear_83, ↓rX7_planRear_85, ↓rX7_planRear_87, ↓rX7_planRear_88, ↓rX7_planRear_91, ↓rX7_planRear_94, ↓rX7_planRear_97, ↓rX7_planRear_98, ↓rX7_planRear_150, ↓rX7_planRear_151, ↓rX7_planRear_154, ↓rX7_planRear_155, ↓rX7_planRear_156, ↓rX7_planRear_157, ↓rX7_planRear_160, ↓hg_fX7_116_1, ↓hg_fX7_116_4, ↓hg_fX7_22_0, ↓hg_fX7_65_0, ↓i_planBecome, ↓reduceIte, zkeep_n, zkeep_i, zkeep_r, zkeep_l, zup_eq, zIR, zLR, List.length_cons, List.length_nil, Nat.reduceAdd, Nat.reduceLeDiff, Nat.reduceEqDiff, Nat.reduceSub, Int.reduceLE, Int.reduceLT, Int.reduceEq, Int.reduceNe, Int.reduceNeg, Int.reduceAdd, Int.reduceSub, Int.reduceMul, Int.reduceToNat, Nat.le_refl, Nat.zero_le, Nat.zero_add, Int.zero_add, Int.add_zero, and_true, true_and, and_false, false_and, not_true_eq_false, not_false_eq_true, eq_self, ne_eq, true_implies, false_implies, implies_true, or_true, true_or, or_false, false_or, reduceCtorEq, Option.some.injEq, Sum.inl.injEq, exists_eq_left', exists_eq_left, n1, zite]
        repeat' (first | with_reducible apply And.intro | with_reducible intro _)
        all_goals first | omega | (exact nx)
    · have call := spk N a (-1) (fun v M => uX7_planRear R 61 [some (.inr (.inr 0)), some (.inl me), some (.inl qu), some (.inl s), some (.inl (a : Int)), none] [v] M) hN (by omega) (Or.inl rfl) (fun N' g1 g2 => ?_) (fun N' g1 g2 => ?_)
      · simp only [↓rX7_planRear_42, ↓rX7_planRear_43, ↓rX7_planRear_46, ↓rX7_planRear_49, ↓rX7_planRear_52, ↓rX7_planRear_53, ↓rX7_planRear_55, ↓rX7_planRear_56, ↓rX7_planRear_57, ↓rX7_planRear_58, ↓hg_fX7_116_1, ↓hg_fX7_116_4, ↓hg_fX7_22_0, ↓reduceIte, zkeep_n, zkeep_i, zkeep_r, zkeep_l, zup_eq, zIR, zLR, List.length_cons, List.length_nil, Nat.reduceAdd, Nat.reduceLeDiff, Nat.reduceEqDiff, Nat.reduceSub, Int.reduceLE, Int.reduceLT, Int.reduceEq, Int.reduceNe, Int.reduceNeg, Int.reduceAdd, Int.reduceSub, Int.reduceMul, Int.reduceToNat, Nat.le_refl, Nat.zero_le, Nat.zero_add, Int.zero_add, Int.add_zero, and_true, true_and, and_false, false_and, not_true_eq_false, not_false_eq_true, eq_self, ne_eq, true_implies, false_implies, implies_true, or_true, true_or, or_false, false_or, reduceCtorEq, Option.some.injEq, Sum.inl.injEq, exists_eq_left', exists_eq_left, n1, zite]
        repeat' (first | with_reducible apply And.intro | with_reducible intro _)
        all_goals first | omega | (exact call)
      · rw [if_pos rfl] at g2
        have := pl_1 (K := ck S) (a := a) (p2 := p2) hp0 (by omega) ((p1e a).mpr g2) hp
        have fin := ends N' 1 a (-1) g1 ⟨this.1.symm, this.2.1.symm, this.2.2.symm⟩
        simp only [↓rX7_planRear_61, ↓rX7_planRear_64, ↓rX7_planRear_65, ↓rX7_planRear_68, ↓rX7_planRear_69, ↓rX7_planRear_71, ↓rX7_planRear_72, ↓rX7_planRear_75, ↓hg_fX7_65_0, ↓i_planBecome, ↓reduceIte, zkeep_n, zkeep_i, zkeep_r, zkeep_l, zIR, zLR, List.length_cons, List.length_nil, Nat.reduceAdd, Nat.reduceLeDiff, Nat.reduceEqDiff, Nat.reduceSub, Int.reduceLE, Int.reduceLT, Int.reduceEq, Int.reduceNe, Int.reduceNeg, Int.reduceAdd, Int.reduceSub, Int.reduceMul, Int.reduceToNat, Nat.le_refl, Nat.zero_le, Nat.zero_add, Int.zero_add, Int.add_zero, and_true, true_and, and_false, false_and, not_true_eq_false, not_false_eq_true, eq_self, ne_eq, true_implies, false_implies, implies_true, or_true, true_or, or_false, false_or, reduceCtorEq, Option.some.injEq, Sum.inl.injEq, exists_eq_left', exists_eq_left, zite]
        exact fin
      · rw [if_pos rfl] at g2
        have nx := ih (a + 1, N') ⟨by simp only; omega, g1, fun j hj => ?_⟩ (by simp only; omega)
        · simp only [↓rX7_planRear_61, ↓rX7_planRear_76, ↓rX7_planRear_79, ↓reduceIte, zkeep_n, zkeep_i, zkeep_r, zkeep_l, zup_eq, zIR, zLR, List.length_cons, List.length_nil, Nat.reduceAdd, Nat.reduceLeDiff, Nat.reduceEqDiff, Nat.reduceSub, Int.reduceLE, Int.reduceLT, Int.reduceEq, Int.reduceNe, Int.reduceNeg, Int.reduceAdd, Int.reduceSub, Int.reduceMul, Int.reduceToNat, Nat.le_refl, Nat.zero_le, Nat.zero_add, Int.zero_add, Int.add_zero, and_true, true_and, and_false, false_and, not_true_eq_false, not_false_eq_true, eq_self, ne_eq, true_implies, false_implies, implies_true, or_true, true_or, or_false, false_or, reduceCtorEq, Option.some.injEq, Sum.inl.injEq, exists_eq_left', exists_eq_left, zite]
          exact nx
        · simp only at hj
          by_cases e : j = a
          · rw [e, ← Bool.not_eq_true, p1e]; exact g2
          · exact hp j (by omega)
  have no : ¬ wspk (wV S me 19) qu s → uX7_planRear R 40 [some (.inr (.inr 0)), some (.inl me), some (.inl qu), some (.inl s), some (.inl 0), none] [] M1 := fun hn => L1 (by rw [← Bool.not_eq_true, p0e]; exact hn) (0, M1) ⟨Nat.zero_le _, fun _ _ _ => rfl, fun j hj => by simp at hj⟩
  simp only [↓rX7_planRear_14, ↓rX7_planRear_15, ↓rX7_planRear_18, ↓rX7_planRear_19, ↓rX7_planRear_20, ↓rX7_planRear_23, ↓rX7_planRear_26, ↓rX7_planRear_27, ↓rX7_planRear_30, ↓rX7_planRear_31, ↓rX7_planRear_32, ↓rX7_planRear_33, ↓rX7_planRear_36, ↓rX7_planRear_37, ↓rX7_planRear_38, ↓hg_fX7_55_0, ↓hg_fX7_65_0, ↓i_planBecome, ↓i_speaks23, ↓i_speaks27, ↓reduceIte, zkeep_n, zkeep_i, zkeep_r, zkeep_l, zIR, zLR, List.length_cons, List.length_nil, Nat.reduceAdd, Nat.reduceLeDiff, Nat.reduceEqDiff, Nat.reduceSub, Int.reduceLE, Int.reduceLT, Int.reduceEq, Int.reduceNe, Int.reduceNeg, Int.reduceAdd, Int.reduceSub, Int.reduceMul, Int.reduceToNat, Nat.le_refl, Nat.zero_le, Nat.zero_add, Int.zero_add, Int.add_zero, and_true, true_and, and_false, false_and, not_true_eq_false, not_false_eq_true, eq_self, ne_eq, true_implies, false_implies, implies_true, or_true, true_or, or_false, false_or, reduceCtorEq, Option.some.injEq, Sum.inl.injEq, exists_eq_left', exists_eq_left, c2, c3, zite]
  repeat' (first | with_reducible apply And.intro | with_reducible intro _)
  all_goals first | omega | (exact yes (by omega)) | (exact no (by omega))
def aRear (S : zM) (me qu s i : Int) : Int := if (0 ≤ me ∧ me < qn S 0) ∧ (0 ≤ qu ∧ qu < 4) ∧ (0 ≤ s ∧ s < 10) ∧ (-1 ≤ i ∧ i ≤ 1) then (if i = -1 then plN (re0 S me qu s) (re1 S me qu s) (re2 S me qu s) (ck S) else if i = 0 then plA (re0 S me qu s) (re1 S me qu s) (re2 S me qu s) (ck S) else plB (re0 S me qu s) (re1 S me qu s) (re2 S me qu s) (ck S)) else -2
set_option maxRecDepth 100000 in
set_option maxHeartbeats 4000000 in
theorem x_rear {S M : zM} {R : zP} {me qu s i : Int} (h : RX S M) (z1 : zIR me) (z2 : zIR qu) (z3 : zIR s) (z4 : zIR i) (hR : ∀ M', QF M M' → R (some (.inl (aRear S me qu s i))) M') : tX7_rear [.inr (.inr 0), .inl me, .inl qu, .inl s, .inl i] M R := by
  have hqn := (h.2.2.2.1.1 0 (by decide)).1
  have n1 := h.2.2.2.1.2.1
  unfold zIR at z1 z2 z3 z4
  have bad : ¬ ((0 ≤ me ∧ me < qn S 0) ∧ (0 ≤ qu ∧ qu < 4) ∧ (0 ≤ s ∧ s < 10) ∧ (-1 ≤ i ∧ i ≤ 1)) → R (some (.inl (-2))) M := fun hb => by
    have := hR M QF.rfl
    unfold aRear at this
    rw [if_neg hb] at this
    exact this
  have call : ((0 ≤ me ∧ me < qn S 0) ∧ (0 ≤ qu ∧ qu < 4) ∧ (0 ≤ s ∧ s < 10) ∧ (-1 ≤ i ∧ i ≤ 1)) → zcn (zv 7 tX7_planRear) [.inr (.inr 0), .inl me, .inl qu, .inl s] M (fun M' => uX7_rear R 53 [some (.inr (.inr 0)), some (.inl me), some (.inl qu), some (.inl s), some (.inl i)] [] M') := by
    intro hg
    unfold aRear at hR
    rw [if_pos hg] at hR
    refine zcnv rfl (s_planRear h hg.1 hg.2.1 hg.2.2.1 (fun M' f1 e0 e1 e2 => ⟨rfl, ?_⟩))
    have fin := hR M' f1
    simp only [↓rX7_rear_53, ↓rX7_rear_54, ↓rX7_rear_57, ↓rX7_rear_59, ↓rX7_rear_62, ↓hg_fX7_65_0, ↓i_planTell, ↓reduceIte, zkeep_n, zkeep_i, zkeep_r, zkeep_l, zup_eq, zIR, zLR, List.length_cons, List.length_nil, Nat.reduceAdd, Nat.reduceLeDiff, Nat.reduceEqDiff, Nat.reduceSub, Int.reduceLE, Int.reduceLT, Int.reduceEq, Int.reduceNe, Int.reduceNeg, Int.reduceAdd, Int.reduceSub, Int.reduceMul, Int.reduceToNat, Nat.le_refl, Nat.zero_le, Nat.zero_add, Int.zero_add, Int.add_zero, and_true, true_and, and_false, false_and, not_true_eq_false, not_false_eq_true, eq_self, ne_eq, true_implies, false_implies, implies_true, or_true, true_or, or_false, false_or, reduceCtorEq, Option.some.injEq, Sum.inl.injEq, exists_eq_left', exists_eq_left, e0, e1, e2, zite]
    repeat' (first | with_reducible apply And.intro | with_reducible intro _)
    all_goals first | omega | (rw [if_pos (by omega)] at fin; exact fin) | (rw [if_neg (by omega), if_pos (by omega)] at fin; exact fin) | (rw [if_neg (by omega), if_neg (by omega)] at fin; exact fin)
  simp only [↓eX7_rear, ↓rX7_rear_0, ↓rX7_rear_1, ↓rX7_rear_2, ↓rX7_rear_5, ↓rX7_rear_8, ↓rX7_rear_11, ↓rX7_rear_14, ↓rX7_rear_15, ↓rX7_rear_16, ↓rX7_rear_19, ↓rX7_rear_22, ↓rX7_rear_23, ↓rX7_rear_25, ↓rX7_rear_28, ↓rX7_rear_31, ↓rX7_rear_33, ↓rX7_rear_34, ↓rX7_rear_37, ↓rX7_rear_39, ↓rX7_rear_40, ↓rX7_rear_43, ↓rX7_rear_45, ↓rX7_rear_46, ↓rX7_rear_47, ↓rX7_rear_48, ↓rX7_rear_49, ↓rX7_rear_50, ↓hg_fX7_116_1, ↓hg_fX7_116_4, ↓hg_fX7_14_0, ↓i_outside, ↓reduceIte, zkeep_n, zkeep_i, zkeep_r, zkeep_l, zup_eq, zIR, zLR, List.length_cons, List.length_nil, Nat.reduceAdd, Nat.reduceLeDiff, Nat.reduceEqDiff, Nat.reduceSub, Int.reduceLE, Int.reduceLT, Int.reduceEq, Int.reduceNe, Int.reduceNeg, Int.reduceAdd, Int.reduceSub, Int.reduceMul, Int.reduceToNat, Nat.le_refl, Nat.zero_le, Nat.zero_add, Int.zero_add, Int.add_zero, and_true, true_and, and_false, false_and, not_true_eq_false, not_false_eq_true, eq_self, ne_eq, true_implies, false_implies, implies_true, or_true, true_or, or_false, false_or, reduceCtorEq, Option.some.injEq, Sum.inl.injEq, exists_eq_left', exists_eq_left, n1, zite]
  repeat' (first | with_reducible apply And.intro | with_reducible intro _)
  all_goals first | omega | (exact bad (by omega)) | (exact call (by omega))
