def drS (S : zM) (by_ a : Int) (v : Int → Int) : Int → Int := wdrink by_ (qfact S 1 a 0) (fun q => qfact S 1 a (1 + q)) v
theorem vokb_drS {S : zM} {by_ a b : Int} {v : Int → Int} (hq : QR S) (hb : 0 ≤ by_) (h0 : 0 ≤ a) (h1 : a < qn S 1) (hv : vokb b v) : vokb (b + 4) (drS S by_ a v) := vokb_drink hv hb (fun q q0 q1 => ((hq 1 (by decide)).2 a h0 h1).2.2 (1 + q) (by omega) (by omega))
theorem s_drS23 {S M : zM} {R : zP} {a by_ b : Int} {v : Int → Int} (hC : CW S M) (h0 : 0 ≤ a) (h1 : a < qn S 1) (hP : PV 23 M v) (hv : vokb b v) (hb1 : b ≤ 1000) (hby : M 23 4 = by_) (hb : 0 ≤ by_ ∧ by_ ≤ 2)
    (hR : ∀ M', (∀ k i, ¬ (23 ≤ k ∧ k ≤ 26) → M' k i = M k i) → M' 23 4 = by_ → PV 23 M' (drS S by_ a v) → R none M') : tX3_drink [.inr (.inr 23), .inr (.inr 4), .inl a] M R := by
  have hq1 := (hC.1 1 (by decide)).1
  refine s_drink23 (by unfold zIR; omega) (by rw [hC.2.2.1]; exact hq1) (CW_milk hC) hP (vokb_ok hv hb1) hby hb (fun M' g1 g2 g3 => hR M' (fun k i hk => g1 k i (by omega) (by omega) (by omega) (by omega)) g2 ?_)
  rw [hC.2.2.1, if_pos ⟨h0, h1⟩] at g3
  have ew := hC.2.2.2.2 a 0 h0 h1 (by decide) (by decide)
  rw [Int.add_zero] at ew
  rw [ew] at g3
  rw [wdrink_congr (mi' := fun q => qfact S 1 a (1 + q)) (fun q q0 q1 => by
    have := hC.2.2.2.2 a (1 + q) h0 h1 (by omega) (by omega)
    rw [← this]
    congr 1
    omega)] at g3
  exact g3
theorem s_drS27 {S M : zM} {R : zP} {a by_ b : Int} {v : Int → Int} (hC : CW S M) (h0 : 0 ≤ a) (h1 : a < qn S 1) (hP : PV 27 M v) (hv : vokb b v) (hb1 : b ≤ 1000) (hby : M 27 4 = by_) (hb : 0 ≤ by_ ∧ by_ ≤ 2)
    (hR : ∀ M', (∀ k i, ¬ (27 ≤ k ∧ k ≤ 30) → M' k i = M k i) → M' 27 4 = by_ → PV 27 M' (drS S by_ a v) → R none M') : tX3_drink [.inr (.inr 27), .inr (.inr 4), .inl a] M R := by
  have hq1 := (hC.1 1 (by decide)).1
  refine s_drink27 (by unfold zIR; omega) (by rw [hC.2.2.1]; exact hq1) (CW_milk hC) hP (vokb_ok hv hb1) hby hb (fun M' g1 g2 g3 => hR M' (fun k i hk => g1 k i (by omega) (by omega) (by omega) (by omega)) g2 ?_)
  rw [hC.2.2.1, if_pos ⟨h0, h1⟩] at g3
  have ew := hC.2.2.2.2 a 0 h0 h1 (by decide) (by decide)
  rw [Int.add_zero] at ew
  rw [ew] at g3
  rw [wdrink_congr (mi' := fun q => qfact S 1 a (1 + q)) (fun q q0 q1 => by
    have := hC.2.2.2.2 a (1 + q) h0 h1 (by omega) (by omega)
    rw [← this]
    congr 1
    omega)] at g3
  exact g3
abbrev wspk (v : Int → Int) (q s : Int) : Prop := v (4 + q) ≤ s ∧ s ≤ v (8 + q)
set_option maxRecDepth 100000 in
set_option maxHeartbeats 4000000 in
theorem s_speaksBy {S M : zM} {R : zP} {a b q s by_ : Int} {v : Int → Int} (hC : CW S M) (ha : 0 ≤ a ∧ a < qn S 1) (hb : b = -1 ∨ (0 ≤ b ∧ b < qn S 1)) (hq : 0 ≤ q ∧ q < 4) (hs : 0 ≤ s ∧ s < 10) (hP : PV 23 M v) (hv : vokb 32 v) (hby : M 23 4 = by_) (hbR : 0 ≤ by_ ∧ by_ ≤ 2)
    (h1 : ∀ M', (∀ k i, ¬ (27 ≤ k ∧ k ≤ 30) → M' k i = M k i) → wspk (if b = -1 then drS S by_ a v else drS S by_ b (drS S by_ a v)) q s → R (some (.inl 1)) M')
    (h0 : ∀ M', (∀ k i, ¬ (27 ≤ k ∧ k ≤ 30) → M' k i = M k i) → ¬ wspk (if b = -1 then drS S by_ a v else drS S by_ b (drS S by_ a v)) q s → R (some (.inl 0)) M') : tX7_speaksBy [.inr (.inr 0), .inl a, .inl b, .inl q, .inl s] M R := by
  have hq1 := (hC.1 1 (by decide)).1
  have hq' := hC.1
  have fin : ∀ M', (∀ k i, ¬ (27 ≤ k ∧ k ≤ 30) → M' k i = M k i) → PV 27 M' (if b = -1 then drS S by_ a v else drS S by_ b (drS S by_ a v)) → vokb 40 (if b = -1 then drS S by_ a v else drS S by_ b (drS S by_ a v)) → uX7_speaksBy R 40 [some (.inr (.inr 0)), some (.inl a), some (.inl b), some (.inl q), some (.inl s)] [] M' := by
    intro M' f1 f2 f3
    have h1 := h1 M' f1
    have h0 := h0 M' f1
    generalize (if b = -1 then drS S by_ a v else drS S by_ b (drS S by_ a v)) = w at *
    have c2 : M' 29 q = w (4 + q) := (f2.1 q hq.1 hq.2).2.1
    have c3 : M' 30 q = w (8 + q) := (f2.1 q hq.1 hq.2).2.2
    have r2 := f3.1 (4 + q) (by omega) (by omega)
    have r3 := f3.1 (8 + q) (by omega) (by omega)
    simp only [↓rX7_speaksBy_40, ↓rX7_speaksBy_41, ↓rX7_speaksBy_44, ↓rX7_speaksBy_45, ↓rX7_speaksBy_47, ↓rX7_speaksBy_50, ↓hg_fX7_59_0, ↓i_speaks23, ↓i_speaks27, ↓reduceIte, zkeep_n, zkeep_i, zkeep_r, zkeep_l, zup_eq, zIR, zLR, List.length_cons, List.length_nil, Nat.reduceAdd, Nat.reduceLeDiff, Nat.reduceEqDiff, Nat.reduceSub, Int.reduceLE, Int.reduceLT, Int.reduceEq, Int.reduceNe, Int.reduceNeg, Int.reduceAdd, Int.reduceSub, Int.reduceMul, Int.reduceToNat, Nat.le_refl, Nat.zero_le, Nat.zero_add, Int.zero_add, Int.add_zero, and_true, true_and, and_false, false_and, not_true_eq_false, not_false_eq_true, eq_self, ne_eq, true_implies, false_implies, implies_true, or_true, true_or, or_false, false_or, reduceCtorEq, Option.some.injEq, Sum.inl.injEq, exists_eq_left', exists_eq_left, c2, c3, zite]
    repeat' (first | with_reducible apply And.intro | with_reducible intro _)
    all_goals first | omega | (exact h0 (by omega)) | (exact h1 (by omega))
  simp only [↓eX7_speaksBy, ↓rX7_speaksBy_0, ↓rX7_speaksBy_1, ↓rX7_speaksBy_4, ↓rX7_speaksBy_5, ↓rX7_speaksBy_8, ↓hg_fX7_55_0, ↓hg_fX7_59_0, ↓reduceIte, zkeep_n, zkeep_i, zkeep_r, zkeep_l, zup_eq, zIR, zLR, List.length_cons, List.length_nil, Nat.reduceAdd, Nat.reduceLeDiff, Nat.reduceEqDiff, Nat.reduceSub, Int.reduceLE, Int.reduceLT, Int.reduceEq, Int.reduceNe, Int.reduceNeg, Int.reduceAdd, Int.reduceSub, Int.reduceMul, Int.reduceToNat, Nat.le_refl, Nat.zero_le, Nat.zero_add, Int.zero_add, Int.add_zero, and_true, true_and, and_false, false_and, not_true_eq_false, not_false_eq_true, eq_self, ne_eq, true_implies, false_implies, implies_true, or_true, true_or, or_false, false_or, reduceCtorEq, Option.some.injEq, Sum.inl.injEq, exists_eq_left', exists_eq_left, zite]
  refine zcnv rfl (s_resemble hP (fun M1 f1 f2 f3 => ⟨rfl, ?_⟩))
  simp only [↓rX7_speaksBy_11, ↓rX7_speaksBy_12, ↓rX7_speaksBy_15, ↓rX7_speaksBy_16, ↓rX7_speaksBy_19, ↓rX7_speaksBy_20, ↓hg_fX7_22_0, ↓hg_fX7_59_0, ↓reduceIte, zkeep_n, zkeep_i, zkeep_r, zkeep_l, zup_eq, zIR, zLR, List.length_cons, List.length_nil, Nat.reduceAdd, Nat.reduceLeDiff, Nat.reduceEqDiff, Nat.reduceSub, Int.reduceLE, Int.reduceLT, Int.reduceEq, Int.reduceNe, Int.reduceNeg, Int.reduceAdd, Int.reduceSub, Int.reduceMul, Int.reduceToNat, Nat.le_refl, Nat.zero_le, Nat.zero_add, Int.zero_add, Int.add_zero, and_true, true_and, and_false, false_and, not_true_eq_false, not_false_eq_true, eq_self, ne_eq, true_implies, false_implies, implies_true, or_true, true_or, or_false, false_or, reduceCtorEq, Option.some.injEq, Sum.inl.injEq, exists_eq_left', exists_eq_left, zite]
  have hC1 : CW S M1 := CW_fr hC (fun k i hk => f1 k i (by omega) (by omega) (by omega) (by omega))
  refine zcnv rfl (s_drS27 hC1 ha.1 ha.2 f3 hv (by decide) (f2.trans hby) hbR (fun M2 g1 g2 g3 => ⟨rfl, ?_⟩))
  have hfr2 : ∀ k i, ¬ (27 ≤ k ∧ k ≤ 30) → M2 k i = M k i := fun k i hk => (g1 k i hk).trans (f1 k i (by omega) (by omega) (by omega) (by omega))
  have hv1 := vokb_drS hq' hbR.1 ha.1 ha.2 hv
  have one : b = -1 → uX7_speaksBy R 40 [some (.inr (.inr 0)), some (.inl a), some (.inl b), some (.inl q), some (.inl s)] [] M2 := fun hb1 => fin M2 hfr2 (by rw [if_pos hb1]; exact g3) (by rw [if_pos hb1]; exact ⟨hv1.1, hv1.2.1, hv1.2.2.1, hv1.2.2.2.1, by have := hv1.2.2.2.2; omega⟩)
  have two : ¬ b = -1 → zcn (zv 3 tX3_drink) [.inr (.inr 27), .inr (.inr 4), .inl b] M2 (fun M' => uX7_speaksBy R 40 [some (.inr (.inr 0)), some (.inl a), some (.inl b), some (.inl q), some (.inl s)] [] M') := fun hb1 => by
    have hb2 : 0 ≤ b ∧ b < qn S 1 := by omega
    have hC2 : CW S M2 := CW_fr hC (fun k i hk => hfr2 k i (by omega))
    refine zcnv rfl (s_drS27 hC2 hb2.1 hb2.2 g3 hv1 (by decide) g2 hbR (fun M3 k1 k2 k3 => ⟨rfl, ?_⟩))
    have hv2 := vokb_drS hq' hbR.1 hb2.1 hb2.2 hv1
    exact fin M3 (fun k i hk => (k1 k i hk).trans (hfr2 k i hk)) (by rw [if_neg hb1]; exact k3) (by rw [if_neg hb1]; exact hv2)
  simp only [↓rX7_speaksBy_23, ↓rX7_speaksBy_24, ↓rX7_speaksBy_25, ↓rX7_speaksBy_28, ↓rX7_speaksBy_29, ↓rX7_speaksBy_32, ↓rX7_speaksBy_33, ↓rX7_speaksBy_36, ↓rX7_speaksBy_37, ↓hg_fX7_22_0, ↓hg_fX7_59_0, ↓reduceIte, zkeep_n, zkeep_i, zkeep_r, zkeep_l, zup_eq, zIR, zLR, List.length_cons, List.length_nil, Nat.reduceAdd, Nat.reduceLeDiff, Nat.reduceEqDiff, Nat.reduceSub, Int.reduceLE, Int.reduceLT, Int.reduceEq, Int.reduceNe, Int.reduceNeg, Int.reduceAdd, Int.reduceSub, Int.reduceMul, Int.reduceToNat, Nat.le_refl, Nat.zero_le, Nat.zero_add, Int.zero_add, Int.add_zero, and_true, true_and, and_false, false_and, not_true_eq_false, not_false_eq_true, eq_self, ne_eq, true_implies, false_implies, implies_true, or_true, true_or, or_false, false_or, reduceCtorEq, Option.some.injEq, Sum.inl.injEq, exists_eq_left', exists_eq_left, zite]
  repeat' (first | with_reducible apply And.intro | with_reducible intro _)
  all_goals first | omega | (exact one (by omega)) | (exact two (by omega))
def plAny (p2 : Nat → Nat → Bool) (K : Nat) : Int := wlst (fun a => (List.range K).any (fun b => p2 a b)) K
def plN (p0 : Bool) (p1 : Nat → Bool) (p2 : Nat → Nat → Bool) (K : Nat) : Int := if p0 = true then 0 else if wlst p1 K ≠ -1 then 1 else if plAny p2 K ≠ -1 then 2 else -1
def plA (p0 : Bool) (p1 : Nat → Bool) (p2 : Nat → Nat → Bool) (K : Nat) : Int := if p0 = true then -1 else if wlst p1 K ≠ -1 then wlst p1 K else plAny p2 K
def plB (p0 : Bool) (p1 : Nat → Bool) (p2 : Nat → Nat → Bool) (K : Nat) : Int := if p0 = true then -1 else if wlst p1 K ≠ -1 then -1 else if plAny p2 K ≠ -1 then wlst (p2 (plAny p2 K).toNat) K else -1
theorem pl_0 {p1 : Nat → Bool} {p2 : Nat → Nat → Bool} {K : Nat} {p0 : Bool} (h : p0 = true) : plN p0 p1 p2 K = 0 ∧ plA p0 p1 p2 K = -1 ∧ plB p0 p1 p2 K = -1 := by
  simp [plN, plA, plB, h]
theorem pl_1 {p1 : Nat → Bool} {p2 : Nat → Nat → Bool} {K a : Nat} {p0 : Bool} (h : p0 = false) (ha : a < K) (h1 : p1 a = true) (h2 : ∀ j : Nat, j < a → p1 j = false) : plN p0 p1 p2 K = 1 ∧ plA p0 p1 p2 K = a ∧ plB p0 p1 p2 K = -1 := by
  have e := wlst_found h1 h2 K ha
  have : ¬ ((a : Int) = -1) := by omega
  simp [plN, plA, plB, h, e, this]
theorem pl_2 {p1 : Nat → Bool} {p2 : Nat → Nat → Bool} {K a b : Nat} {p0 : Bool} (h : p0 = false) (hn : ∀ j : Nat, j < K → p1 j = false) (ha : a < K) (hb : b < K) (h1 : p2 a b = true) (h2 : ∀ j : Nat, j < b → p2 a j = false) (h3 : ∀ i : Nat, i < a → ∀ j : Nat, j < K → p2 i j = false) : plN p0 p1 p2 K = 2 ∧ plA p0 p1 p2 K = a ∧ plB p0 p1 p2 K = b := by
  have e1 := wlst_none K hn
  have e2 : plAny p2 K = a := wlst_found (p := fun a => (List.range K).any (fun b => p2 a b)) (by
      rw [List.any_eq_true]
      exact ⟨b, List.mem_range.mpr hb, h1⟩) (fun i hi => by
      rw [List.any_eq_false]
      intro j hj
      simp [h3 i hi j (List.mem_range.mp hj)]) _ ha
  have e3 := wlst_found h1 h2 K hb
  have : ¬ ((a : Int) = -1) := by omega
  simp [plN, plA, plB, h, e1, e2, e3, this]
theorem pl_3 {p1 : Nat → Bool} {p2 : Nat → Nat → Bool} {K : Nat} {p0 : Bool} (h : p0 = false) (hn : ∀ j : Nat, j < K → p1 j = false) (h3 : ∀ i : Nat, i < K → ∀ j : Nat, j < K → p2 i j = false) : plN p0 p1 p2 K = -1 ∧ plA p0 p1 p2 K = -1 ∧ plB p0 p1 p2 K = -1 := by
  have e1 := wlst_none K hn
  have e2 : plAny p2 K = -1 := wlst_none _ (fun i hi => by
      rw [List.any_eq_false]
      intro j hj
      simp [h3 i hi j (List.mem_range.mp hj)])
  simp [plN, plA, plB, h, e1, e2]
