theorem wbad_congr {wa : Int} {mi mi' v : Int → Int} (h : ∀ q, 0 ≤ q → q < 4 → mi q = mi' q) : ∀ q : Nat, q ≤ 4 → wbad wa mi v q = wbad wa mi' v q
  | 0, _ => rfl
  | q + 1, hq => by
    unfold wbad
    rw [wbad_congr h q (by omega)]
    simp only [wsick, h q (by omega) (by omega)]
theorem wdrink_congr {by_ wa : Int} {mi mi' v : Int → Int} (h : ∀ q, 0 ≤ q → q < 4 → mi q = mi' q) : wdrink by_ wa mi v = wdrink by_ wa mi' v := by
  funext j
  have hb := wbad_congr (wa := wa) (v := v) h 4 (Nat.le_refl _)
  unfold wdrink
  by_cases c1 : 0 ≤ j ∧ j < 4
  · simp only [if_pos c1, wsick, h j c1.1 c1.2]
  · by_cases c2 : 4 ≤ j ∧ j < 8
    · simp only [if_neg c1, if_pos c2, wsick, h (j - 4) (by omega) (by omega)]
    · by_cases c3 : 8 ≤ j ∧ j < 12
      · simp only [if_neg c1, if_neg c2, if_pos c3, wsick, h (j - 8) (by omega) (by omega)]
      · simp only [if_neg c1, if_neg c2, if_neg c3, hb]
theorem wstart_congr {so : Int} {fi fi' : Int → Int} (h : ∀ q, 0 ≤ q → q < 4 → fi q = fi' q) : wstart so fi = wstart so fi' := by
  funext j
  unfold wstart
  by_cases c1 : 0 ≤ j ∧ j < 4
  · simp only [if_pos c1, h j c1.1 c1.2]
  · by_cases c2 : 4 ≤ j ∧ j < 8
    · simp only [if_neg c1, if_pos c2, h (j - 4) (by omega) (by omega)]
    · by_cases c3 : 8 ≤ j ∧ j < 12
      · simp only [if_neg c1, if_neg c2, if_pos c3, h (j - 8) (by omega) (by omega)]
      · simp only [if_neg c1, if_neg c2, if_neg c3]
def QR (S : zM) : Prop := ∀ k : Nat, k < 2 → (0 ≤ qn S k ∧ qn S k ≤ 8) ∧ ∀ i, 0 ≤ i → i < qn S k → (0 ≤ qfact S k i 0 ∧ qfact S k i 0 ≤ 2) ∧ (k = 1 → qfact S k i 0 ≤ 1) ∧ ∀ j, 1 ≤ j → j < 5 → 0 ≤ qfact S k i j ∧ qfact S k i j ≤ 9
def FX (S : zM) (k c : Nat) (M : zM) : Prop := ∀ i j, 0 ≤ i → i < qn S k → 0 ≤ j → j < 5 → M c (i * 5 + j) = qfact S k i j
def CW (S M : zM) : Prop := QR S ∧ M 1 5 = qn S 0 ∧ M 4 5 = qn S 1 ∧ FX S 0 3 M ∧ FX S 1 6 M
def FR (c n : Nat) (g M : zM) : Prop := M c 4 = n ∧ n ≤ 8 ∧ LA M (c + 4) (qord n (g 1)) ∧ ∀ f : Nat, f < n → (M (c + 1) f = g 1 f ∧ 0 ≤ g 1 f ∧ g 1 f < 20) ∧ (M (c + 2) f = g 2 f ∧ 0 ≤ g 2 f ∧ g 2 f < 8) ∧ (M (c + 3) f = g 3 f ∧ 0 ≤ g 3 f ∧ g 3 f < 8)
def kpm (kept f : Int) : Bool := decide (zand (zshr kept f) 1 ≠ 0)
theorem kpm_t {kept f : Int} (h : ¬ zand (zshr kept f) 1 = 0) : kpm kept f = true := by simp [kpm, h]
theorem kpm_f {kept f : Int} (h : zand (zshr kept f) 1 = 0) : kpm kept f = false := by simp [kpm, h]
theorem zI32 (x : Int32) : -2147483648 ≤ x.toInt ∧ x.toInt ≤ 2147483647 := ⟨x.minValue_le_toInt, x.toInt_le⟩
theorem zand_R (a b : Int) : -2147483648 ≤ zand a b ∧ zand a b ≤ 2147483647 := zI32 _
theorem CW_milk {S M : zM} (h : CW S M) : ∀ i, 0 ≤ i → i < 5 * M 4 5 → 0 ≤ M 6 i ∧ M 6 i ≤ 9 := by
  obtain ⟨hq, _, h4, _, h6⟩ := h
  intro i h0 h1
  rw [h4] at h1
  have e := h6 (i / 5) (i % 5) (by omega) (by omega) (by omega) (by omega)
  rw [show i / 5 * 5 + i % 5 = i by omega] at e
  rw [e]
  have := (hq 1 (by decide)).2 (i / 5) (by omega) (by omega)
  by_cases c : i % 5 = 0
  · rw [c]
    have := this.1
    omega
  · exact this.2.2 (i % 5) (by omega) (by omega)
theorem vokb_feed {S g : zM} {kp : Int → Bool} {by_ m f b : Int} {v : Int → Int} (hq : QR S) (hv : vokb b v) (hb : 0 ≤ by_) (h3 : 0 ≤ g 3 f) : vokb (b + 4) (wfeed S g kp by_ m f v) := by
  unfold wfeed
  split
  · rename_i hc
    exact vokb_drink hv hb (fun q h0 h1 => ((hq 1 (by decide)).2 (g 3 f) h3 hc.2.1).2.2 (1 + q) (by omega) (by omega))
  · exact ⟨hv.1, hv.2.1, hv.2.2.1, hv.2.2.2.1, by have := hv.2.2.2.2; omega⟩
theorem vokb_fold {S g : zM} {kp : Int → Bool} {by_ m : Int} (hq : QR S) (hb : 0 ≤ by_) : ∀ (l : List Nat) (b : Int) (v : Int → Int), (∀ f ∈ l, 0 ≤ g 3 (f : Nat)) → vokb b v → vokb (b + 4 * l.length) (l.foldl (fun v (f : Nat) => wfeed S g kp by_ m f v) v)
  | [], b, v, _, hv => by simpa using hv
  | f :: l, b, v, hl, hv => by
    have := vokb_fold (kp := kp) (m := m) hq hb l (b + 4) _ (fun x hx => hl x (List.mem_cons_of_mem _ hx)) (vokb_feed (kp := kp) (m := m) hq hv hb (hl f List.mem_cons_self))
    rw [List.foldl_cons, List.length_cons]
    have e : b + 4 * ((l.length + 1 : Nat) : Int) = b + 4 + 4 * (l.length : Int) := by omega
    rw [e]
    exact this
set_option maxRecDepth 100000 in
set_option maxHeartbeats 4000000 in
theorem s_bringUp7 {S M g : zM} {R : zP} {n a T : Nat} {m kept by_ b : Int} {v : Int → Int} (hC : CW S M) (hF : FR 7 n g M) (hP : PV 23 M v) (hv : vokb b v) (hb : b ≤ 900) (hst : M 23 4 = by_) (hby : 0 ≤ by_ ∧ by_ ≤ 2) (hT : T < 20) (ha : a ≤ T + 1) (hm : 0 ≤ m ∧ m < 8)
    (hR : ∀ M', (∀ k i, ¬ (23 ≤ k ∧ k ≤ 26) → M' k i = M k i) → M' 23 4 = by_ → PV 23 M' (wseg S g n (kpm kept) by_ m a (T + 1 - a) v) → R (some (.inl ((qseg n (g 1) 0 (T + 1)).length : Nat))) M') : tX7_bringUp [.inr (.inr 0), .inr (.inr 7), .inl m, .inl ((qseg n (g 1) 0 a).length : Nat), .inl T, .inl kept] M R := by
  obtain ⟨hn, hn8, hL, hf⟩ := hF
  have hL : LA M 11 (qord n (g 1)) := hL
  have hlen := qseg_len (n := n) (ft := g 1) n (fun f hf2 => (hf f hf2).1.2)
  have e1 : qord n (g 1) = qseg n (g 1) 0 a ++ (qseg n (g 1) a (T + 1 - a) ++ qseg n (g 1) (T + 1) (19 - T)) := by
    unfold qord
    rw [show (20 : Nat) = a + ((T + 1 - a) + (19 - T)) by omega, qseg_add, qseg_add, Nat.zero_add, show a + (T + 1 - a) = T + 1 by omega]
  have e2 : (qseg n (g 1) 0 (T + 1)).length = (qseg n (g 1) 0 a).length + (qseg n (g 1) a (T + 1 - a)).length := by
    rw [show qseg n (g 1) 0 (T + 1) = qseg n (g 1) 0 a ++ qseg n (g 1) a (T + 1 - a) by rw [show T + 1 = a + (T + 1 - a) by omega, qseg_add, Nat.zero_add, show a + (T + 1 - a) - a = T + 1 - a by omega], List.length_append]
  have hwf := wseg_fold S g n (kpm kept) by_ m a v (T + 1 - a)
  rw [hwf, e2] at hR
  have mB : ∀ f ∈ qseg n (g 1) a (T + 1 - a), f < n ∧ g 1 (f : Nat) ≤ T := fun f hf => by
    rw [qseg_mem] at hf
    exact ⟨hf.1, by omega⟩
  have mC : ∀ f ∈ qseg n (g 1) (T + 1) (19 - T), f < n ∧ T < g 1 (f : Nat) := fun f hf => by
    rw [qseg_mem] at hf
    exact ⟨hf.1, by omega⟩
  rw [e1] at hL hlen
  generalize qseg n (g 1) 0 a = A at *
  generalize qseg n (g 1) a (T + 1 - a) = B at *
  generalize qseg n (g 1) (T + 1) (19 - T) = C at *
  simp only [List.length_append] at hlen
  simp only [↓eX7_bringUp, ↓rX7_bringUp_0, ↓rX7_bringUp_1, ↓reduceIte, zkeep_n, zkeep_i, zkeep_r, zkeep_l, zup_eq, zIR, zLR, List.length_cons, List.length_nil, Nat.reduceAdd, Nat.reduceLeDiff, Nat.reduceEqDiff, Nat.reduceSub, Int.reduceLE, Int.reduceLT, Int.reduceEq, Int.reduceNe, Int.reduceNeg, Int.reduceAdd, Int.reduceSub, Int.reduceMul, Int.reduceToNat, Nat.le_refl, Nat.zero_le, Nat.zero_add, Int.zero_add, Int.add_zero, and_true, true_and, and_false, false_and, not_true_eq_false, not_false_eq_true, eq_self, ne_eq, true_implies, false_implies, implies_true, or_true, true_or, or_false, false_or, reduceCtorEq, Option.some.injEq, Sum.inl.injEq, exists_eq_left', exists_eq_left, zite]
  have L : ∀ s : List Nat × List Nat × zM, (B = s.1 ++ s.2.1 ∧ (∀ k i, ¬ (23 ≤ k ∧ k ≤ 26) → s.2.2 k i = M k i) ∧ s.2.2 23 4 = by_ ∧ PV 23 s.2.2 (s.1.foldl (fun v (f : Nat) => wfeed S g (kpm kept) by_ m f v) v)) → ∀ x7, uX7_bringUp R 3 [some (.inr (.inr 0)), some (.inr (.inr 7)), some (.inl m), some (.inl (A.length : Nat)), some (.inl T), some (.inl kept), some (.inl ((A.length + s.1.length : Nat) : Int)), x7] [] s.2.2 := by
    refine zind (fun s => s.2.1.length) ?_
    rintro ⟨b1, b2, N⟩ ⟨hB, hfr, hs4, hPV⟩ ih x7
    simp only at hB hfr hs4 hPV ih
    have n1 : N 7 4 = n := (hfr _ _ (by decide)).trans hn
    have hBl : B.length = b1.length + b2.length := by rw [hB, List.length_append]
    have hob : ∀ (f : Nat) (rest : List Nat), b2 ++ C = f :: rest → N 11 ((A.length + b1.length : Nat) : Int) = f := by
      intro f rest hfr2
      rw [hfr _ _ (by decide)]
      refine hL _ f ?_
      rw [List.getElem?_append_right (by omega), hB, List.append_assoc, List.getElem?_append_right (by omega), hfr2]
      rw [show A.length + b1.length - A.length - b1.length = 0 by omega]
      rfl
    have fin : b2 = [] → R (some (.inl ((A.length + b1.length : Nat) : Int))) N := by
      intro h0
      subst h0
      rw [List.append_nil] at hB
      subst hB
      exact hR N hfr hs4 hPV
    refine rX7_bringUp_3.mpr ?_
    cases hb2 : b2 with
    | nil =>
      subst hb2
      have fin := fin rfl
      simp only [List.length_nil] at hBl
      cases hC2 : C with
      | nil =>
        subst hC2
        simp only [List.length_nil] at hlen
        have e9 : ((A.length + b1.length : Nat) : Int) = n := by omega
        rw [e9] at fin
        simp only [↓rX7_bringUp_5, ↓rX7_bringUp_6, ↓rX7_bringUp_9, ↓rX7_bringUp_81, ↓rX7_bringUp_82, ↓rX7_bringUp_85, ↓hg_fX7_234_12, ↓hg_fX7_234_7, ↓reduceIte, zkeep_n, zkeep_i, zkeep_r, zkeep_l, zup_eq, zIR, zLR, List.length_cons, List.length_nil, Nat.reduceAdd, Nat.reduceLeDiff, Nat.reduceEqDiff, Nat.reduceSub, Int.reduceLE, Int.reduceLT, Int.reduceEq, Int.reduceNe, Int.reduceNeg, Int.reduceAdd, Int.reduceSub, Int.reduceMul, Int.reduceToNat, Nat.le_refl, Nat.zero_le, Nat.zero_add, Int.zero_add, Int.add_zero, and_true, true_and, and_false, false_and, not_true_eq_false, not_false_eq_true, eq_self, ne_eq, true_implies, false_implies, implies_true, or_true, true_or, or_false, false_or, reduceCtorEq, Option.some.injEq, Sum.inl.injEq, exists_eq_left', exists_eq_left, n1, zite]
        repeat' (first | with_reducible apply And.intro | with_reducible intro _)
        all_goals first | omega | (exact fin)
      | cons f rest =>
        subst hC2
        have hx := hob f rest (by simp)
        have hfm := mC f (by simp)
        have hff := hf f hfm.1
        have n2 : N 8 f = g 1 f := (hfr _ _ (by decide)).trans hff.1.1
        simp only [List.length_cons] at hlen
        simp only [↓rX7_bringUp_5, ↓rX7_bringUp_6, ↓rX7_bringUp_9, ↓rX7_bringUp_12, ↓rX7_bringUp_13, ↓rX7_bringUp_16, ↓rX7_bringUp_18, ↓rX7_bringUp_19, ↓rX7_bringUp_21, ↓rX7_bringUp_22, ↓rX7_bringUp_25, ↓rX7_bringUp_27, ↓rX7_bringUp_28, ↓rX7_bringUp_30, ↓rX7_bringUp_33, ↓rX7_bringUp_35, ↓hg_fX7_234_12, ↓hg_fX7_234_7, ↓hg_fX7_355_12, ↓hg_fX7_355_7, ↓hg_fX7_358_12, ↓hg_fX7_358_7, ↓hr_10, ↓hr_11, ↓hr_13, ↓hr_14, ↓hr_15, ↓hr_16, ↓hr_18, ↓hr_19, ↓hr_2, ↓hr_20, ↓hr_21, ↓hr_24, ↓hr_25, ↓hr_26, ↓hr_28, ↓hr_29, ↓hr_3, ↓hr_30, ↓hr_33, ↓hr_34, ↓hr_35, ↓hr_36, ↓hr_37, ↓hr_39, ↓hr_41, ↓hr_43, ↓hr_45, ↓hr_5, ↓hr_6, ↓hr_8, ↓hr_9, ↓hr_fX7_104, ↓hw_10, ↓hw_11, ↓hw_13, ↓hw_14, ↓hw_15, ↓hw_16, ↓hw_18, ↓hw_19, ↓hw_2, ↓hw_20, ↓hw_21, ↓hw_24, ↓hw_25, ↓hw_26, ↓hw_28, ↓hw_29, ↓hw_3, ↓hw_30, ↓hw_33, ↓hw_34, ↓hw_35, ↓hw_36, ↓hw_37, ↓hw_39, ↓hw_41, ↓hw_43, ↓hw_45, ↓hw_5, ↓hw_6, ↓hw_8, ↓hw_9, ↓reduceIte, zkeep_n, zkeep_i, zkeep_r, zkeep_l, zup_eq, zIR, zLR, List.length_cons, List.length_nil, Nat.reduceAdd, Nat.reduceLeDiff, Nat.reduceEqDiff, Nat.reduceSub, Int.reduceLE, Int.reduceLT, Int.reduceEq, Int.reduceNe, Int.reduceNeg, Int.reduceAdd, Int.reduceSub, Int.reduceMul, Int.reduceToNat, Nat.le_refl, Nat.zero_le, Nat.zero_add, Int.zero_add, Int.add_zero, and_true, true_and, and_false, false_and, not_true_eq_false, not_false_eq_true, eq_self, ne_eq, true_implies, false_implies, implies_true, or_true, true_or, or_false, false_or, reduceCtorEq, Option.some.injEq, Sum.inl.injEq, exists_eq_left', exists_eq_left, n1, hx, n2, zite]
        repeat' (first | with_reducible apply And.intro | with_reducible intro _)
        all_goals first | omega | (exact fin)
    | cons f rest =>
      subst hb2
      have hx := hob f (rest ++ C) (by simp)
      have hfm := mB f (by rw [hB]; simp)
      have hff := hf f hfm.1
      have n2 : N 8 f = g 1 f := (hfr _ _ (by decide)).trans hff.1.1
      have n3 : N 9 f = g 2 f := (hfr _ _ (by decide)).trans hff.2.1.1
      have n4 : N 10 f = g 3 f := (hfr _ _ (by decide)).trans hff.2.2.1
      simp only [List.length_cons] at hBl
      have hvb := vokb_fold (g := g) (kp := kpm kept) (m := m) hC.1 hby.1 b1 b v (fun x hx => (hf x (mB x (by rw [hB]; simp [hx])).1).2.2.2.1) hv
      have go : ∀ (N' : zM) x7, (∀ k i, ¬ (23 ≤ k ∧ k ≤ 26) → N' k i = N k i) → N' 23 4 = by_ → PV 23 N' (wfeed S g (kpm kept) by_ m f (b1.foldl (fun v (f : Nat) => wfeed S g (kpm kept) by_ m f v) v)) → uX7_bringUp R 3 [some (.inr (.inr 0)), some (.inr (.inr 7)), some (.inl m), some (.inl (A.length : Nat)), some (.inl T), some (.inl kept), some (.inl (((A.length + b1.length : Nat) : Int) + 1)), x7] [] N' := by
        intro N' x7 g1 g2 g3
        have := ih (b1 ++ [f], rest, N') ⟨by rw [hB]; simp, fun k i hk => (g1 k i hk).trans (hfr k i hk), g2, by simpa [List.foldl_append] using g3⟩ (by simp) x7
        simp only [List.length_append, List.length_cons, List.length_nil] at this
        rw [show (((A.length + b1.length : Nat) : Int) + 1) = ((A.length + (b1.length + (0 + 1)) : Nat) : Int) by omega]
        exact this
      have skip : (¬ g 2 f = m ∨ kpm kept f = false) → ∀ x7, uX7_bringUp R 3 [some (.inr (.inr 0)), some (.inr (.inr 7)), some (.inl m), some (.inl (A.length : Nat)), some (.inl T), some (.inl kept), some (.inl (((A.length + b1.length : Nat) : Int) + 1)), x7] [] N := by
        intro hno x7
        refine go N x7 (fun _ _ _ => rfl) hs4 ?_
        unfold wfeed
        rw [if_neg (by rcases hno with h | h <;> simp [h])]
        exact hPV
      have call : ¬ zand (zshr kept f) 1 = 0 → g 2 f = m → zcn (zv 3 tX3_drink) [.inr (.inr 23), .inr (.inr 4), .inl (g 3 f)] N (fun N' => uX7_bringUp R 3 [some (.inr (.inr 0)), some (.inr (.inr 7)), some (.inl m), some (.inl (A.length : Nat)), some (.inl T), some (.inl kept), some (.inl (((A.length + b1.length : Nat) : Int) + 1)), some (.inl (f : Int))] [] N') := by
        intro hk hgm
        have n45 : N 4 5 = M 4 5 := hfr _ _ (by decide)
        have n6 : ∀ i, N 6 i = M 6 i := fun i => hfr _ _ (by decide)
        have hmilk := CW_milk hC
        have hq1 := (hC.1 1 (by decide)).1
        refine zcnv rfl (s_drink23 (by unfold zIR; omega) (by rw [n45, hC.2.2.1]; exact hq1) (by rw [n45]; simp only [n6]; exact hmilk) hPV (vokb_ok hvb (by omega)) hs4 hby (fun N' g1 g2 g3 => ⟨rfl, ?_⟩))
        refine go N' _ (fun k i hk2 => g1 k i (by omega) (by omega) (by omega) (by omega)) g2 ?_
        rw [n45, hC.2.2.1] at g3
        simp only [n6] at g3
        unfold wfeed
        by_cases hlt : g 3 f < qn S 1
        · rw [if_pos ⟨hff.2.2.2.1, hlt⟩] at g3
          rw [if_pos ⟨hgm, hlt, kpm_t hk⟩]
          have ew := hC.2.2.2.2 (g 3 f) 0 hff.2.2.2.1 hlt (by decide) (by decide)
          rw [Int.add_zero] at ew
          rw [ew] at g3
          rw [wdrink_congr (mi' := fun q => qfact S 1 (g 3 f) (1 + q)) (fun q h0 h1 => by
            have := hC.2.2.2.2 (g 3 f) (1 + q) hff.2.2.2.1 hlt (by omega) (by omega)
            rw [← this]
            congr 1
            omega)] at g3
          exact g3
        · rw [if_neg (by omega)] at g3
          rw [if_neg (by omega)]
          exact g3
      have hzr := zand_R (zshr kept f) 1
      simp only [↓rX7_bringUp_5, ↓rX7_bringUp_6, ↓rX7_bringUp_9, ↓rX7_bringUp_12, ↓rX7_bringUp_13, ↓rX7_bringUp_16, ↓rX7_bringUp_18, ↓rX7_bringUp_19, ↓rX7_bringUp_21, ↓rX7_bringUp_22, ↓rX7_bringUp_25, ↓rX7_bringUp_27, ↓rX7_bringUp_28, ↓rX7_bringUp_30, ↓rX7_bringUp_36, ↓rX7_bringUp_37, ↓rX7_bringUp_40, ↓rX7_bringUp_42, ↓rX7_bringUp_43, ↓rX7_bringUp_44, ↓rX7_bringUp_47, ↓rX7_bringUp_49, ↓rX7_bringUp_51, ↓rX7_bringUp_52, ↓rX7_bringUp_53, ↓rX7_bringUp_54, ↓rX7_bringUp_57, ↓rX7_bringUp_58, ↓rX7_bringUp_61, ↓rX7_bringUp_62, ↓rX7_bringUp_65, ↓rX7_bringUp_66, ↓rX7_bringUp_69, ↓rX7_bringUp_71, ↓rX7_bringUp_72, ↓rX7_bringUp_75, ↓rX7_bringUp_78, ↓hg_fX7_22_0, ↓hg_fX7_234_12, ↓hg_fX7_234_7, ↓hg_fX7_355_12, ↓hg_fX7_355_7, ↓hg_fX7_358_12, ↓hg_fX7_358_7, ↓hg_fX7_361_12, ↓hg_fX7_361_7, ↓hg_fX7_363_12, ↓hg_fX7_363_7, ↓hg_fX7_55_0, ↓hr_10, ↓hr_11, ↓hr_13, ↓hr_14, ↓hr_15, ↓hr_16, ↓hr_18, ↓hr_19, ↓hr_2, ↓hr_20, ↓hr_21, ↓hr_24, ↓hr_25, ↓hr_26, ↓hr_28, ↓hr_29, ↓hr_3, ↓hr_30, ↓hr_33, ↓hr_34, ↓hr_35, ↓hr_36, ↓hr_37, ↓hr_39, ↓hr_41, ↓hr_43, ↓hr_45, ↓hr_5, ↓hr_6, ↓hr_8, ↓hr_9, ↓hr_fX7_104, ↓hw_10, ↓hw_11, ↓hw_13, ↓hw_14, ↓hw_15, ↓hw_16, ↓hw_18, ↓hw_19, ↓hw_2, ↓hw_20, ↓hw_21, ↓hw_24, ↓hw_25, ↓hw_26, ↓hw_28, ↓hw_29, ↓hw_3, ↓hw_30, ↓hw_33, ↓hw_34, ↓hw_35, ↓hw_36, ↓hw_37, ↓hw_39, ↓hw_41, ↓hw_43, ↓hw_45, ↓hw_5, ↓hw_6, ↓hw_8, ↓hw_9, ↓reduceIte, zkeep_n, zkeep_i, zkeep_r, zkeep_l, zup_eq, zIR, zLR, List.length_cons, List.length_nil, Nat.reduceAdd, Nat.reduceLeDiff, Nat.reduceEqDiff, Nat.reduceSub, Int.reduceLE, Int.reduceLT, Int.reduceEq, Int.reduceNe, Int.reduceNeg, Int.reduceAdd, Int.reduceSub, Int.reduceMul, Int.reduceToNat, Nat.le_refl, Nat.zero_le, Nat.zero_add, Int.zero_add, Int.add_zero, and_true, true_and, and_false, false_and, not_true_eq_false, not_false_eq_true, eq_self, ne_eq, true_implies, false_implies, implies_true, or_true, true_or, or_false, false_or, reduceCtorEq, Option.some.injEq, Sum.inl.injEq, exists_eq_left', exists_eq_left, n1, hx, n2, n3, n4, zite]
      repeat' (first | with_reducible apply And.intro | with_reducible intro _)
      all_goals first | omega | (exact skip (Or.inl (by assumption)) _) | (exact skip (Or.inr (kpm_f (by assumption))) _) | (exact call (by assumption) (by omega))
  exact L ([], B, M) ⟨rfl, fun _ _ _ => rfl, hst, hP⟩ none
set_option maxRecDepth 100000 in
set_option maxHeartbeats 4000000 in
theorem s_bringUp12 {S M g : zM} {R : zP} {n a T : Nat} {m kept by_ b : Int} {v : Int → Int} (hC : CW S M) (hF : FR 12 n g M) (hP : PV 23 M v) (hv : vokb b v) (hb : b ≤ 900) (hst : M 23 4 = by_) (hby : 0 ≤ by_ ∧ by_ ≤ 2) (hT : T < 20) (ha : a ≤ T + 1) (hm : 0 ≤ m ∧ m < 8)
    (hR : ∀ M', (∀ k i, ¬ (23 ≤ k ∧ k ≤ 26) → M' k i = M k i) → M' 23 4 = by_ → PV 23 M' (wseg S g n (kpm kept) by_ m a (T + 1 - a) v) → R (some (.inl ((qseg n (g 1) 0 (T + 1)).length : Nat))) M') : tX7_bringUp [.inr (.inr 0), .inr (.inr 12), .inl m, .inl ((qseg n (g 1) 0 a).length : Nat), .inl T, .inl kept] M R := by
  obtain ⟨hn, hn8, hL, hf⟩ := hF
  have hL : LA M 16 (qord n (g 1)) := hL
  have hlen := qseg_len (n := n) (ft := g 1) n (fun f hf2 => (hf f hf2).1.2)
  have e1 : qord n (g 1) = qseg n (g 1) 0 a ++ (qseg n (g 1) a (T + 1 - a) ++ qseg n (g 1) (T + 1) (19 - T)) := by
    unfold qord
    rw [show (20 : Nat) = a + ((T + 1 - a) + (19 - T)) by omega, qseg_add, qseg_add, Nat.zero_add, show a + (T + 1 - a) = T + 1 by omega]
  have e2 : (qseg n (g 1) 0 (T + 1)).length = (qseg n (g 1) 0 a).length + (qseg n (g 1) a (T + 1 - a)).length := by
    rw [show qseg n (g 1) 0 (T + 1) = qseg n (g 1) 0 a ++ qseg n (g 1) a (T + 1 - a) by rw [show T + 1 = a + (T + 1 - a) by omega, qseg_add, Nat.zero_add, show a + (T + 1 - a) - a = T + 1 - a by omega], List.length_append]
  have hwf := wseg_fold S g n (kpm kept) by_ m a v (T + 1 - a)
  rw [hwf, e2] at hR
  have mB : ∀ f ∈ qseg n (g 1) a (T + 1 - a), f < n ∧ g 1 (f : Nat) ≤ T := fun f hf => by
    rw [qseg_mem] at hf
    exact ⟨hf.1, by omega⟩
  have mC : ∀ f ∈ qseg n (g 1) (T + 1) (19 - T), f < n ∧ T < g 1 (f : Nat) := fun f hf => by
    rw [qseg_mem] at hf
    exact ⟨hf.1, by omega⟩
  rw [e1] at hL hlen
  generalize qseg n (g 1) 0 a = A at *
  generalize qseg n (g 1) a (T + 1 - a) = B at *
  generalize qseg n (g 1) (T + 1) (19 - T) = C at *
  simp only [List.length_append] at hlen
  simp only [↓eX7_bringUp, ↓rX7_bringUp_0, ↓rX7_bringUp_1, ↓reduceIte, zkeep_n, zkeep_i, zkeep_r, zkeep_l, zup_eq, zIR, zLR, List.length_cons, List.length_nil, Nat.reduceAdd, Nat.reduceLeDiff, Nat.reduceEqDiff, Nat.reduceSub, Int.reduceLE, Int.reduceLT, Int.reduceEq, Int.reduceNe, Int.reduceNeg, Int.reduceAdd, Int.reduceSub, Int.reduceMul, Int.reduceToNat, Nat.le_refl, Nat.zero_le, Nat.zero_add, Int.zero_add, Int.add_zero, and_true, true_and, and_false, false_and, not_true_eq_false, not_false_eq_true, eq_self, ne_eq, true_implies, false_implies, implies_true, or_true, true_or, or_false, false_or, reduceCtorEq, Option.some.injEq, Sum.inl.injEq, exists_eq_left', exists_eq_left, zite]
  have L : ∀ s : List Nat × List Nat × zM, (B = s.1 ++ s.2.1 ∧ (∀ k i, ¬ (23 ≤ k ∧ k ≤ 26) → s.2.2 k i = M k i) ∧ s.2.2 23 4 = by_ ∧ PV 23 s.2.2 (s.1.foldl (fun v (f : Nat) => wfeed S g (kpm kept) by_ m f v) v)) → ∀ x7, uX7_bringUp R 3 [some (.inr (.inr 0)), some (.inr (.inr 12)), some (.inl m), some (.inl (A.length : Nat)), some (.inl T), some (.inl kept), some (.inl ((A.length + s.1.length : Nat) : Int)), x7] [] s.2.2 := by
    refine zind (fun s => s.2.1.length) ?_
    rintro ⟨b1, b2, N⟩ ⟨hB, hfr, hs4, hPV⟩ ih x7
    simp only at hB hfr hs4 hPV ih
    have n1 : N 12 4 = n := (hfr _ _ (by decide)).trans hn
    have hBl : B.length = b1.length + b2.length := by rw [hB, List.length_append]
    have hob : ∀ (f : Nat) (rest : List Nat), b2 ++ C = f :: rest → N 16 ((A.length + b1.length : Nat) : Int) = f := by
      intro f rest hfr2
      rw [hfr _ _ (by decide)]
      refine hL _ f ?_
      rw [List.getElem?_append_right (by omega), hB, List.append_assoc, List.getElem?_append_right (by omega), hfr2]
      rw [show A.length + b1.length - A.length - b1.length = 0 by omega]
      rfl
    have fin : b2 = [] → R (some (.inl ((A.length + b1.length : Nat) : Int))) N := by
      intro h0
      subst h0
      rw [List.append_nil] at hB
      subst hB
      exact hR N hfr hs4 hPV
    refine rX7_bringUp_3.mpr ?_
    cases hb2 : b2 with
    | nil =>
      subst hb2
      have fin := fin rfl
      simp only [List.length_nil] at hBl
      cases hC2 : C with
      | nil =>
        subst hC2
        simp only [List.length_nil] at hlen
        have e9 : ((A.length + b1.length : Nat) : Int) = n := by omega
        rw [e9] at fin
        simp only [↓rX7_bringUp_5, ↓rX7_bringUp_6, ↓rX7_bringUp_9, ↓rX7_bringUp_81, ↓rX7_bringUp_82, ↓rX7_bringUp_85, ↓hg_fX7_234_12, ↓hg_fX7_234_7, ↓reduceIte, zkeep_n, zkeep_i, zkeep_r, zkeep_l, zup_eq, zIR, zLR, List.length_cons, List.length_nil, Nat.reduceAdd, Nat.reduceLeDiff, Nat.reduceEqDiff, Nat.reduceSub, Int.reduceLE, Int.reduceLT, Int.reduceEq, Int.reduceNe, Int.reduceNeg, Int.reduceAdd, Int.reduceSub, Int.reduceMul, Int.reduceToNat, Nat.le_refl, Nat.zero_le, Nat.zero_add, Int.zero_add, Int.add_zero, and_true, true_and, and_false, false_and, not_true_eq_false, not_false_eq_true, eq_self, ne_eq, true_implies, false_implies, implies_true, or_true, true_or, or_false, false_or, reduceCtorEq, Option.some.injEq, Sum.inl.injEq, exists_eq_left', exists_eq_left, n1, zite]
        repeat' (first | with_reducible apply And.intro | with_reducible intro _)
        all_goals first | omega | (exact fin)
      | cons f rest =>
        subst hC2
        have hx := hob f rest (by simp)
        have hfm := mC f (by simp)
        have hff := hf f hfm.1
        have n2 : N 13 f = g 1 f := (hfr _ _ (by decide)).trans hff.1.1
        simp only [List.length_cons] at hlen
        simp only [↓rX7_bringUp_5, ↓rX7_bringUp_6, ↓rX7_bringUp_9, ↓rX7_bringUp_12, ↓rX7_bringUp_13, ↓rX7_bringUp_16, ↓rX7_bringUp_18, ↓rX7_bringUp_19, ↓rX7_bringUp_21, ↓rX7_bringUp_22, ↓rX7_bringUp_25, ↓rX7_bringUp_27, ↓rX7_bringUp_28, ↓rX7_bringUp_30, ↓rX7_bringUp_33, ↓rX7_bringUp_35, ↓hg_fX7_234_12, ↓hg_fX7_234_7, ↓hg_fX7_355_12, ↓hg_fX7_355_7, ↓hg_fX7_358_12, ↓hg_fX7_358_7, ↓hr_10, ↓hr_11, ↓hr_13, ↓hr_14, ↓hr_15, ↓hr_16, ↓hr_18, ↓hr_19, ↓hr_2, ↓hr_20, ↓hr_21, ↓hr_24, ↓hr_25, ↓hr_26, ↓hr_28, ↓hr_29, ↓hr_3, ↓hr_30, ↓hr_33, ↓hr_34, ↓hr_35, ↓hr_36, ↓hr_37, ↓hr_39, ↓hr_41, ↓hr_43, ↓hr_45, ↓hr_5, ↓hr_6, ↓hr_8, ↓hr_9, ↓hr_fX7_104, ↓hw_10, ↓hw_11, ↓hw_13, ↓hw_14, ↓hw_15, ↓hw_16, ↓hw_18, ↓hw_19, ↓hw_2, ↓hw_20, ↓hw_21, ↓hw_24, ↓hw_25, ↓hw_26, ↓hw_28, ↓hw_29, ↓hw_3, ↓hw_30, ↓hw_33, ↓hw_34, ↓hw_35, ↓hw_36, ↓hw_37, ↓hw_39, ↓hw_41, ↓hw_43, ↓hw_45, ↓hw_5, ↓hw_6, ↓hw_8, ↓hw_9, ↓reduceIte, zkeep_n, zkeep_i, zkeep_r, zkeep_l, zup_eq, zIR, zLR, List.length_cons, List.length_nil, Nat.reduceAdd, Nat.reduceLeDiff, Nat.reduceEqDiff, Nat.reduceSub, Int.reduceLE, Int.reduceLT, Int.reduceEq, Int.reduceNe, Int.reduceNeg, Int.reduceAdd, Int.reduceSub, Int.reduceMul, Int.reduceToNat, Nat.le_refl, Nat.zero_le, Nat.zero_add, Int.zero_add, Int.add_zero, and_true, true_and, and_false, false_and, not_true_eq_false, not_false_eq_true, eq_self, ne_eq, true_implies, false_implies, implies_true, or_true, true_or, or_false, false_or, reduceCtorEq, Option.some.injEq, Sum.inl.injEq, exists_eq_left', exists_eq_left, n1, hx, n2, zite]
        repeat' (first | with_reducible apply And.intro | with_reducible intro _)
        all_goals first | omega | (exact fin)
    | cons f rest =>
      subst hb2
      have hx := hob f (rest ++ C) (by simp)
      have hfm := mB f (by rw [hB]; simp)
      have hff := hf f hfm.1
      have n2 : N 13 f = g 1 f := (hfr _ _ (by decide)).trans hff.1.1
      have n3 : N 14 f = g 2 f := (hfr _ _ (by decide)).trans hff.2.1.1
      have n4 : N 15 f = g 3 f := (hfr _ _ (by decide)).trans hff.2.2.1
      simp only [List.length_cons] at hBl
      have hvb := vokb_fold (g := g) (kp := kpm kept) (m := m) hC.1 hby.1 b1 b v (fun x hx => (hf x (mB x (by rw [hB]; simp [hx])).1).2.2.2.1) hv
      have go : ∀ (N' : zM) x7, (∀ k i, ¬ (23 ≤ k ∧ k ≤ 26) → N' k i = N k i) → N' 23 4 = by_ → PV 23 N' (wfeed S g (kpm kept) by_ m f (b1.foldl (fun v (f : Nat) => wfeed S g (kpm kept) by_ m f v) v)) → uX7_bringUp R 3 [some (.inr (.inr 0)), some (.inr (.inr 12)), some (.inl m), some (.inl (A.length : Nat)), some (.inl T), some (.inl kept), some (.inl (((A.length + b1.length : Nat) : Int) + 1)), x7] [] N' := by
        intro N' x7 g1 g2 g3
        have := ih (b1 ++ [f], rest, N') ⟨by rw [hB]; simp, fun k i hk => (g1 k i hk).trans (hfr k i hk), g2, by simpa [List.foldl_append] using g3⟩ (by simp) x7
        simp only [List.length_append, List.length_cons, List.length_nil] at this
        rw [show (((A.length + b1.length : Nat) : Int) + 1) = ((A.length + (b1.length + (0 + 1)) : Nat) : Int) by omega]
        exact this
      have skip : (¬ g 2 f = m ∨ kpm kept f = false) → ∀ x7, uX7_bringUp R 3 [some (.inr (.inr 0)), some (.inr (.inr 12)), some (.inl m), some (.inl (A.length : Nat)), some (.inl T), some (.inl kept), some (.inl (((A.length + b1.length : Nat) : Int) + 1)), x7] [] N := by
        intro hno x7
        refine go N x7 (fun _ _ _ => rfl) hs4 ?_
        unfold wfeed
        rw [if_neg (by rcases hno with h | h <;> simp [h])]
        exact hPV
      have call : ¬ zand (zshr kept f) 1 = 0 → g 2 f = m → zcn (zv 3 tX3_drink) [.inr (.inr 23), .inr (.inr 4), .inl (g 3 f)] N (fun N' => uX7_bringUp R 3 [some (.inr (.inr 0)), some (.inr (.inr 12)), some (.inl m), some (.inl (A.length : Nat)), some (.inl T), some (.inl kept), some (.inl (((A.length + b1.length : Nat) : Int) + 1)), some (.inl (f : Int))] [] N') := by
        intro hk hgm
        have n45 : N 4 5 = M 4 5 := hfr _ _ (by decide)
        have n6 : ∀ i, N 6 i = M 6 i := fun i => hfr _ _ (by decide)
        have hmilk := CW_milk hC
        have hq1 := (hC.1 1 (by decide)).1
        refine zcnv rfl (s_drink23 (by unfold zIR; omega) (by rw [n45, hC.2.2.1]; exact hq1) (by rw [n45]; simp only [n6]; exact hmilk) hPV (vokb_ok hvb (by omega)) hs4 hby (fun N' g1 g2 g3 => ⟨rfl, ?_⟩))
        refine go N' _ (fun k i hk2 => g1 k i (by omega) (by omega) (by omega) (by omega)) g2 ?_
        rw [n45, hC.2.2.1] at g3
        simp only [n6] at g3
        unfold wfeed
        by_cases hlt : g 3 f < qn S 1
        · rw [if_pos ⟨hff.2.2.2.1, hlt⟩] at g3
          rw [if_pos ⟨hgm, hlt, kpm_t hk⟩]
          have ew := hC.2.2.2.2 (g 3 f) 0 hff.2.2.2.1 hlt (by decide) (by decide)
          rw [Int.add_zero] at ew
          rw [ew] at g3
          rw [wdrink_congr (mi' := fun q => qfact S 1 (g 3 f) (1 + q)) (fun q h0 h1 => by
            have := hC.2.2.2.2 (g 3 f) (1 + q) hff.2.2.2.1 hlt (by omega) (by omega)
            rw [← this]
            congr 1
            omega)] at g3
          exact g3
        · rw [if_neg (by omega)] at g3
          rw [if_neg (by omega)]
          exact g3
      have hzr := zand_R (zshr kept f) 1
      simp only [↓rX7_bringUp_5, ↓rX7_bringUp_6, ↓rX7_bringUp_9, ↓rX7_bringUp_12, ↓rX7_bringUp_13, ↓rX7_bringUp_16, ↓rX7_bringUp_18, ↓rX7_bringUp_19, ↓rX7_bringUp_21, ↓rX7_bringUp_22, ↓rX7_bringUp_25, ↓rX7_bringUp_27, ↓rX7_bringUp_28, ↓rX7_bringUp_30, ↓rX7_bringUp_36, ↓rX7_bringUp_37, ↓rX7_bringUp_40, ↓rX7_bringUp_42, ↓rX7_bringUp_43, ↓rX7_bringUp_44, ↓rX7_bringUp_47, ↓rX7_bringUp_49, ↓rX7_bringUp_51, ↓rX7_bringUp_52, ↓rX7_bringUp_53, ↓rX7_bringUp_54, ↓rX7_bringUp_57, ↓rX7_bringUp_58, ↓rX7_bringUp_61, ↓rX7_bringUp_62, ↓rX7_bringUp_65, ↓rX7_bringUp_66, ↓rX7_bringUp_69, ↓rX7_bringUp_71, ↓rX7_bringUp_72, ↓rX7_bringUp_75, ↓rX7_bringUp_78, ↓hg_fX7_22_0, ↓hg_fX7_234_12, ↓hg_fX7_234_7, ↓hg_fX7_355_12, ↓hg_fX7_355_7, ↓hg_fX7_358_12, ↓hg_fX7_358_7, ↓hg_fX7_361_12, ↓hg_fX7_361_7, ↓hg_fX7_363_12, ↓hg_fX7_363_7, ↓hg_fX7_55_0, ↓hr_10, ↓hr_11, ↓hr_13, ↓hr_14, ↓hr_15, ↓hr_16, ↓hr_18, ↓hr_19, ↓hr_2, ↓hr_20, ↓hr_21, ↓hr_24, ↓hr_25, ↓hr_26, ↓hr_28, ↓hr_29, ↓hr_3, ↓hr_30, ↓hr_33, ↓hr_34, ↓hr_35, ↓hr_36, ↓hr_37, ↓hr_39, ↓hr_41, ↓hr_43, ↓hr_45, ↓hr_5, ↓hr_6, ↓hr_8, ↓hr_9, ↓hr_fX7_104, ↓hw_10, ↓hw_11, ↓hw_13, ↓hw_14, ↓hw_15, ↓hw_16, ↓hw_18, ↓hw_19, ↓hw_2, ↓hw_20, ↓hw_21, ↓hw_24, ↓hw_25, ↓hw_26, ↓hw_28, ↓hw_29, ↓hw_3, ↓hw_30, ↓hw_33, ↓hw_34, ↓hw_35, ↓hw_36, ↓hw_37, ↓hw_39, ↓hw_41, ↓hw_43, ↓hw_45, ↓hw_5, ↓hw_6, ↓hw_8, ↓hw_9, ↓reduceIte, zkeep_n, zkeep_i, zkeep_r, zkeep_l, zup_eq, zIR, zLR, List.length_cons, List.length_nil, Nat.reduceAdd, Nat.reduceLeDiff, Nat.reduceEqDiff, Nat.reduceSub, Int.reduceLE, Int.reduceLT, Int.reduceEq, Int.reduceNe, Int.reduceNeg, Int.reduceAdd, Int.reduceSub, Int.reduceMul, Int.reduceToNat, Nat.le_refl, Nat.zero_le, Nat.zero_add, Int.zero_add, Int.add_zero, and_true, true_and, and_false, false_and, not_true_eq_false, not_false_eq_true, eq_self, ne_eq, true_implies, false_implies, implies_true, or_true, true_or, or_false, false_or, reduceCtorEq, Option.some.injEq, Sum.inl.injEq, exists_eq_left', exists_eq_left, n1, hx, n2, n3, n4, zite]
      repeat' (first | with_reducible apply And.intro | with_reducible intro _)
      all_goals first | omega | (exact skip (Or.inl (by assumption)) _) | (exact skip (Or.inr (kpm_f (by assumption))) _) | (exact call (by assumption) (by omega))
  exact L ([], B, M) ⟨rfl, fun _ _ _ => rfl, hst, hP⟩ none
def wst (S : zM) (m : Int) : Int → Int := wstart (qfact S 0 m 0) (fun q => qfact S 0 m (1 + q))
def wbyS (S : zM) (m : Int) : Int := wby (qfact S 0 m 0)
theorem wbyS_R (S : zM) (m : Int) : 0 ≤ wbyS S m ∧ wbyS S m ≤ 2 := by
  unfold wbyS wby
  split
  · omega
  · split <;> omega
theorem vokb_wst {S : zM} {m : Int} (hq : QR S) (h0 : 0 ≤ m) (h1 : m < qn S 0) : vokb 0 (wst S m) := vokb_start (fun q q0 q1 => ((hq 0 (by decide)).2 m h0 h1).2.2 (1 + q) (by omega) (by omega))
set_option maxRecDepth 100000 in
set_option maxHeartbeats 4000000 in
theorem s_enterS {S M : zM} {R : zP} {m : Int} (hC : CW S M) (h0 : 0 ≤ m) (h1 : m < qn S 0)
    (hR : ∀ M', (∀ k i, ¬ (23 ≤ k ∧ k ≤ 26) → M' k i = M k i) → M' 23 4 = wbyS S m → PV 23 M' (wst S m) → R none M') : tX3_enter [.inr (.inr 23), .inr (.inr 1), .inl m] M R := by
  have hq := (hC.1 0 (by decide))
  have hs := (hq.2 m h0 h1).1
  have e0 := hC.2.2.2.1 m 0 h0 h1 (by decide) (by decide)
  rw [Int.add_zero] at e0
  refine s_enter (by omega) (by rw [e0]; omega) (fun M' g1 g2 g3 => hR M' (fun k i hk => g1 k i (by omega) (by omega) (by omega) (by omega)) (by rw [g2, e0]; rfl) ?_)
  rw [e0] at g3
  rw [wstart_congr (fi' := fun q => qfact S 0 m (1 + q)) (fun q q0 q1 => by
    have := hC.2.2.2.1 m (1 + q) h0 h1 (by omega) (by omega)
    rw [← this]
    congr 1
    omega)] at g3
  exact g3
theorem CW_fr {S M M' : zM} (h : CW S M) (hf : ∀ k i, ¬ (12 ≤ k) → M' k i = M k i) : CW S M' := by
  obtain ⟨h1, h2, h3, h4, h5⟩ := h
  refine ⟨h1, (hf _ _ (by decide)).trans h2, (hf _ _ (by decide)).trans h3, fun i j a b c d => (hf _ _ (by decide)).trans (h4 i j a b c d), fun i j a b c d => (hf _ _ (by decide)).trans (h5 i j a b c d)⟩
theorem FR_fr {c n : Nat} {g M M' : zM} (h : FR c n g M) (hf : ∀ k i, c ≤ k → k ≤ c + 4 → M' k i = M k i) : FR c n g M' := by
  obtain ⟨h1, h2, h3, h4⟩ := h
  refine ⟨(hf _ _ (by omega) (by omega)).trans h1, h2, fun p x hx => (hf _ _ (by omega) (by omega)).trans (h3 p x hx), fun f hf2 => ?_⟩
  rw [hf (c + 1) _ (by omega) (by omega), hf (c + 2) _ (by omega) (by omega), hf (c + 3) _ (by omega) (by omega)]
  exact h4 f hf2
set_option maxRecDepth 100000 in
set_option maxHeartbeats 4000000 in
theorem s_raise7 {S M g : zM} {R : zP} {n T : Nat} {m kept : Int} (hC : CW S M) (hF : FR 7 n g M) (hT : T < 20) (h0 : 0 ≤ m) (h1 : m < qn S 0)
    (hR : ∀ M', (∀ k i, ¬ (23 ≤ k ∧ k ≤ 26) → M' k i = M k i) → PV 23 M' (wseg S g n (kpm kept) (wbyS S m) m 0 (T + 1) (wst S m)) → R none M') : tX7_raise [.inr (.inr 0), .inr (.inr 7), .inl m, .inl T, .inl kept] M R := by
  have hq := (hC.1 0 (by decide))
  simp only [↓eX7_raise, ↓rX7_raise_0, ↓rX7_raise_1, ↓rX7_raise_4, ↓rX7_raise_5, ↓rX7_raise_8, ↓rX7_raise_9, ↓hg_fX7_14_0, ↓hg_fX7_55_0, ↓reduceIte, zkeep_n, zkeep_i, zkeep_r, zkeep_l, zup_eq, zIR, zLR, List.length_cons, List.length_nil, Nat.reduceAdd, Nat.reduceLeDiff, Nat.reduceEqDiff, Nat.reduceSub, Int.reduceLE, Int.reduceLT, Int.reduceEq, Int.reduceNe, Int.reduceNeg, Int.reduceAdd, Int.reduceSub, Int.reduceMul, Int.reduceToNat, Nat.le_refl, Nat.zero_le, Nat.zero_add, Int.zero_add, Int.add_zero, and_true, true_and, and_false, false_and, not_true_eq_false, not_false_eq_true, eq_self, ne_eq, true_implies, false_implies, implies_true, or_true, true_or, or_false, false_or, reduceCtorEq, Option.some.injEq, Sum.inl.injEq, exists_eq_left', exists_eq_left, zite]
  refine zcnv rfl (s_enterS hC h0 h1 (fun M1 f1 f2 f3 => ⟨rfl, ?_⟩))
  simp only [↓rX7_raise_12, ↓rX7_raise_13, ↓rX7_raise_14, ↓rX7_raise_15, ↓rX7_raise_16, ↓rX7_raise_17, ↓rX7_raise_19, ↓reduceIte, zkeep_n, zkeep_i, zkeep_r, zkeep_l, zup_eq, zIR, zLR, List.length_cons, List.length_nil, Nat.reduceAdd, Nat.reduceLeDiff, Nat.reduceEqDiff, Nat.reduceSub, Int.reduceLE, Int.reduceLT, Int.reduceEq, Int.reduceNe, Int.reduceNeg, Int.reduceAdd, Int.reduceSub, Int.reduceMul, Int.reduceToNat, Nat.le_refl, Nat.zero_le, Nat.zero_add, Int.zero_add, Int.add_zero, and_true, true_and, and_false, false_and, not_true_eq_false, not_false_eq_true, eq_self, ne_eq, true_implies, false_implies, implies_true, or_true, true_or, or_false, false_or, reduceCtorEq, Option.some.injEq, Sum.inl.injEq, exists_eq_left', exists_eq_left, zite]
  have hby := wbyS_R S m
  have := s_bringUp7 (S := S) (M := M1) (g := g) (n := n) (a := 0) (T := T) (m := m) (kept := kept) (R := fun r M' => ∃ v, r = some v ∧ uX7_raise R 22 [some (.inr (.inr 0)), some (.inr (.inr 7)), some (.inl m), some (.inl T), some (.inl kept)] [v] M') (CW_fr hC (fun k i hk => f1 k i (by omega))) (FR_fr hF (fun k i a b => f1 k i (by omega))) f3 (vokb_wst hC.1 h0 h1) (by decide) f2 hby hT (by omega) (by omega) (fun M2 g1 g2 g3 => ⟨_, rfl, ?_⟩)
  · simp only [qseg_zero, List.length_nil] at this
    exact zcvv rfl this
  · simp only [↓rX7_raise_22, ↓rX7_raise_23, ↓reduceIte, zkeep_n, zkeep_i, zkeep_r, zkeep_l, zup_eq, zIR, zLR, List.length_cons, List.length_nil, Nat.reduceAdd, Nat.reduceLeDiff, Nat.reduceEqDiff, Nat.reduceSub, Int.reduceLE, Int.reduceLT, Int.reduceEq, Int.reduceNe, Int.reduceNeg, Int.reduceAdd, Int.reduceSub, Int.reduceMul, Int.reduceToNat, Nat.le_refl, Nat.zero_le, Nat.zero_add, Int.zero_add, Int.add_zero, and_true, true_and, and_false, false_and, not_true_eq_false, not_false_eq_true, eq_self, ne_eq, true_implies, false_implies, implies_true, or_true, true_or, or_false, false_or, reduceCtorEq, Option.some.injEq, Sum.inl.injEq, exists_eq_left', exists_eq_left, zite]
    exact hR M2 (fun k i hk => (g1 k i hk).trans (f1 k i hk)) g3
set_option maxRecDepth 100000 in
set_option maxHeartbeats 4000000 in
theorem s_raise12 {S M g : zM} {R : zP} {n T : Nat} {m kept : Int} (hC : CW S M) (hF : FR 12 n g M) (hT : T < 20) (h0 : 0 ≤ m) (h1 : m < qn S 0)
    (hR : ∀ M', (∀ k i, ¬ (23 ≤ k ∧ k ≤ 26) → M' k i = M k i) → PV 23 M' (wseg S g n (kpm kept) (wbyS S m) m 0 (T + 1) (wst S m)) → R none M') : tX7_raise [.inr (.inr 0), .inr (.inr 12), .inl m, .inl T, .inl kept] M R := by
  have hq := (hC.1 0 (by decide))
  simp only [↓eX7_raise, ↓rX7_raise_0, ↓rX7_raise_1, ↓rX7_raise_4, ↓rX7_raise_5, ↓rX7_raise_8, ↓rX7_raise_9, ↓hg_fX7_14_0, ↓hg_fX7_55_0, ↓reduceIte, zkeep_n, zkeep_i, zkeep_r, zkeep_l, zup_eq, zIR, zLR, List.length_cons, List.length_nil, Nat.reduceAdd, Nat.reduceLeDiff, Nat.reduceEqDiff, Nat.reduceSub, Int.reduceLE, Int.reduceLT, Int.reduceEq, Int.reduceNe, Int.reduceNeg, Int.reduceAdd, Int.reduceSub, Int.reduceMul, Int.reduceToNat, Nat.le_refl, Nat.zero_le, Nat.zero_add, Int.zero_add, Int.add_zero, and_true, true_and, and_false, false_and, not_true_eq_false, not_false_eq_true, eq_self, ne_eq, true_implies, false_implies, implies_true, or_true, true_or, or_false, false_or, reduceCtorEq, Option.some.injEq, Sum.inl.injEq, exists_eq_left', exists_eq_left, zite]
  refine zcnv rfl (s_enterS hC h0 h1 (fun M1 f1 f2 f3 => ⟨rfl, ?_⟩))
  simp only [↓rX7_raise_12, ↓rX7_raise_13, ↓rX7_raise_14, ↓rX7_raise_15, ↓rX7_raise_16, ↓rX7_raise_17, ↓rX7_raise_19, ↓reduceIte, zkeep_n, zkeep_i, zkeep_r, zkeep_l, zup_eq, zIR, zLR, List.length_cons, List.length_nil, Nat.reduceAdd, Nat.reduceLeDiff, Nat.reduceEqDiff, Nat.reduceSub, Int.reduceLE, Int.reduceLT, Int.reduceEq, Int.reduceNe, Int.reduceNeg, Int.reduceAdd, Int.reduceSub, Int.reduceMul, Int.reduceToNat, Nat.le_refl, Nat.zero_le, Nat.zero_add, Int.zero_add, Int.add_zero, and_true, true_and, and_false, false_and, not_true_eq_false, not_false_eq_true, eq_self, ne_eq, true_implies, false_implies, implies_true, or_true, true_or, or_false, false_or, reduceCtorEq, Option.some.injEq, Sum.inl.injEq, exists_eq_left', exists_eq_left, zite]
  have hby := wbyS_R S m
  have := s_bringUp12 (S := S) (M := M1) (g := g) (n := n) (a := 0) (T := T) (m := m) (kept := kept) (R := fun r M' => ∃ v, r = some v ∧ uX7_raise R 22 [some (.inr (.inr 0)), some (.inr (.inr 12)), some (.inl m), some (.inl T), some (.inl kept)] [v] M') (CW_fr hC (fun k i hk => f1 k i (by omega))) (FR_fr hF (fun k i a b => f1 k i (by omega))) f3 (vokb_wst hC.1 h0 h1) (by decide) f2 hby hT (by omega) (by omega) (fun M2 g1 g2 g3 => ⟨_, rfl, ?_⟩)
  · simp only [qseg_zero, List.length_nil] at this
    exact zcvv rfl this
  · simp only [↓rX7_raise_22, ↓rX7_raise_23, ↓reduceIte, zkeep_n, zkeep_i, zkeep_r, zkeep_l, zup_eq, zIR, zLR, List.length_cons, List.length_nil, Nat.reduceAdd, Nat.reduceLeDiff, Nat.reduceEqDiff, Nat.reduceSub, Int.reduceLE, Int.reduceLT, Int.reduceEq, Int.reduceNe, Int.reduceNeg, Int.reduceAdd, Int.reduceSub, Int.reduceMul, Int.reduceToNat, Nat.le_refl, Nat.zero_le, Nat.zero_add, Int.zero_add, Int.add_zero, and_true, true_and, and_false, false_and, not_true_eq_false, not_false_eq_true, eq_self, ne_eq, true_implies, false_implies, implies_true, or_true, true_or, or_false, false_or, reduceCtorEq, Option.some.injEq, Sum.inl.injEq, exists_eq_left', exists_eq_left, zite]
    exact hR M2 (fun k i hk => (g1 k i hk).trans (f1 k i hk)) g3
