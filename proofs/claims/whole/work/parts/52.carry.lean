def wcar (S : zM) (m c : Int) (t : Nat) : Int → Int := wseg S (gt S) (nf S) kall (wbyS S m) m ((t + 1 : Nat) : Int) (19 - t) (drS S (wbyS S m) c (wV S m t))
theorem vokb_seg2 {S g : zM} {n : Nat} {kp : Int → Bool} {m by_ b : Int} {v : Int → Int} (hq : QR S) (hb : 0 ≤ by_) (hv : vokb b v) (hg : ∀ f : Nat, f < n → (0 ≤ g 1 f ∧ g 1 f < 20) ∧ 0 ≤ g 3 f) (hn : n ≤ 8) {a T : Nat} (hT : a + T ≤ 20) : vokb (b + 32) (wseg S g n kp by_ m (a : Nat) T v) := by
  rw [wseg_fold]
  have h := vokb_fold (g := g) (kp := kp) (m := m) hq hb (qseg n (g 1) a T) b _ (fun f hf => (hg f (qseg_mem.mp hf).1).2) hv
  have hlen := qseg_len (n := n) (ft := g 1) n (fun f hf => (hg f hf).1)
  have : (qseg n (g 1) a T).length ≤ n := by
    unfold qord at hlen
    rw [show (20 : Nat) = a + (T + (20 - a - T)) by omega, qseg_add, qseg_add, List.length_append, List.length_append, Nat.zero_add] at hlen
    omega
  exact ⟨h.1, h.2.1, h.2.2.1, h.2.2.2.1, by have := h.2.2.2.2; omega⟩
theorem vokb_wcar {S M : zM} (h : RX S M) {m c : Int} {t : Nat} (h0 : 0 ≤ m) (h1 : m < qn S 0) (c0 : 0 ≤ c) (c1 : c < qn S 1) (ht : t < 20) : vokb 68 (wcar S m c t) := vokb_seg2 h.2.2.2.1.1 (wbyS_R S m).1 (vokb_drS h.2.2.2.1.1 (wbyS_R S m).1 c0 c1 (RX_V h h0 h1 ht)) (FR_g h.2.2.2.2.1.2) h.2.2.2.2.1.2.2.1 (by omega)
set_option maxRecDepth 100000 in
set_option maxHeartbeats 4000000 in
theorem s_saysAye {S M : zM} {R : zP} {m c te qu : Int} (h : RX S M) (hm : 0 ≤ m ∧ m < qn S 0) (hc : 0 ≤ c ∧ c < qn S 1) (ht : 0 ≤ te ∧ te < 20) (hqu : 0 ≤ qu ∧ qu < 4)
    (h1 : ∀ M', QF M M' → 5 ≤ wcar S m c te.toNat qu → R (some (.inl 1)) M') (h0 : ∀ M', QF M M' → ¬ 5 ≤ wcar S m c te.toNat qu → R (some (.inl 0)) M') : tX7_saysAyeWith [.inr (.inr 0), .inl m, .inl c, .inl te, .inl qu] M R := by
  have hC := h.2.2.2.1
  have hF := h.2.2.2.2.1.2
  have hq := (hC.1 0 (by decide)).1
  have hby := wbyS_R S m
  have hv := RX_V h hm.1 hm.2 (T := te.toNat) (by omega)
  have hvc := vokb_wcar h hm.1 hm.2 hc.1 hc.2 (t := te.toNat) (by omega)
  have hk255 : ∀ f : Nat, f < nf S → kpm 255 f = kall f := fun f hf => kpm_255d ⟨f, by have := hF.2.1; omega⟩
  simp only [↓eX7_saysAyeWith, ↓rX7_saysAyeWith_0, ↓rX7_saysAyeWith_1, ↓rX7_saysAyeWith_4, ↓rX7_saysAyeWith_5, ↓rX7_saysAyeWith_8, ↓rX7_saysAyeWith_9, ↓hg_fX7_14_0, ↓hg_fX7_55_0, ↓reduceIte, zkeep_n, zkeep_i, zkeep_r, zkeep_l, zup_eq, zIR, zLR, List.length_cons, List.length_nil, Nat.reduceAdd, Nat.reduceLeDiff, Nat.reduceEqDiff, Nat.reduceSub, Int.reduceLE, Int.reduceLT, Int.reduceEq, Int.reduceNe, Int.reduceNeg, Int.reduceAdd, Int.reduceSub, Int.reduceMul, Int.reduceToNat, Nat.le_refl, Nat.zero_le, Nat.zero_add, Int.zero_add, Int.add_zero, and_true, true_and, and_false, false_and, not_true_eq_false, not_false_eq_true, eq_self, ne_eq, true_implies, false_implies, implies_true, or_true, true_or, or_false, false_or, reduceCtorEq, Option.some.injEq, Sum.inl.injEq, exists_eq_left', exists_eq_left, zite]
  refine zcnv rfl (s_enterS hC hm.1 hm.2 (fun M1 f1 f2 f3 => ⟨rfl, ?_⟩))
  simp only [↓rX7_saysAyeWith_12, ↓rX7_saysAyeWith_13, ↓rX7_saysAyeWith_14, ↓rX7_saysAyeWith_17, ↓rX7_saysAyeWith_18, ↓rX7_saysAyeWith_19, ↓rX7_saysAyeWith_20, ↓rX7_saysAyeWith_23, ↓hg_fX7_28_0, ↓reduceIte, zkeep_n, zkeep_i, zkeep_r, zkeep_l, zup_eq, zIR, zLR, List.length_cons, List.length_nil, Nat.reduceAdd, Nat.reduceLeDiff, Nat.reduceEqDiff, Nat.reduceSub, Int.reduceLE, Int.reduceLT, Int.reduceEq, Int.reduceNe, Int.reduceNeg, Int.reduceAdd, Int.reduceSub, Int.reduceMul, Int.reduceToNat, Nat.le_refl, Nat.zero_le, Nat.zero_add, Int.zero_add, Int.add_zero, and_true, true_and, and_false, false_and, not_true_eq_false, not_false_eq_true, eq_self, ne_eq, true_implies, false_implies, implies_true, or_true, true_or, or_false, false_or, reduceCtorEq, Option.some.injEq, Sum.inl.injEq, exists_eq_left', exists_eq_left, zite]
  have B1 := s_bringUp7 (S := S) (M := M1) (g := gt S) (n := nf S) (a := 0) (T := te.toNat) (m := m) (kept := 255) (R := fun r M' => ∃ v, r = some v ∧ uX7_saysAyeWith R 26 [some (.inr (.inr 0)), some (.inl m), some (.inl c), some (.inl te), some (.inl qu), none] [v] M') (CW_fr hC (fun k i hk => f1 k i (by omega))) (FR_fr hF (fun k i a b => f1 k i (by omega))) f3 (vokb_wst hC.1 hm.1 hm.2) (by decide) f2 hby (by omega) (by omega) (by omega) (fun M2 g1 g2 g3 => ⟨_, rfl, ?_⟩)
  · simp only [qseg_zero, List.length_nil] at B1
    rw [Int.toNat_of_nonneg ht.1] at B1
    exact zcvv rfl B1
  · have g3 : PV 23 M2 (wV S m te.toNat) := by
      unfold wV wvec
      rw [← wseg_kp hk255]
      exact g3
    have hfr2 : ∀ k i, ¬ (23 ≤ k ∧ k ≤ 26) → M2 k i = M k i := fun k i hk => (g1 k i hk).trans (f1 k i hk)
    simp only [↓rX7_saysAyeWith_26, ↓rX7_saysAyeWith_28, ↓rX7_saysAyeWith_29, ↓rX7_saysAyeWith_32, ↓rX7_saysAyeWith_33, ↓rX7_saysAyeWith_36, ↓rX7_saysAyeWith_37, ↓hg_fX7_22_0, ↓hg_fX7_55_0, ↓reduceIte, zkeep_n, zkeep_i, zkeep_r, zkeep_l, zup_eq, zIR, zLR, List.length_cons, List.length_nil, Nat.reduceAdd, Nat.reduceLeDiff, Nat.reduceEqDiff, Nat.reduceSub, Int.reduceLE, Int.reduceLT, Int.reduceEq, Int.reduceNe, Int.reduceNeg, Int.reduceAdd, Int.reduceSub, Int.reduceMul, Int.reduceToNat, Nat.le_refl, Nat.zero_le, Nat.zero_add, Int.zero_add, Int.add_zero, and_true, true_and, and_false, false_and, not_true_eq_false, not_false_eq_true, eq_self, ne_eq, true_implies, false_implies, implies_true, or_true, true_or, or_false, false_or, reduceCtorEq, Option.some.injEq, Sum.inl.injEq, exists_eq_left', exists_eq_left, zite]
    refine zcnv rfl (s_drS23 (CW_fr hC (fun k i hk => hfr2 k i (by omega))) hc.1 hc.2 g3 hv (by decide) g2 hby (fun M3 k1 k2 k3 => ⟨rfl, ?_⟩))
    have hfr3 : ∀ k i, ¬ (23 ≤ k ∧ k ≤ 26) → M3 k i = M k i := fun k i hk => (k1 k i hk).trans (hfr2 k i hk)
    have hv3 := vokb_drS hC.1 hby.1 hc.1 hc.2 hv
    simp only [↓rX7_saysAyeWith_40, ↓rX7_saysAyeWith_41, ↓rX7_saysAyeWith_42, ↓rX7_saysAyeWith_45, ↓rX7_saysAyeWith_46, ↓rX7_saysAyeWith_48, ↓rX7_saysAyeWith_50, ↓rX7_saysAyeWith_53, ↓hg_fX7_28_0, ↓reduceIte, zkeep_n, zkeep_i, zkeep_r, zkeep_l, zup_eq, zIR, zLR, List.length_cons, List.length_nil, Nat.reduceAdd, Nat.reduceLeDiff, Nat.reduceEqDiff, Nat.reduceSub, Int.reduceLE, Int.reduceLT, Int.reduceEq, Int.reduceNe, Int.reduceNeg, Int.reduceAdd, Int.reduceSub, Int.reduceMul, Int.reduceToNat, Nat.le_refl, Nat.zero_le, Nat.zero_add, Int.zero_add, Int.add_zero, and_true, true_and, and_false, false_and, not_true_eq_false, not_false_eq_true, eq_self, ne_eq, true_implies, false_implies, implies_true, or_true, true_or, or_false, false_or, reduceCtorEq, Option.some.injEq, Sum.inl.injEq, exists_eq_left', exists_eq_left, zite]
    have B2 := s_bringUp7 (S := S) (M := M3) (g := gt S) (n := nf S) (a := te.toNat + 1) (T := 19) (m := m) (kept := 255) (R := fun r M' => ∃ v, r = some v ∧ uX7_saysAyeWith R 56 [some (.inr (.inr 0)), some (.inl m), some (.inl c), some (.inl te), some (.inl qu), some (.inl ((qseg (nf S) (gt S 1) 0 (te.toNat + 1)).length : Nat))] [v] M') (CW_fr hC (fun k i hk => hfr3 k i (by omega))) (FR_fr hF (fun k i a b => hfr3 k i (by omega))) k3 hv3 (by decide) k2 hby (by decide) (by omega) (by omega) (fun M4 j1 j2 j3 => ⟨_, rfl, ?_⟩)
    · exact zcvv rfl B2
    · have j3 : PV 23 M4 (wcar S m c te.toNat) := by
        unfold wcar
        rw [← wseg_kp hk255]
        have e : 19 + 1 - (te.toNat + 1) = 19 - te.toNat := by omega
        rw [e] at j3
        exact j3
      have hfr4 : QF M M4 := QF.of (fun k i hk => (j1 k i hk).trans (hfr3 k i hk))
      have c24 : M4 24 qu = wcar S m c te.toNat qu := (j3.1 qu hqu.1 hqu.2).1
      have r24 := hvc.1 qu (by omega) (by omega)
      have h1 := h1 M4 hfr4
      have h0 := h0 M4 hfr4
      simp only [↓rX7_saysAyeWith_56, ↓rX7_saysAyeWith_57, ↓rX7_saysAyeWith_58, ↓rX7_saysAyeWith_61, ↓rX7_saysAyeWith_64, ↓rX7_saysAyeWith_66, ↓rX7_saysAyeWith_67, ↓rX7_saysAyeWith_68, ↓rX7_saysAyeWith_71, ↓rX7_saysAyeWith_72, ↓rX7_saysAyeWith_76, ↓rX7_saysAyeWith_75, ↓hg_fX7_146_23, ↓hg_fX7_146_27, ↓hg_fX7_55_0, ↓hr_10, ↓hr_11, ↓hr_13, ↓hr_14, ↓hr_15, ↓hr_16, ↓hr_18, ↓hr_19, ↓hr_2, ↓hr_20, ↓hr_21, ↓hr_24, ↓hr_25, ↓hr_26, ↓hr_28, ↓hr_29, ↓hr_3, ↓hr_30, ↓hr_33, ↓hr_34, ↓hr_35, ↓hr_36, ↓hr_37, ↓hr_39, ↓hr_41, ↓hr_43, ↓hr_45, ↓hr_5, ↓hr_6, ↓hr_8, ↓hr_9, ↓hr_fX7_104, ↓hw_10, ↓hw_11, ↓hw_13, ↓hw_14, ↓hw_15, ↓hw_16, ↓hw_18, ↓hw_19, ↓hw_2, ↓hw_20, ↓hw_21, ↓hw_24, ↓hw_25, ↓hw_26, ↓hw_28, ↓hw_29, ↓hw_3, ↓hw_30, ↓hw_33, ↓hw_34, ↓hw_35, ↓hw_36, ↓hw_37, ↓hw_39, ↓hw_41, ↓hw_43, ↓hw_45, ↓hw_5, ↓hw_6, ↓hw_8, ↓hw_9, ↓reduceIte, zkeep_n, zkeep_i, zkeep_r, zkeep_l, zup_eq, zIR, zLR, List.length_cons, List.length_nil, Nat.reduceAdd, Nat.reduceLeDiff, Nat.reduceEqDiff, Nat.reduceSub, Int.reduceLE, Int.reduceLT, Int.reduceEq, Int.reduceNe, Int.reduceNeg, Int.reduceAdd, Int.reduceSub, Int.reduceMul, Int.reduceToNat, Nat.le_refl, Nat.zero_le, Nat.zero_add, Int.zero_add, Int.add_zero, and_true, true_and, and_false, false_and, not_true_eq_false, not_false_eq_true, eq_self, ne_eq, true_implies, false_implies, implies_true, or_true, true_or, or_false, false_or, reduceCtorEq, Option.some.injEq, Sum.inl.injEq, exists_eq_left', exists_eq_left, c24, zite]
      repeat' (first | with_reducible apply And.intro | with_reducible intro _)
      all_goals first | omega | (exact h1 (by omega)) | (exact h0 (by omega))
def wmxv (f : Nat → Int) : Nat → Int
  | 0 => -1
  | n + 1 => if wmxv f n < f n then f n else wmxv f n
def wmxi (f : Nat → Int) : Nat → Int
  | 0 => -1
  | n + 1 => if wmxv f n < f n then (n : Int) else wmxi f n
theorem wmxv_s (f : Nat → Int) (n : Nat) : wmxv f (n + 1) = if wmxv f n < f n then f n else wmxv f n := rfl
theorem wmxi_s (f : Nat → Int) (n : Nat) : wmxi f (n + 1) = if wmxv f n < f n then (n : Int) else wmxi f n := rfl
def wcs (S : zM) (te : Nat) (qu : Int) (m c : Nat) : Int := wct (pay S 19 qu) (qk S) - (if pay S 19 qu m = true then 1 else 0) + (if 5 ≤ wcar S m c te qu then 1 else 0)
def wcf (S : zM) (te : Nat) (qu : Int) : Nat → Int := fun code => wcs S te qu (code / ck S) (code % ck S)
def wcw (S : zM) (te : Nat) (qu : Int) (n : Nat) : Int := if wmxi (wcf S te qu) n = -1 then -1 else wmxi (wcf S te qu) n / ck S
def wcx (S : zM) (te : Nat) (qu : Int) (n : Nat) : Int := if wmxi (wcf S te qu) n = -1 then -1 else wmxi (wcf S te qu) n % ck S
def aCarry (S : zM) (te qu wh : Int) : Int := if (0 ≤ te ∧ te < 20) ∧ (0 ≤ qu ∧ qu < 4) ∧ (0 ≤ wh ∧ wh < 3) then (if wh = 0 then wcw S te.toNat qu (qk S * ck S) else if wh = 1 then wcx S te.toNat qu (qk S * ck S) else wmxv (wcf S te.toNat qu) (qk S * ck S)) else -2
theorem zoth_d : ∀ m : Fin 8, ∀ b : Fin 256, (0 ≤ zand b.val (zxor (zshl 1 m.val) (-1)) ∧ zand b.val (zxor (zshl 1 m.val) (-1)) < 256) ∧ wones (zand b.val (zxor (zshl 1 m.val) (-1))) = wones b.val - (b.val : Int) / 2 ^ m.val % 2 := by decide +kernel
theorem wmxv_R {f : Nat → Int} {B : Int} (h : ∀ n, 0 ≤ f n ∧ f n ≤ B) (hB : 0 ≤ B) : ∀ n, -1 ≤ wmxv f n ∧ wmxv f n ≤ B
  | 0 => by simp [wmxv]; omega
  | n + 1 => by
    have := wmxv_R h hB n
    have := h n
    unfold wmxv
    split <;> omega
theorem wct_R (p : Nat → Bool) : ∀ k : Nat, 0 ≤ wct p k ∧ wct p k ≤ k
  | 0 => by simp [wct]
  | k + 1 => by
    have := wct_R p k
    unfold wct
    split <;> omega
theorem wct_in {p : Nat → Bool} {m : Nat} (hm : p m = true) : ∀ k : Nat, m < k → 1 ≤ wct p k
  | 0, h => by omega
  | k + 1, h => by
    have h1 := wct_R p k
    unfold wct
    by_cases e : m = k
    · subst e
      rw [if_pos hm]
      omega
    · have := wct_in hm k (by omega)
      split <;> omega
set_option maxRecDepth 100000 in
set_option maxHeartbeats 8000000 in
theorem x_carry {S M : zM} {R : zP} {te qu wh : Int} (h : RX S M) (z1 : zIR te) (z2 : zIR qu) (z4 : zIR wh) (hR : ∀ M', QF M M' → R (some (.inl (aCarry S te qu wh))) M') : tX7_carry [.inr (.inr 0), .inl te, .inl qu, .inl wh] M R := by
  have hqn := (h.2.2.2.1.1 0 (by decide)).1
  have hq1 := (h.2.2.2.1.1 1 (by decide)).1
  have hqk : (qk S : Int) = qn S 0 := by unfold qk; omega
  have hck : (ck S : Int) = qn S 1 := by unfold ck; omega
  have hk8 : qk S ≤ 8 := by omega
  unfold zIR at z1 z2 z4
  have bad : ¬ ((0 ≤ te ∧ te < 20) ∧ (0 ≤ qu ∧ qu < 4) ∧ (0 ≤ wh ∧ wh < 3)) → R (some (.inl (-2))) M := fun hb => by
    have := hR M QF.rfl
    unfold aCarry at this
    rw [if_neg hb] at this
    exact this
  have call : ((0 ≤ te ∧ te < 20) ∧ (0 ≤ qu ∧ qu < 4) ∧ (0 ≤ wh ∧ wh < 3)) → zcv (zv 7 tX7_ayes) [.inr (.inr 0), .inl 19, .inl qu] M (fun v M' => uX7_carry R 35 [some (.inr (.inr 0)), some (.inl te), some (.inl qu), some (.inl wh), none, none, none, none, none, none, none, none] [v] M') := by
    intro hg
    unfold aCarry at hR
    rw [if_pos hg] at hR
    refine zcvv rfl (RX_ayes h (by decide) hg.2.1 (fun M1 f1 => ⟨_, rfl, ?_⟩))
    rw [show (19 : Int).toNat = 19 by rfl]
    have hM1 : QF M M1 := QF.of f1
    have hp8 := wbs_8 (pay S 19 qu) hk8
    have ho : ∀ m : Nat, m < qk S → zbc (zand (wbs (pay S 19 qu) (qk S)) (zxor (zshl 1 m) (-1))) = wct (pay S 19 qu) (qk S) - (if pay S 19 qu m = true then 1 else 0) := fun m hm => by
      have := zoth_d ⟨m, by omega⟩ ⟨(wbs (pay S 19 qu) (qk S)).toNat, by omega⟩
      simp only [Int.toNat_of_nonneg hp8.1] at this
      rw [wbs_bit _ _ m hk8 hm, wones_wbs _ _ hk8] at this
      rw [zbc_at this.1.1 this.1.2, this.2]
    generalize hW : wbs (pay S 19 qu) (qk S) = W at *
    have hct := wct_R (pay S 19 qu) (qk S)
    have hfr : ∀ m c, m < qk S → 0 ≤ wcs S te.toNat qu m c ∧ wcs S te.toNat qu m c ≤ 9 := fun m c hm => by
      unfold wcs
      have hpm : pay S 19 qu m = true → 1 ≤ wct (pay S 19 qu) (qk S) := fun hp => wct_in hp _ hm
      split
      · rename_i hp
        have := hpm hp
        split <;> omega
      · split <;> omega
    have base : ∀ n : Nat, n ≤ qk S * ck S → -1 ≤ wmxv (wcf S te.toNat qu) n ∧ wmxv (wcf S te.toNat qu) n ≤ 9 := by
      intro n
      induction n with
      | zero => intro _; simp [wmxv]
      | succ n ih =>
        intro hn
        have i1 := ih (by omega)
        have hlt : n / ck S < qk S := Nat.div_lt_of_lt_mul (by rw [Nat.mul_comm]; omega)
        have i2 := hfr (n / ck S) (n % ck S) hlt
        unfold wmxv
        have : wcf S te.toNat qu n = wcs S te.toNat qu (n / ck S) (n % ck S) := rfl
        rw [this]
        split <;> omega
    have L2 : ∀ t : Nat × Nat × zM, (t.1 < qk S ∧ t.2.1 ≤ ck S ∧ QF M t.2.2) → ∀ x11, uX7_carry R 78 [some (.inr (.inr 0)), some (.inl te), some (.inl qu), some (.inl wh), some (.inl W), some (.inl (wmxv (wcf S te.toNat qu) (t.1 * ck S + t.2.1))), some (.inl (wcw S te.toNat qu (t.1 * ck S + t.2.1))), some (.inl (wcx S te.toNat qu (t.1 * ck S + t.2.1))), some (.inl (t.1 : Int)), some (.inl (wct (pay S 19 qu) (qk S) - (if pay S 19 qu t.1 = true then 1 else 0))), some (.inl (t.2.1 : Int)), x11] [] t.2.2 := by
      refine zind (fun t => (qk S - t.1) * (ck S + 1) + (ck S - t.2.1)) ?_
      rintro ⟨m, c, N⟩ ⟨hm, hc, hN⟩ ih x11
      simp only at hm hc hN ih
      have hRN := RX_qf h hN
      have n1 : N 1 5 = qn S 0 := hRN.2.2.2.1.2.1
      have n2 : N 4 5 = qn S 1 := hRN.2.2.2.1.2.2.1
      refine rX7_carry_78.mpr ?_
      by_cases hce : c = ck S
      · have hcode : m * ck S + c = (m + 1) * ck S + 0 := by rw [hce, Nat.add_mul]; omega
        rw [hcode]
        by_cases hme : m + 1 = qk S
        · rw [hme, Nat.add_zero]
          have fin := hR N hN
          simp only [↓rX7_carry_49, ↓rX7_carry_51, ↓rX7_carry_52, ↓rX7_carry_55, ↓rX7_carry_58, ↓rX7_carry_139, ↓rX7_carry_140, ↓rX7_carry_143, ↓rX7_carry_145, ↓rX7_carry_160, ↓rX7_carry_148, ↓rX7_carry_149, ↓rX7_carry_150, ↓rX7_carry_153, ↓rX7_carry_155, ↓rX7_carry_158, ↓rX7_carry_80, ↓rX7_carry_81, ↓rX7_carry_84, ↓rX7_carry_87, ↓rX7_carry_133, ↓rX7_carry_136, ↓hg_fX7_116_1, ↓hg_fX7_116_4, ↓hg_fX7_14_0, ↓hg_fX7_22_0, ↓reduceIte, zkeep_n, zkeep_i, zkeep_r, zkeep_l, zup_eq, zIR, zLR, List.length_cons, List.length_nil, Nat.reduceAdd, Nat.reduceLeDiff, Nat.reduceEqDiff, Nat.reduceSub, Int.reduceLE, Int.reduceLT, Int.reduceEq, Int.reduceNe, Int.reduceNeg, Int.reduceAdd, Int.reduceSub, Int.reduceMul, Int.reduceToNat, Nat.le_refl, Nat.zero_le, Nat.zero_add, Int.zero_add, Int.add_zero, and_true, true_and, and_false, false_and, not_true_eq_false, not_false_eq_true, eq_self, ne_eq, true_implies, false_implies, implies_true, or_true, true_or, or_false, false_or, reduceCtorEq, Option.some.injEq, Sum.inl.injEq, exists_eq_left', exists_eq_left, n1, n2, zite]
          repeat' (first | with_reducible apply And.intro | with_reducible intro _)
          all_goals first | omega | (rw [if_pos (by omega)] at fin; exact fin) | (rw [if_neg (by omega), if_pos (by omega)] at fin; exact fin) | (rw [if_neg (by omega), if_neg (by omega)] at fin; exact fin)
        · have nx := ih (m + 1, 0, N) ⟨by simp only; omega, Nat.zero_le _, hN⟩ (by
            simp only
            have e : qk S - m = (qk S - (m + 1)) + 1 := by omega
            rw [e, Nat.add_mul]
            omega) x11
          have ho2 := ho (m + 1) (by omega)
          rw [show ((m + 1 : Nat) : Int) = (m : Int) + 1 by omega] at ho2
          simp only [show (((m + 1, 0, N) : Nat × Nat × zM).1 : Int) = (m : Int) + 1 by simp only; omega] at nx
          simp only [↓rX7_carry_49, ↓rX7_carry_51, ↓rX7_carry_52, ↓rX7_carry_55, ↓rX7_carry_58, ↓rX7_carry_61, ↓rX7_carry_63, ↓rX7_carry_64, ↓rX7_carry_66, ↓rX7_carry_67, ↓rX7_carry_68, ↓rX7_carry_69, ↓rX7_carry_70, ↓rX7_carry_73, ↓rX7_carry_75, ↓rX7_carry_76, ↓rX7_carry_139, ↓rX7_carry_140, ↓rX7_carry_143, ↓rX7_carry_145, ↓rX7_carry_160, ↓rX7_carry_148, ↓rX7_carry_149, ↓rX7_carry_150, ↓rX7_carry_153, ↓rX7_carry_155, ↓rX7_carry_158, ↓rX7_carry_80, ↓rX7_carry_81, ↓rX7_carry_84, ↓rX7_carry_87, ↓rX7_carry_133, ↓rX7_carry_136, ↓hg_fX7_116_1, ↓hg_fX7_116_4, ↓hg_fX7_14_0, ↓hg_fX7_22_0, ↓i_bitCount, ↓reduceIte, zkeep_n, zkeep_i, zkeep_r, zkeep_l, zup_eq, zIR, zLR, List.length_cons, List.length_nil, Nat.reduceAdd, Nat.reduceLeDiff, Nat.reduceEqDiff, Nat.reduceSub, Int.reduceLE, Int.reduceLT, Int.reduceEq, Int.reduceNe, Int.reduceNeg, Int.reduceAdd, Int.reduceSub, Int.reduceMul, Int.reduceToNat, Nat.le_refl, Nat.zero_le, Nat.zero_add, Int.zero_add, Int.add_zero, and_true, true_and, and_false, false_and, not_true_eq_false, not_false_eq_true, eq_self, ne_eq, true_implies, false_implies, implies_true, or_true, true_or, or_false, false_or, reduceCtorEq, Option.some.injEq, Sum.inl.injEq, exists_eq_left', exists_eq_left, n1, n2, ho2, zite]
          repeat' (first | with_reducible apply And.intro | with_reducible intro _)
          all_goals first | omega | (exact nx)
      · have hcd : (m * ck S + c) / ck S = m := by
          rw [Nat.mul_comm, Nat.mul_add_div (by omega), Nat.div_eq_of_lt (by omega), Nat.add_zero]
        have hcm : (m * ck S + c) % ck S = c := by
          rw [Nat.mul_comm, Nat.mul_add_mod, Nat.mod_eq_of_lt (by omega)]
        have hf : wcf S te.toNat qu (m * ck S + c) = wcs S te.toNat qu m c := by unfold wcf; rw [hcd, hcm]
        have hlt : m * ck S + c < qk S * ck S := by
          have : (m + 1) * ck S ≤ qk S * ck S := Nat.mul_le_mul_right _ (by omega)
          rw [Nat.add_mul] at this
          omega
        have b1 := base (m * ck S + c) (by omega)
        have b2 := hfr m c hm
        have hdI : ((m * ck S + c : Nat) : Int) / (ck S : Int) = m := by rw [← Int.natCast_ediv, hcd]
        have hmI : ((m * ck S + c : Nat) : Int) % (ck S : Int) = c := by rw [← Int.natCast_emod, hcm]
        have nxt : ∀ N', QF M N' → ∀ y, (wcs S te.toNat qu m c ≤ wmxv (wcf S te.toNat qu) (m * ck S + c) → uX7_carry R 78 [some (.inr (.inr 0)), some (.inl te), some (.inl qu), some (.inl wh), some (.inl W), some (.inl (wmxv (wcf S te.toNat qu) (m * ck S + c))), some (.inl (wcw S te.toNat qu (m * ck S + c))), some (.inl (wcx S te.toNat qu (m * ck S + c))), some (.inl (m : Int)), some (.inl (wct (pay S 19 qu) (qk S) - (if pay S 19 qu m = true then 1 else 0))), some (.inl ((c : Int) + 1)), y] [] N') ∧ (wmxv (wcf S te.toNat qu) (m * ck S + c) < wcs S te.toNat qu m c → uX7_carry R 78 [some (.inr (.inr 0)), some (.inl te), some (.inl qu), some (.inl wh), some (.inl W), some (.inl (wcs S te.toNat qu m c)), some (.inl (m : Int)), some (.inl (c : Int)), some (.inl (m : Int)), some (.inl (wct (pay S 19 qu) (qk S) - (if pay S 19 qu m = true then 1 else 0))), some (.inl ((c : Int) + 1)), y] [] N') := by
          intro N' hN' y
          have nx := ih (m, c + 1, N') ⟨hm, by simp only; omega, hN'⟩ (by simp only; omega) y
          simp only [show m * ck S + (c + 1) = (m * ck S + c) + 1 by omega] at nx
          simp only [wcw, wcx, wmxv_s, wmxi_s, hf] at nx
          rw [show ((c + 1 : Nat) : Int) = (c : Int) + 1 by omega] at nx
          refine ⟨fun hle => ?_, fun hgt => ?_⟩
          · simp only [if_neg (show ¬ wmxv (wcf S te.toNat qu) (m * ck S + c) < wcs S te.toNat qu m c by omega)] at nx
            exact nx
          · simp only [if_pos hgt, if_neg (show ¬ ((m * ck S + c : Nat) : Int) = -1 by omega), hdI, hmI] at nx
            exact nx
        have hwcs : wcs S te.toNat qu m c = wct (pay S 19 qu) (qk S) - (if pay S 19 qu m = true then 1 else 0) + (if 5 ≤ wcar S m c te.toNat qu then 1 else 0) := rfl
        have call2 : zcv (zv 7 tX7_saysAyeWith) [.inr (.inr 0), .inl (m : Int), .inl (c : Int), .inl te, .inl qu] N (fun v N' => uX7_carry R 102 [some (.inr (.inr 0)), some (.inl te), some (.inl qu), some (.inl wh), some (.inl W), some (.inl (wmxv (wcf S te.toNat qu) (m * ck S + c))), some (.inl (wcw S te.toNat qu (m * ck S + c))), some (.inl (wcx S te.toNat qu (m * ck S + c))), some (.inl (m : Int)), some (.inl (wct (pay S 19 qu) (qk S) - (if pay S 19 qu m = true then 1 else 0))), some (.inl (c : Int)), x11] [v, .inl (wct (pay S 19 qu) (qk S) - (if pay S 19 qu m = true then 1 else 0))] N') := by
          refine zcvv rfl (s_saysAye hRN (by omega) (by omega) hg.1 hg.2.1 (fun N' g1 g2 => ⟨_, rfl, ?_⟩) (fun N' g1 g2 => ⟨_, rfl, ?_⟩))
          · have nx := nxt N' (hN.trans g1)
            rw [if_pos g2] at hwcs
            rw [hwcs] at nx b2
            generalize (wct (pay S 19 qu) (qk S) - (if pay S 19 qu m = true then 1 else 0)) = o at *
            simp only [↓rX7_carry_102, ↓rX7_carry_105, ↓rX7_carry_106, ↓rX7_carry_108, ↓rX7_carry_110, ↓rX7_carry_112, ↓rX7_carry_115, ↓rX7_carry_117, ↓rX7_carry_119, ↓rX7_carry_121, ↓rX7_carry_123, ↓rX7_carry_125, ↓rX7_carry_127, ↓rX7_carry_130, ↓i_bit, ↓reduceIte, zkeep_n, zkeep_i, zkeep_r, zkeep_l, zup_eq, zIR, zLR, List.length_cons, List.length_nil, Nat.reduceAdd, Nat.reduceLeDiff, Nat.reduceEqDiff, Nat.reduceSub, Int.reduceLE, Int.reduceLT, Int.reduceEq, Int.reduceNe, Int.reduceNeg, Int.reduceAdd, Int.reduceSub, Int.reduceMul, Int.reduceToNat, Nat.le_refl, Nat.zero_le, Nat.zero_add, Int.zero_add, Int.add_zero, and_true, true_and, and_false, false_and, not_true_eq_false, not_false_eq_true, eq_self, ne_eq, true_implies, false_implies, implies_true, or_true, true_or, or_false, false_or, reduceCtorEq, Option.some.injEq, Sum.inl.injEq, exists_eq_left', exists_eq_left, zite]
            repeat' (first | with_reducible apply And.intro | with_reducible intro _)
            all_goals first | omega | (exact (nx _).1 (by omega)) | (exact (nx _).2 (by omega))
          · have nx := nxt N' (hN.trans g1)
            rw [if_neg g2, Int.add_zero] at hwcs
            rw [hwcs] at nx b2
            generalize (wct (pay S 19 qu) (qk S) - (if pay S 19 qu m = true then 1 else 0)) = o at *
            simp only [↓rX7_carry_102, ↓rX7_carry_105, ↓rX7_carry_106, ↓rX7_carry_108, ↓rX7_carry_110, ↓rX7_carry_112, ↓rX7_carry_115, ↓rX7_carry_117, ↓rX7_carry_119, ↓rX7_carry_121, ↓rX7_carry_123, ↓rX7_carry_125, ↓rX7_carry_127, ↓rX7_carry_130, ↓i_bit, ↓reduceIte, zkeep_n, zkeep_i, zkeep_r, zkeep_l, zup_eq, zIR, zLR, List.length_cons, List.length_nil, Nat.reduceAdd, Nat.reduceLeDiff, Nat.reduceEqDiff, Nat.reduceSub, Int.reduceLE, Int.reduceLT, Int.reduceEq, Int.reduceNe, Int.reduceNeg, Int.reduceAdd, Int.reduceSub, Int.reduceMul, Int.reduceToNat, Nat.le_refl, Nat.zero_le, Nat.zero_add, Int.zero_add, Int.add_zero, and_true, true_and, and_false, false_and, not_true_eq_false, not_false_eq_true, eq_self, ne_eq, true_implies, false_implies, implies_true, or_true, true_or, or_false, false_or, reduceCtorEq, Option.some.injEq, Sum.inl.injEq, exists_eq_left', exists_eq_left, zite]
            repeat' (first | with_reducible apply And.intro | with_reducible intro _)
            all_goals first | omega | (exact (nx _).1 (by omega)) | (exact (nx _).2 (by omega))
        simp only [↓rX7_carry_80, ↓rX7_carry_81, ↓rX7_carry_84, ↓rX7_carry_87, ↓rX7_carry_90, ↓rX7_carry_92, ↓rX7_carry_93, ↓rX7_carry_95, ↓rX7_carry_97, ↓rX7_carry_98, ↓rX7_carry_99, ↓hg_fX7_116_1, ↓hg_fX7_116_4, ↓hg_fX7_22_0, ↓reduceIte, zkeep_n, zkeep_i, zkeep_r, zkeep_l, zup_eq, zIR, zLR, List.length_cons, List.length_nil, Nat.reduceAdd, Nat.reduceLeDiff, Nat.reduceEqDiff, Nat.reduceSub, Int.reduceLE, Int.reduceLT, Int.reduceEq, Int.reduceNe, Int.reduceNeg, Int.reduceAdd, Int.reduceSub, Int.reduceMul, Int.reduceToNat, Nat.le_refl, Nat.zero_le, Nat.zero_add, Int.zero_add, Int.add_zero, and_true, true_and, and_false, false_and, not_true_eq_false, not_false_eq_true, eq_self, ne_eq, true_implies, false_implies, implies_true, or_true, true_or, or_false, false_or, reduceCtorEq, Option.some.injEq, Sum.inl.injEq, exists_eq_left', exists_eq_left, n1, n2, zite]
        repeat' (first | with_reducible apply And.intro | with_reducible intro _)
        all_goals first | omega | (exact call2)
    have hRN := RX_qf h hM1
    have n1 : M1 1 5 = qn S 0 := hRN.2.2.2.1.2.1
    by_cases hz : qk S = 0
    · have fin := hR M1 hM1
      rw [hz, Nat.zero_mul] at fin
      simp only [wcw, wcx, wmxv, wmxi, if_true] at fin
      simp only [↓rX7_carry_35, ↓rX7_carry_37, ↓rX7_carry_38, ↓rX7_carry_40, ↓rX7_carry_41, ↓rX7_carry_43, ↓rX7_carry_44, ↓rX7_carry_46, ↓rX7_carry_47, ↓rX7_carry_49, ↓rX7_carry_51, ↓rX7_carry_52, ↓rX7_carry_55, ↓rX7_carry_58, ↓rX7_carry_139, ↓rX7_carry_140, ↓rX7_carry_143, ↓rX7_carry_145, ↓rX7_carry_160, ↓rX7_carry_148, ↓rX7_carry_149, ↓rX7_carry_150, ↓rX7_carry_153, ↓rX7_carry_155, ↓rX7_carry_158, ↓hg_fX7_116_1, ↓hg_fX7_116_4, ↓hg_fX7_14_0, ↓reduceIte, zkeep_n, zkeep_i, zkeep_r, zkeep_l, zup_eq, zIR, zLR, List.length_cons, List.length_nil, Nat.reduceAdd, Nat.reduceLeDiff, Nat.reduceEqDiff, Nat.reduceSub, Int.reduceLE, Int.reduceLT, Int.reduceEq, Int.reduceNe, Int.reduceNeg, Int.reduceAdd, Int.reduceSub, Int.reduceMul, Int.reduceToNat, Nat.le_refl, Nat.zero_le, Nat.zero_add, Int.zero_add, Int.add_zero, and_true, true_and, and_false, false_and, not_true_eq_false, not_false_eq_true, eq_self, ne_eq, true_implies, false_implies, implies_true, or_true, true_or, or_false, false_or, reduceCtorEq, Option.some.injEq, Sum.inl.injEq, exists_eq_left', exists_eq_left, n1, zite]
      repeat' (first | with_reducible apply And.intro | with_reducible intro _)
      all_goals first | omega | (rw [if_pos (by omega)] at fin; exact fin) | (rw [if_neg (by omega), if_pos (by omega)] at fin; exact fin) | (rw [if_neg (by omega), if_neg (by omega)] at fin; exact fin)
    · have ho2 := ho 0 (by omega)
      rw [show ((0 : Nat) : Int) = 0 by rfl] at ho2
      have st := L2 (0, 0, M1) ⟨by simp only; omega, Nat.zero_le _, hM1⟩ none
      simp only [Nat.zero_mul, Nat.add_zero, wcw, wcx, wmxv, wmxi, if_true] at st
      simp only [↓rX7_carry_35, ↓rX7_carry_37, ↓rX7_carry_38, ↓rX7_carry_40, ↓rX7_carry_41, ↓rX7_carry_43, ↓rX7_carry_44, ↓rX7_carry_46, ↓rX7_carry_47, ↓rX7_carry_49, ↓rX7_carry_51, ↓rX7_carry_52, ↓rX7_carry_55, ↓rX7_carry_58, ↓rX7_carry_61, ↓rX7_carry_63, ↓rX7_carry_64, ↓rX7_carry_66, ↓rX7_carry_67, ↓rX7_carry_68, ↓rX7_carry_69, ↓rX7_carry_70, ↓rX7_carry_73, ↓rX7_carry_75, ↓rX7_carry_76, ↓rX7_carry_139, ↓rX7_carry_140, ↓rX7_carry_143, ↓rX7_carry_145, ↓rX7_carry_160, ↓rX7_carry_148, ↓rX7_carry_149, ↓rX7_carry_150, ↓rX7_carry_153, ↓rX7_carry_155, ↓rX7_carry_158, ↓hg_fX7_116_1, ↓hg_fX7_116_4, ↓hg_fX7_14_0, ↓i_bitCount, ↓reduceIte, zkeep_n, zkeep_i, zkeep_r, zkeep_l, zup_eq, zIR, zLR, List.length_cons, List.length_nil, Nat.reduceAdd, Nat.reduceLeDiff, Nat.reduceEqDiff, Nat.reduceSub, Int.reduceLE, Int.reduceLT, Int.reduceEq, Int.reduceNe, Int.reduceNeg, Int.reduceAdd, Int.reduceSub, Int.reduceMul, Int.reduceToNat, Nat.le_refl, Nat.zero_le, Nat.zero_add, Int.zero_add, Int.add_zero, and_true, true_and, and_false, false_and, not_true_eq_false, not_false_eq_true, eq_self, ne_eq, true_implies, false_implies, implies_true, or_true, true_or, or_false, false_or, reduceCtorEq, Option.some.injEq, Sum.inl.injEq, exists_eq_left', exists_eq_left, n1, ho2, zite]
      repeat' (first | with_reducible apply And.intro | with_reducible intro _)
      all_goals first | omega | (exact st)
  simp only [↓eX7_carry, ↓rX7_carry_0, ↓rX7_carry_1, ↓rX7_carry_3, ↓rX7_carry_6, ↓rX7_carry_9, ↓rX7_carry_10, ↓rX7_carry_11, ↓rX7_carry_14, ↓rX7_carry_17, ↓rX7_carry_18, ↓rX7_carry_19, ↓rX7_carry_22, ↓rX7_carry_25, ↓rX7_carry_27, ↓rX7_carry_28, ↓rX7_carry_29, ↓rX7_carry_31, ↓rX7_carry_32, ↓i_outside, ↓reduceIte, zkeep_n, zkeep_i, zkeep_r, zkeep_l, zup_eq, zIR, zLR, List.length_cons, List.length_nil, Nat.reduceAdd, Nat.reduceLeDiff, Nat.reduceEqDiff, Nat.reduceSub, Int.reduceLE, Int.reduceLT, Int.reduceEq, Int.reduceNe, Int.reduceNeg, Int.reduceAdd, Int.reduceSub, Int.reduceMul, Int.reduceToNat, Nat.le_refl, Nat.zero_le, Nat.zero_add, Int.zero_add, Int.add_zero, and_true, true_and, and_false, false_and, not_true_eq_false, not_false_eq_true, eq_self, ne_eq, true_implies, false_implies, implies_true, or_true, true_or, or_false, false_or, reduceCtorEq, Option.some.injEq, Sum.inl.injEq, exists_eq_left', exists_eq_left, zite]
  repeat' (first | with_reducible apply And.intro | with_reducible intro _)
  all_goals first | omega | (exact bad (by omega)) | (exact call (by omega))
