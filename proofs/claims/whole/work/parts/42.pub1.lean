def gt (S : zM) : zM := fun k => S (3 + k)
def nf (S : zM) : Nat := (S 3 0).toNat
def kall : Int → Bool := fun _ => true
def wV (S : zM) (m : Int) (T : Nat) : Int → Int := wvec S (gt S) (nf S) kall m T
def VT (S : zM) : Prop := ∀ k : Nat, k < 2 → (0 ≤ S 0 k ∧ S 0 k ≤ 47) ∧ ∀ i, 0 ≤ i → i < S 0 k → 0 ≤ S (1 + k) i ∧ S (1 + k) i ≤ 255
def TX (S : zM) (k c : Nat) (M : zM) : Prop := M c 3 = S 0 k ∧ (∀ i, 0 ≤ i → i < S 0 k → M (c + 1) i = S (1 + k) i) ∧ M c 4 = qflaw S k
def SR (S M : zM) : Prop := M 17 4 = S 7 0 ∧ (0 ≤ S 7 0 ∧ S 7 0 ≤ 8) ∧ ∀ i, 0 ≤ i → i < S 7 0 → (M 18 i = S 8 i ∧ 0 ≤ S 8 i ∧ S 8 i < 20) ∧ (M 19 i = S 9 i ∧ 0 ≤ S 9 i ∧ S 9 i < 8) ∧ (M 20 i = S 10 i ∧ 0 ≤ S 10 i ∧ S 10 i < 4) ∧ (M 21 i = S 11 i ∧ 0 ≤ S 11 i ∧ S 11 i ≤ 9)
def LR (S M : zM) : Prop := ∀ s : Nat, s < 4 → (S 12 s = 0 ∨ S 12 s = 1) ∧ (S 12 s = 0 → M (38 + 2 * s) 1 = -1) ∧ (S 12 s = 1 → (M (38 + 2 * s) 1 = S 13 s ∧ 0 ≤ S 13 s ∧ S 13 s ≤ 2) ∧ (M (38 + 2 * s) 2 = S 14 s ∧ 0 ≤ S 14 s ∧ S 14 s ≤ 60)) ∧ ∀ i, 0 ≤ i → i < 60 → M (39 + 2 * s) i = S (15 + s) i ∧ zIR (S (15 + s) i)
def RX (S M : zM) : Prop := VT S ∧ TX S 0 1 M ∧ TX S 1 4 M ∧ CW S M ∧ ((0 ≤ S 3 0 ∧ S 3 0 ≤ 8) ∧ FR 7 (nf S) (gt S) M) ∧ SR S M ∧ LR S M ∧ (M 0 6 = S 19 0 ∧ 0 ≤ S 19 0 ∧ S 19 0 ≤ 5)
def QF (M M' : zM) : Prop := ∀ k i, ¬ (12 ≤ k ∧ k ≤ 16) → ¬ (23 ≤ k ∧ k ≤ 37) → M' k i = M k i
theorem RX_qf {S M M' : zM} (h : RX S M) (hf : QF M M') : RX S M' := by
  obtain ⟨h1, h2, h3, h4, h5, h6, h7, h8⟩ := h
  refine ⟨h1, ⟨(hf _ _ (by decide) (by decide)).trans h2.1, fun i a b => (hf _ _ (by decide) (by decide)).trans (h2.2.1 i a b), (hf _ _ (by decide) (by decide)).trans h2.2.2⟩, ⟨(hf _ _ (by decide) (by decide)).trans h3.1, fun i a b => (hf _ _ (by decide) (by decide)).trans (h3.2.1 i a b), (hf _ _ (by decide) (by decide)).trans h3.2.2⟩, CW_fr h4 (fun k i hk => hf k i (by omega) (by omega)), ⟨h5.1, FR_fr h5.2 (fun k i a b => hf k i (by omega) (by omega))⟩, ⟨(hf _ _ (by decide) (by decide)).trans h6.1, h6.2.1, fun i a b => ?_⟩, fun s hs => ?_, (hf _ _ (by decide) (by decide)).trans h8.1, h8.2⟩
  · have := h6.2.2 i a b
    rw [hf 18 _ (by decide) (by decide), hf 19 _ (by decide) (by decide), hf 20 _ (by decide) (by decide), hf 21 _ (by decide) (by decide)]
    exact this
  · have := h7 s hs
    rw [hf (38 + 2 * s) 1 (by omega) (by omega), hf (38 + 2 * s) 2 (by omega) (by omega)]
    refine ⟨this.1, this.2.1, this.2.2.1, fun i a b => ?_⟩
    rw [hf (39 + 2 * s) i (by omega) (by omega)]
    exact this.2.2.2 i a b
theorem QF.of {M M' : zM} (h : ∀ k i, ¬ (23 ≤ k ∧ k ≤ 26) → M' k i = M k i) : QF M M' := fun k i _ b => h k i (by omega)
theorem QF.rfl {M : zM} : QF M M := fun _ _ _ _ => Eq.refl _
theorem QF.trans {M M' M'' : zM} (h : QF M M') (h2 : QF M' M'') : QF M M'' := fun k i a b => (h2 k i a b).trans (h k i a b)
theorem kpm_255d : ∀ f : Fin 8, kpm 255 f.val = true := by decide +kernel
theorem wfeed_kp {S g : zM} {kp kp' : Int → Bool} {by_ m f : Int} {v : Int → Int} (h : kp f = kp' f) : wfeed S g kp by_ m f v = wfeed S g kp' by_ m f v := by
  unfold wfeed
  rw [h]
theorem wterm_kp {S g : zM} {kp kp' : Int → Bool} {by_ m t : Int} {v : Int → Int} : ∀ n : Nat, (∀ f : Nat, f < n → kp f = kp' f) → wterm S g kp by_ m t n v = wterm S g kp' by_ m t n v
  | 0, _ => rfl
  | n + 1, h => by
    unfold wterm
    rw [wterm_kp n (fun f hf => h f (by omega)), wfeed_kp (h n (by omega))]
theorem wseg_kp {S g : zM} {n : Nat} {kp kp' : Int → Bool} {by_ m a : Int} {v : Int → Int} (h : ∀ f : Nat, f < n → kp f = kp' f) : ∀ k : Nat, wseg S g n kp by_ m a k v = wseg S g n kp' by_ m a k v
  | 0 => rfl
  | k + 1 => by
    unfold wseg
    rw [wseg_kp h k, wterm_kp n h]
theorem wvec_255 {S g : zM} {n : Nat} {m : Int} {T : Nat} (hn : n ≤ 8) : wvec S g n (kpm 255) m T = wvec S g n kall m T := wseg_kp (fun f hf => kpm_255d ⟨f, by omega⟩) _
theorem RX_V {S M : zM} (h : RX S M) {m : Int} {T : Nat} (h0 : 0 ≤ m) (h1 : m < qn S 0) (hT : T < 20) : vokb 32 (wV S m T) := vokb_vec h.2.2.2.1.1 h0 h1 (FR_g h.2.2.2.2.1.2) h.2.2.2.2.1.2.2.1 hT
theorem RX_raise {S M : zM} (h : RX S M) {R : zP} {m : Int} {T : Int} (hT : 0 ≤ T ∧ T < 20) (h0 : 0 ≤ m) (h1 : m < qn S 0) (hR : ∀ M', (∀ k i, ¬ (23 ≤ k ∧ k ≤ 26) → M' k i = M k i) → PV 23 M' (wV S m T.toNat) → R none M') : tX7_raise [.inr (.inr 0), .inr (.inr 7), .inl m, .inl T, .inl 255] M R := by
  have := s_raise7 (S := S) (M := M) (g := gt S) (n := nf S) (T := T.toNat) (kept := 255) (R := R) h.2.2.2.1 h.2.2.2.2.1.2 (by omega) h0 h1 (fun M' f1 f2 => hR M' f1 (by
    have e := wvec_255 (S := S) (g := gt S) (m := m) (T := T.toNat) h.2.2.2.2.1.2.2.1
    unfold wV
    rw [← e]
    exact f2))
  rw [Int.toNat_of_nonneg hT.1] at this
  exact this
def aAt (S : zM) (te me qu wh : Int) : Int := if (0 ≤ te ∧ te < 20) ∧ (0 ≤ me ∧ me < qn S 0) ∧ (0 ≤ qu ∧ qu < 4) ∧ (0 ≤ wh ∧ wh < 4) then (if wh = 0 then wV S me te.toNat qu else if wh = 1 then wV S me te.toNat (4 + qu) else if wh = 2 then wV S me te.toNat (8 + qu) else if 5 ≤ wV S me te.toNat qu then 1 else 0) else -2
set_option maxRecDepth 100000 in
set_option maxHeartbeats 4000000 in
theorem x_at {S M : zM} {R : zP} {te me qu wh : Int} (h : RX S M) (z1 : zIR te) (z2 : zIR me) (z3 : zIR qu) (z4 : zIR wh) (hR : ∀ M', QF M M' → R (some (.inl (aAt S te me qu wh))) M') : tX7_at [.inr (.inr 0), .inl te, .inl me, .inl qu, .inl wh] M R := by
  have hqn := (h.2.2.2.1.1 0 (by decide)).1
  have n1 := h.2.2.2.1.2.1
  unfold zIR at z1 z2 z3 z4
  have bad : ¬ ((0 ≤ te ∧ te < 20) ∧ (0 ≤ me ∧ me < qn S 0) ∧ (0 ≤ qu ∧ qu < 4) ∧ (0 ≤ wh ∧ wh < 4)) → R (some (.inl (-2))) M := fun hb => by
    have := hR M QF.rfl
    unfold aAt at this
    rw [if_neg hb] at this
    exact this
  have call : ((0 ≤ te ∧ te < 20) ∧ (0 ≤ me ∧ me < qn S 0) ∧ (0 ≤ qu ∧ qu < 4) ∧ (0 ≤ wh ∧ wh < 4)) → zcn (zv 7 tX7_raise) [.inr (.inr 0), .inr (.inr 7), .inl me, .inl te, .inl 255] M (fun M' => uX7_at R 56 [some (.inr (.inr 0)), some (.inl te), some (.inl me), some (.inl qu), some (.inl wh)] [] M') := by
    intro hg
    refine zcnv rfl (RX_raise h hg.1 hg.2.1.1 hg.2.1.2 (fun M' f1 f2 => ⟨rfl, ?_⟩))
    have fin := hR M' (QF.of f1)
    unfold aAt at fin
    rw [if_pos hg] at fin
    have hv := RX_V h hg.2.1.1 hg.2.1.2 (T := te.toNat) (by omega)
    have v1 := hv.1 qu (by omega) (by omega)
    obtain ⟨c1, c2, c3⟩ := f2.1 qu hg.2.2.1.1 hg.2.2.1.2
    have c1 : M' 24 qu = wV S me te.toNat qu := c1
    have c2 : M' 25 qu = wV S me te.toNat (4 + qu) := c2
    have c3 : M' 26 qu = wV S me te.toNat (8 + qu) := c3
    simp only [↓rX7_at_56, ↓rX7_at_58, ↓rX7_at_104, ↓rX7_at_105, ↓rX7_at_108, ↓rX7_at_111, ↓rX7_at_112, ↓rX7_at_113, ↓rX7_at_94, ↓rX7_at_95, ↓rX7_at_98, ↓rX7_at_101, ↓rX7_at_102, ↓rX7_at_103, ↓rX7_at_84, ↓rX7_at_85, ↓rX7_at_88, ↓rX7_at_91, ↓rX7_at_92, ↓rX7_at_93, ↓rX7_at_114, ↓rX7_at_115, ↓rX7_at_118, ↓rX7_at_121, ↓rX7_at_122, ↓rX7_at_123, ↓rX7_at_124, ↓rX7_at_127, ↓rX7_at_128, ↓rX7_at_132, ↓rX7_at_135, ↓rX7_at_131, ↓hg_fX7_146_23, ↓hg_fX7_146_27, ↓hg_fX7_149_23, ↓hg_fX7_149_27, ↓hg_fX7_152_23, ↓hg_fX7_152_27, ↓hg_fX7_55_0, ↓hr_10, ↓hr_11, ↓hr_13, ↓hr_14, ↓hr_15, ↓hr_16, ↓hr_18, ↓hr_19, ↓hr_2, ↓hr_20, ↓hr_21, ↓hr_24, ↓hr_25, ↓hr_26, ↓hr_28, ↓hr_29, ↓hr_3, ↓hr_30, ↓hr_33, ↓hr_34, ↓hr_35, ↓hr_36, ↓hr_37, ↓hr_39, ↓hr_41, ↓hr_43, ↓hr_45, ↓hr_5, ↓hr_6, ↓hr_8, ↓hr_9, ↓hr_fX7_104, ↓hw_10, ↓hw_11, ↓hw_13, ↓hw_14, ↓hw_15, ↓hw_16, ↓hw_18, ↓hw_19, ↓hw_2, ↓hw_20, ↓hw_21, ↓hw_24, ↓hw_25, ↓hw_26, ↓hw_28, ↓hw_29, ↓hw_3, ↓hw_30, ↓hw_33, ↓hw_34, ↓hw_35, ↓hw_36, ↓hw_37, ↓hw_39, ↓hw_41, ↓hw_43, ↓hw_45, ↓hw_5, ↓hw_6, ↓hw_8, ↓hw_9, ↓i_bit, ↓reduceIte, zkeep_n, zkeep_i, zkeep_r, zkeep_l, zup_eq, zIR, zLR, List.length_cons, List.length_nil, Nat.reduceAdd, Nat.reduceLeDiff, Nat.reduceEqDiff, Nat.reduceSub, Int.reduceLE, Int.reduceLT, Int.reduceEq, Int.reduceNe, Int.reduceNeg, Int.reduceAdd, Int.reduceSub, Int.reduceMul, Int.reduceToNat, Nat.le_refl, Nat.zero_le, Nat.zero_add, Int.zero_add, Int.add_zero, and_true, true_and, and_false, false_and, not_true_eq_false, not_false_eq_true, eq_self, ne_eq, true_implies, false_implies, implies_true, or_true, true_or, or_false, false_or, reduceCtorEq, Option.some.injEq, Sum.inl.injEq, exists_eq_left', exists_eq_left, c1, c2, c3, zite]
    repeat' (first | with_reducible apply And.intro | with_reducible intro _)
    all_goals first | omega | (rw [if_pos (by omega)] at fin; exact fin) | (rw [if_neg (by omega), if_pos (by omega)] at fin; exact fin) | (rw [if_neg (by omega), if_neg (by omega), if_pos (by omega)] at fin; exact fin) | (rw [if_neg (by omega), if_neg (by omega), if_neg (by omega), if_pos (by omega)] at fin; exact fin) | (rw [if_neg (by omega), if_neg (by omega), if_neg (by omega), if_neg (by omega)] at fin; exact fin)
  simp only [↓eX7_at, ↓rX7_at_0, ↓rX7_at_1, ↓rX7_at_3, ↓rX7_at_6, ↓rX7_at_9, ↓rX7_at_10, ↓rX7_at_11, ↓rX7_at_14, ↓rX7_at_17, ↓rX7_at_20, ↓rX7_at_23, ↓rX7_at_24, ↓rX7_at_25, ↓rX7_at_28, ↓rX7_at_31, ↓rX7_at_33, ↓rX7_at_34, ↓rX7_at_37, ↓rX7_at_40, ↓rX7_at_42, ↓rX7_at_43, ↓rX7_at_44, ↓rX7_at_45, ↓rX7_at_48, ↓rX7_at_49, ↓rX7_at_50, ↓rX7_at_53, ↓hg_fX7_116_1, ↓hg_fX7_116_4, ↓hg_fX7_14_0, ↓hg_fX7_28_0, ↓i_outside, ↓reduceIte, zkeep_n, zkeep_i, zkeep_r, zkeep_l, zup_eq, zIR, zLR, List.length_cons, List.length_nil, Nat.reduceAdd, Nat.reduceLeDiff, Nat.reduceEqDiff, Nat.reduceSub, Int.reduceLE, Int.reduceLT, Int.reduceEq, Int.reduceNe, Int.reduceNeg, Int.reduceAdd, Int.reduceSub, Int.reduceMul, Int.reduceToNat, Nat.le_refl, Nat.zero_le, Nat.zero_add, Int.zero_add, Int.add_zero, and_true, true_and, and_false, false_and, not_true_eq_false, not_false_eq_true, eq_self, ne_eq, true_implies, false_implies, implies_true, or_true, true_or, or_false, false_or, reduceCtorEq, Option.some.injEq, Sum.inl.injEq, exists_eq_left', exists_eq_left, n1, zite]
  repeat' (first | with_reducible apply And.intro | with_reducible intro _)
  all_goals first | omega | (exact bad (by omega)) | (exact call (by omega))
