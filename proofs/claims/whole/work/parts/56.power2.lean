def lohi (v : Int → Int) : Prop := ∀ q, 0 ≤ q → q < 4 → v (4 + q) ≤ v (8 + q)
theorem lohi_drink {by_ wa : Int} {mi v : Int → Int} (h : lohi v) : lohi (wdrink by_ wa mi v) := by
  intro q q0 q1
  have := h q q0 q1
  have e1 : wdrink by_ wa mi v (4 + q) = if wsick wa mi v q then v (4 + q) else if mi q < v (4 + q) then mi q else v (4 + q) := by
    unfold wdrink
    rw [if_neg (by omega), if_pos (by omega), show 4 + q - 4 = q by omega]
  have e2 : wdrink by_ wa mi v (8 + q) = if wsick wa mi v q then v (8 + q) else if v (8 + q) < mi q then mi q else v (8 + q) := by
    unfold wdrink
    rw [if_neg (by omega), if_neg (by omega), if_pos (by omega), show 8 + q - 8 = q by omega]
  rw [e1, e2]
  split
  · exact this
  · split <;> split <;> omega
theorem lohi_fold {S g : zM} {kp : Int → Bool} {by_ m : Int} : ∀ (l : List Nat) (v : Int → Int), lohi v → lohi (l.foldl (fun v (f : Nat) => wfeed S g kp by_ m f v) v)
  | [], v, h => h
  | f :: l, v, h => by
    rw [List.foldl_cons]
    refine lohi_fold l _ ?_
    unfold wfeed
    split
    · exact lohi_drink h
    · exact h
theorem lohi_start (so : Int) (fi : Int → Int) : lohi (wstart so fi) := by
  intro q q0 q1
  unfold wstart
  rw [if_neg (by omega), if_pos (by omega), if_neg (by omega), if_neg (by omega), if_pos (by omega), show 4 + q - 4 = q by omega, show 8 + q - 8 = q by omega]
  exact Int.le_refl _
theorem lohi_V (S : zM) (m : Int) (T : Nat) (qu : Int) (h0 : 0 ≤ qu) (h1 : qu < 4) : wV S m T (4 + qu) ≤ wV S m T (8 + qu) := by
  unfold wV wvec
  rw [show ((0 : Int)) = ((0 : Nat) : Int) by rfl, wseg_fold]
  exact lohi_fold _ _ (lohi_start _ _) qu h0 h1
theorem npop_d : ∀ k : Fin 9, ∀ m : Fin 8, ∀ s : Fin 256, s.val < 2 ^ k.val → m.val < k.val → s.val / 2 ^ m.val % 2 = 0 → (0 ≤ wones s.val ∧ wones s.val ≤ (k.val : Int) - 1) := by decide +kernel
theorem zk104_R (j : Int) : 1 ≤ zk104 j ∧ zk104 j ≤ 5040 := by
  unfold zk104
  repeat' split
  all_goals omega
abbrev wpc (wt : Nat → Int) (me k s : Nat) : Prop := s / 2 ^ me % 2 = 0 ∧ 2 * wsw wt s k ≤ wsum wt k ∧ wsum wt k < 2 * (wsw wt s k + wt me)
def wpw (wt : Nat → Int) (me k : Nat) : Nat → Int
  | 0 => 0
  | s + 1 => wpw wt me k s + if wpc wt me k s then zk104 (wones s) * zk104 ((k : Int) - 1 - wones s) else 0
theorem fac_mul (a b : Int) : 0 ≤ zk104 a * zk104 b ∧ zk104 a * zk104 b ≤ 25401600 := by
  have h1 := zk104_R a
  have h2 := zk104_R b
  have : zk104 a * zk104 b ≤ 5040 * 5040 := Int.mul_le_mul h1.2 h2.2 (by omega) (by decide)
  exact ⟨Int.mul_nonneg (by omega) (by omega), by omega⟩
theorem wpw_R (wt : Nat → Int) (me k : Nat) : ∀ s : Nat, 0 ≤ wpw wt me k s ∧ wpw wt me k s ≤ 25401600 * s
  | 0 => by simp [wpw]
  | s + 1 => by
    have := wpw_R wt me k s
    have := fac_mul (wones s) ((k : Int) - 1 - wones s)
    unfold wpw
    split <;> omega
set_option maxRecDepth 100000 in
set_option maxHeartbeats 4000000 in
theorem s_turning {S M : zM} {R : zP} {wt : Nat → Int} {me : Nat} (hC : CW S M) (hme : me < qk S) (hwt : ∀ j : Nat, j < qk S → 0 ≤ wt j ∧ wt j ≤ 10) (hw : ∀ s : Nat, s < 2 ^ qk S → M 36 s = wsw wt s (qk S))
    (hR : R (some (.inr (.inl (wpw wt me (qk S) (2 ^ qk S))))) M) : tX7_turningRows [.inr (.inr 0), .inl (me : Int)] M R := by
  have hqn := (hC.1 0 (by decide)).1
  have hqk : (qk S : Int) = qn S 0 := by unfold qk; omega
  have n1 : M 1 5 = (qk S : Int) := by rw [hqk]; exact hC.2.1
  generalize qk S = k at *
  have hk8 : k ≤ 8 := by omega
  have hp8 := npow_le hk8
  have hp0 : 0 < 2 ^ k := Nat.pow_pos (by decide)
  have e1 := nshl_d ⟨k, by omega⟩
  simp only at e1
  have e2 := nshl_d ⟨me, by omega⟩
  simp only at e2
  have e3 : M 36 (((2 ^ k : Nat) : Int) - 1) = wsum wt k := by
    rw [show ((2 ^ k : Nat) : Int) - 1 = ((2 ^ k - 1 : Nat) : Int) by omega, hw _ (by omega), wsw_all k hk8]
  have hA : 0 ≤ wsum wt k ∧ wsum wt k ≤ 80 := by
    have := wsw_R (wt := wt) (2 ^ k - 1) k hwt
    rw [wsw_all k hk8] at this
    omega
  have L : ∀ s : Nat, s ≤ 2 ^ k → ∀ x9, uX7_turningRows R 33 [some (.inr (.inr 0)), some (.inl (me : Int)), some (.inl (k : Int)), some (.inl ((2 ^ k : Nat) : Int)), some (.inl (wsum wt k)), some (.inl ((2 ^ me : Nat) : Int)), some (.inr (.inl (wpw wt me k s))), none, some (.inl (s : Int)), x9] [] M := by
    refine zind (fun s => 2 ^ k - s) ?_
    intro s hs ih x9
    refine rX7_turningRows_33.mpr ?_
    by_cases he : s = 2 ^ k
    · subst he
      simp only [↓rX7_turningRows_35, ↓rX7_turningRows_36, ↓rX7_turningRows_115, ↓rX7_turningRows_117, ↓reduceIte, zkeep_n, zkeep_i, zkeep_r, zkeep_l, zup_eq, zIR, zLR, List.length_cons, List.length_nil, Nat.reduceAdd, Nat.reduceLeDiff, Nat.reduceEqDiff, Nat.reduceSub, Int.reduceLE, Int.reduceLT, Int.reduceEq, Int.reduceNe, Int.reduceNeg, Int.reduceAdd, Int.reduceSub, Int.reduceMul, Int.reduceToNat, Nat.le_refl, Nat.zero_le, Nat.zero_add, Int.zero_add, Int.add_zero, and_true, true_and, and_false, false_and, not_true_eq_false, not_false_eq_true, eq_self, ne_eq, true_implies, false_implies, implies_true, or_true, true_or, or_false, false_or, reduceCtorEq, Option.some.injEq, Sum.inl.injEq, exists_eq_left', exists_eq_left, zite]
      repeat' (first | with_reducible apply And.intro | with_reducible intro _)
      all_goals first | omega | (exact hR)
    · have hd := nmach_d ⟨me, by omega⟩ ⟨s, by omega⟩
      simp only [e2] at hd
      have ew := hw s (by omega)
      have hwR := wsw_R (wt := wt) s k hwt
      have hwm := hwt me hme
      have nx := fun x9 => ih (s + 1) (by omega) (by omega) x9
      simp only [wpw] at nx
      have no : ¬ wpc wt me k s → ∀ x9, uX7_turningRows R 33 [some (.inr (.inr 0)), some (.inl (me : Int)), some (.inl (k : Int)), some (.inl ((2 ^ k : Nat) : Int)), some (.inl (wsum wt k)), some (.inl ((2 ^ me : Nat) : Int)), some (.inr (.inl (wpw wt me k s))), none, some (.inl ((s : Int) + 1)), x9] [] M := fun hc x9 => by
        have := nx x9
        rw [if_neg hc, Int.add_zero] at this
        exact this
      by_cases hb : s / 2 ^ me % 2 = 0
      · have b1 := hd.1.mpr hb
        have b2 := hd.2.2 hb
        have hadd := wsw_add (wt := wt) (m := me) (s := s) (by omega) (by omega) hb k hk8
        rw [if_pos hme] at hadd
        have hlt : s + 2 ^ me < 2 ^ k := by
          have : ∀ k : Fin 9, ∀ m : Fin 8, ∀ s : Fin 256, s.val < 2 ^ k.val → m.val < k.val → s.val / 2 ^ m.val % 2 = 0 → s.val + 2 ^ m.val < 2 ^ k.val := by decide +kernel
          exact this ⟨k, by omega⟩ ⟨me, by omega⟩ ⟨s, by omega⟩ (show s < 2 ^ k by omega) hme hb
        have ew2 := hw (s + 2 ^ me) hlt
        rw [hadd] at ew2
        have hpop := npop_d ⟨k, by omega⟩ ⟨me, by omega⟩ ⟨s, by omega⟩ (show s < 2 ^ k by omega) hme hb
        simp only at hpop
        have ebc := zbc_at (a := (s : Int)) (by omega) (by omega)
        have f1 := zk104_R (wones s)
        have f2 := zk104_R ((k : Int) - 1 - wones s)
        have yes : wpc wt me k s → ∀ x9, uX7_turningRows R 33 [some (.inr (.inr 0)), some (.inl (me : Int)), some (.inl (k : Int)), some (.inl ((2 ^ k : Nat) : Int)), some (.inl (wsum wt k)), some (.inl ((2 ^ me : Nat) : Int)), some (.inr (.inl (wpw wt me k s + zk104 (wones s) * zk104 ((k : Int) - 1 - wones s)))), none, some (.inl ((s : Int) + 1)), x9] [] M := fun hc x9 => by
          have := nx x9
          rw [if_pos hc] at this
          exact this
        simp only [↓rX7_turningRows_35, ↓rX7_turningRows_36, ↓rX7_turningRows_39, ↓rX7_turningRows_41, ↓rX7_turningRows_43, ↓rX7_turningRows_44, ↓rX7_turningRows_47, ↓rX7_turningRows_48, ↓rX7_turningRows_49, ↓rX7_turningRows_52, ↓rX7_turningRows_54, ↓rX7_turningRows_55, ↓rX7_turningRows_56, ↓rX7_turningRows_58, ↓rX7_turningRows_61, ↓rX7_turningRows_62, ↓rX7_turningRows_63, ↓rX7_turningRows_66, ↓rX7_turningRows_68, ↓rX7_turningRows_70, ↓rX7_turningRows_71, ↓rX7_turningRows_72, ↓rX7_turningRows_73, ↓rX7_turningRows_75, ↓rX7_turningRows_78, ↓rX7_turningRows_80, ↓rX7_turningRows_83, ↓rX7_turningRows_85, ↓rX7_turningRows_87, ↓rX7_turningRows_90, ↓rX7_turningRows_92, ↓rX7_turningRows_93, ↓rX7_turningRows_94, ↓rX7_turningRows_97, ↓rX7_turningRows_98, ↓rX7_turningRows_99, ↓rX7_turningRows_100, ↓rX7_turningRows_102, ↓rX7_turningRows_103, ↓rX7_turningRows_104, ↓rX7_turningRows_105, ↓rX7_turningRows_106, ↓rX7_turningRows_107, ↓rX7_turningRows_109, ↓rX7_turningRows_112, ↓hg_fX7_86_0, ↓hr_10, ↓hr_11, ↓hr_13, ↓hr_14, ↓hr_15, ↓hr_16, ↓hr_18, ↓hr_19, ↓hr_2, ↓hr_20, ↓hr_21, ↓hr_24, ↓hr_25, ↓hr_26, ↓hr_28, ↓hr_29, ↓hr_3, ↓hr_30, ↓hr_33, ↓hr_34, ↓hr_35, ↓hr_36, ↓hr_37, ↓hr_39, ↓hr_41, ↓hr_43, ↓hr_45, ↓hr_5, ↓hr_6, ↓hr_8, ↓hr_9, ↓hr_fX7_104, ↓hs_fX7_207, ↓hw_10, ↓hw_11, ↓hw_13, ↓hw_14, ↓hw_15, ↓hw_16, ↓hw_18, ↓hw_19, ↓hw_2, ↓hw_20, ↓hw_21, ↓hw_24, ↓hw_25, ↓hw_26, ↓hw_28, ↓hw_29, ↓hw_3, ↓hw_30, ↓hw_33, ↓hw_34, ↓hw_35, ↓hw_36, ↓hw_37, ↓hw_39, ↓hw_41, ↓hw_43, ↓hw_45, ↓hw_5, ↓hw_6, ↓hw_8, ↓hw_9, ↓i_bitCount, ↓reduceIte, zkeep_n, zkeep_i, zkeep_r, zkeep_l, zup_eq, zIR, zLR, List.length_cons, List.length_nil, Nat.reduceAdd, Nat.reduceLeDiff, Nat.reduceEqDiff, Nat.reduceSub, Int.reduceLE, Int.reduceLT, Int.reduceEq, Int.reduceNe, Int.reduceNeg, Int.reduceAdd, Int.reduceSub, Int.reduceMul, Int.reduceToNat, Nat.le_refl, Nat.zero_le, Nat.zero_add, Int.zero_add, Int.add_zero, and_true, true_and, and_false, false_and, not_true_eq_false, not_false_eq_true, eq_self, ne_eq, true_implies, false_implies, implies_true, or_true, true_or, or_false, false_or, reduceCtorEq, Option.some.injEq, Sum.inl.injEq, exists_eq_left', exists_eq_left, b1, b2, ew, ew2, ebc, zite]
        repeat' (first | with_reducible apply And.intro | with_reducible intro _)
        all_goals first | omega | (exact no (fun q => by have := q.2; omega) _) | (exact yes ⟨hb, by omega, by omega⟩ _) | (exact Int.natCast_nonneg _)
      · have b1 : ¬ zand (s : Int) ((2 ^ me : Nat) : Int) = 0 := fun q => hb (hd.1.mp q)
        have b3 := hd.2.1
        simp only [↓rX7_turningRows_35, ↓rX7_turningRows_36, ↓rX7_turningRows_39, ↓rX7_turningRows_41, ↓rX7_turningRows_43, ↓rX7_turningRows_44, ↓rX7_turningRows_109, ↓rX7_turningRows_112, ↓reduceIte, zkeep_n, zkeep_i, zkeep_r, zkeep_l, zup_eq, zIR, zLR, List.length_cons, List.length_nil, Nat.reduceAdd, Nat.reduceLeDiff, Nat.reduceEqDiff, Nat.reduceSub, Int.reduceLE, Int.reduceLT, Int.reduceEq, Int.reduceNe, Int.reduceNeg, Int.reduceAdd, Int.reduceSub, Int.reduceMul, Int.reduceToNat, Nat.le_refl, Nat.zero_le, Nat.zero_add, Int.zero_add, Int.add_zero, and_true, true_and, and_false, false_and, not_true_eq_false, not_false_eq_true, eq_self, ne_eq, true_implies, false_implies, implies_true, or_true, true_or, or_false, false_or, reduceCtorEq, Option.some.injEq, Sum.inl.injEq, exists_eq_left', exists_eq_left, zite]
        repeat' (first | with_reducible apply And.intro | with_reducible intro _)
        all_goals first | omega | (exact no (fun q => hb q.1) _)
  have st := L 0 (Nat.zero_le _) none
  simp only [↓eX7_turningRows, ↓rX7_turningRows_0, ↓rX7_turningRows_1, ↓rX7_turningRows_4, ↓rX7_turningRows_7, ↓rX7_turningRows_8, ↓rX7_turningRows_9, ↓rX7_turningRows_10, ↓rX7_turningRows_11, ↓rX7_turningRows_12, ↓rX7_turningRows_13, ↓rX7_turningRows_16, ↓rX7_turningRows_17, ↓rX7_turningRows_18, ↓rX7_turningRows_19, ↓rX7_turningRows_20, ↓rX7_turningRows_22, ↓rX7_turningRows_23, ↓rX7_turningRows_24, ↓rX7_turningRows_25, ↓rX7_turningRows_27, ↓rX7_turningRows_28, ↓rX7_turningRows_30, ↓rX7_turningRows_31, ↓hg_fX7_116_1, ↓hg_fX7_116_4, ↓hg_fX7_14_0, ↓hg_fX7_86_0, ↓hr_10, ↓hr_11, ↓hr_13, ↓hr_14, ↓hr_15, ↓hr_16, ↓hr_18, ↓hr_19, ↓hr_2, ↓hr_20, ↓hr_21, ↓hr_24, ↓hr_25, ↓hr_26, ↓hr_28, ↓hr_29, ↓hr_3, ↓hr_30, ↓hr_33, ↓hr_34, ↓hr_35, ↓hr_36, ↓hr_37, ↓hr_39, ↓hr_41, ↓hr_43, ↓hr_45, ↓hr_5, ↓hr_6, ↓hr_8, ↓hr_9, ↓hr_fX7_104, ↓hw_10, ↓hw_11, ↓hw_13, ↓hw_14, ↓hw_15, ↓hw_16, ↓hw_18, ↓hw_19, ↓hw_2, ↓hw_20, ↓hw_21, ↓hw_24, ↓hw_25, ↓hw_26, ↓hw_28, ↓hw_29, ↓hw_3, ↓hw_30, ↓hw_33, ↓hw_34, ↓hw_35, ↓hw_36, ↓hw_37, ↓hw_39, ↓hw_41, ↓hw_43, ↓hw_45, ↓hw_5, ↓hw_6, ↓hw_8, ↓hw_9, ↓reduceIte, zkeep_n, zkeep_i, zkeep_r, zkeep_l, zup_eq, zIR, zLR, List.length_cons, List.length_nil, Nat.reduceAdd, Nat.reduceLeDiff, Nat.reduceEqDiff, Nat.reduceSub, Int.reduceLE, Int.reduceLT, Int.reduceEq, Int.reduceNe, Int.reduceNeg, Int.reduceAdd, Int.reduceSub, Int.reduceMul, Int.reduceToNat, Nat.le_refl, Nat.zero_le, Nat.zero_add, Int.zero_add, Int.add_zero, and_true, true_and, and_false, false_and, not_true_eq_false, not_false_eq_true, eq_self, ne_eq, true_implies, false_implies, implies_true, or_true, true_or, or_false, false_or, reduceCtorEq, Option.some.injEq, Sum.inl.injEq, exists_eq_left', exists_eq_left, n1, e1, e2, e3, zite]
  repeat' (first | with_reducible apply And.intro | with_reducible intro _)
  all_goals first | omega | (exact st)
def pwX (S : zM) (me qu : Int) : Nat := (wpw (wwt S qu) me.toNat (qk S) (2 ^ qk S)).toNat
def pwY (S : zM) : Nat := ((qk S : Int) * zk104 ((qk S : Int) - 1)).toNat
def aPower (S : zM) (me qu wh : Int) : Int := if (0 ≤ me ∧ me < qn S 0) ∧ (0 ≤ qu ∧ qu < 4) ∧ (0 ≤ wh ∧ wh < 2) then (if wh = 0 then ((pwX S me qu / Nat.gcd (pwX S me qu) (pwY S) : Nat) : Int) else ((pwY S / Nat.gcd (pwX S me qu) (pwY S) : Nat) : Int)) else -9223372036854775806
set_option maxRecDepth 100000 in
set_option maxHeartbeats 4000000 in
theorem x_power {S M : zM} {R : zP} {me qu wh : Int} (h : RX S M) (z1 : zIR me) (z2 : zIR qu) (z4 : zIR wh) (hR : ∀ M', QF M M' → R (some (.inr (.inl (aPower S me qu wh)))) M') : tX7_power [.inr (.inr 0), .inl me, .inl qu, .inl wh] M R := by
  have hqn := (h.2.2.2.1.1 0 (by decide)).1
  have hqk : (qk S : Int) = qn S 0 := by unfold qk; omega
  have n1 := h.2.2.2.1.2.1
  unfold zIR at z1 z2 z4
  have bad : ¬ ((0 ≤ me ∧ me < qn S 0) ∧ (0 ≤ qu ∧ qu < 4) ∧ (0 ≤ wh ∧ wh < 2)) → R (some (.inr (.inl (-9223372036854775806)))) M := fun hb => by
    have := hR M QF.rfl
    unfold aPower at this
    rw [if_neg hb] at this
    exact this
  have call : ((0 ≤ me ∧ me < qn S 0) ∧ (0 ≤ qu ∧ qu < 4) ∧ (0 ≤ wh ∧ wh < 2)) → zcn (zv 7 tX7_weigh) [.inr (.inr 0), .inl qu] M (fun M' => uX7_power R 39 [some (.inr (.inr 0)), some (.inl me), some (.inl qu), some (.inl wh), none] [] M') := by
    intro hg
    unfold aPower at hR
    rw [if_pos hg] at hR
    refine zcnv rfl (s_weigh h hg.2.1 (fun M1 f1 f2 => ⟨rfl, ?_⟩))
    have h1 := RX_qf h f1
    have n2 : M1 1 5 = (qk S : Int) := by rw [hqk]; exact h1.2.2.2.1.2.1
    obtain ⟨m, rfl⟩ : ∃ m : Nat, me = m := ⟨me.toNat, by omega⟩
    have hwt : ∀ j : Nat, j < qk S → 0 ≤ wwt S qu j ∧ wwt S qu j ≤ 10 := fun j hj => by
      have hv := RX_V h (m := j) (by omega) (by omega) (T := 19) (by decide)
      have v1 := hv.1 (4 + qu) (by omega) (by omega)
      have v2 := hv.1 (8 + qu) (by omega) (by omega)
      have hle : wV S j 19 (4 + qu) ≤ wV S j 19 (8 + qu) := by
        exact lohi_V S j 19 qu hg.2.1.1 hg.2.1.2
      unfold wwt
      omega
    have tr : zcv (zv 7 tX7_turningRows) [.inr (.inr 0), .inl (m : Int)] M1 (fun v M' => uX7_power R 57 [some (.inr (.inr 0)), some (.inl (m : Int)), some (.inl qu), some (.inl wh), some (.inl (qk S : Int))] [v, .inr (.inr 32)] M') := by
      refine zcvv rfl (s_turning h1.2.2.2.1 (by omega) hwt f2 ⟨_, rfl, ?_⟩)
      have hx := wpw_R (wwt S qu) m (qk S) (2 ^ qk S)
      have hp8 := npow_le (show qk S ≤ 8 by omega)
      have hxe : wpw (wwt S qu) m (qk S) (2 ^ qk S) = (pwX S m qu : Int) := by unfold pwX; rw [Int.toNat_natCast, Int.toNat_of_nonneg hx.1]
      have hf := zk104_R ((qk S : Int) - 1)
      have hymul : 0 ≤ (qk S : Int) * zk104 ((qk S : Int) - 1) ∧ (qk S : Int) * zk104 ((qk S : Int) - 1) ≤ 8 * 5040 := ⟨Int.mul_nonneg (by omega) (by omega), Int.mul_le_mul (by omega) hf.2 (by omega) (by decide)⟩
      have hypos : 0 < (qk S : Int) * zk104 ((qk S : Int) - 1) := Int.mul_pos (by omega) (by omega)
      have hye : (qk S : Int) * zk104 ((qk S : Int) - 1) = (pwY S : Int) := by unfold pwY; omega
      rw [hxe]
      have se : zcn (zv 0 tX0_settle) [.inr (.inr 32), .inr (.inl (pwX S m qu : Int)), .inr (.inl (pwY S : Int))] M1 (fun M' => uX7_power R 73 [some (.inr (.inr 0)), some (.inl (m : Int)), some (.inl qu), some (.inl wh), some (.inl (qk S : Int))] [] M') := by
        refine zcnv rfl (s_settle (by omega) (by omega) (by omega) ⟨rfl, ?_⟩)
        have fin := hR (zup (zup M1 32 0 ((pwX S m qu / Nat.gcd (pwX S m qu) (pwY S) : Nat) : Int)) 32 1 ((pwY S / Nat.gcd (pwX S m qu) (pwY S) : Nat) : Int)) (f1.trans (fun k i a b => by rw [zup_ne (by omega), zup_ne (by omega)]))
        simp only [↓rX7_power_73, ↓rX7_power_74, ↓rX7_power_77, ↓rX7_power_78, ↓rX7_power_81, ↓hg_fX7_72_0, ↓i_fracTell, ↓reduceIte, zkeep_n, zkeep_i, zkeep_r, zkeep_l, zup_eq, zIR, zLR, List.length_cons, List.length_nil, Nat.reduceAdd, Nat.reduceLeDiff, Nat.reduceEqDiff, Nat.reduceSub, Int.reduceLE, Int.reduceLT, Int.reduceEq, Int.reduceNe, Int.reduceNeg, Int.reduceAdd, Int.reduceSub, Int.reduceMul, Int.reduceToNat, Nat.le_refl, Nat.zero_le, Nat.zero_add, Int.zero_add, Int.add_zero, and_true, true_and, and_false, false_and, not_true_eq_false, not_false_eq_true, eq_self, ne_eq, true_implies, false_implies, implies_true, or_true, true_or, or_false, false_or, reduceCtorEq, Option.some.injEq, Sum.inl.injEq, exists_eq_left', exists_eq_left, zite]
        repeat' (first | with_reducible apply And.intro | with_reducible intro _)
        all_goals first | omega | (rw [if_pos (by omega)] at fin; exact fin) | (rw [if_neg (by omega)] at fin; exact fin)
      simp only [↓rX7_power_57, ↓rX7_power_59, ↓rX7_power_60, ↓rX7_power_63, ↓rX7_power_65, ↓rX7_power_66, ↓rX7_power_67, ↓rX7_power_68, ↓rX7_power_69, ↓rX7_power_70, ↓hr_10, ↓hr_11, ↓hr_13, ↓hr_14, ↓hr_15, ↓hr_16, ↓hr_18, ↓hr_19, ↓hr_2, ↓hr_20, ↓hr_21, ↓hr_24, ↓hr_25, ↓hr_26, ↓hr_28, ↓hr_29, ↓hr_3, ↓hr_30, ↓hr_33, ↓hr_34, ↓hr_35, ↓hr_36, ↓hr_37, ↓hr_39, ↓hr_41, ↓hr_43, ↓hr_45, ↓hr_5, ↓hr_6, ↓hr_8, ↓hr_9, ↓hr_fX7_104, ↓hs_fX7_207, ↓hw_10, ↓hw_11, ↓hw_13, ↓hw_14, ↓hw_15, ↓hw_16, ↓hw_18, ↓hw_19, ↓hw_2, ↓hw_20, ↓hw_21, ↓hw_24, ↓hw_25, ↓hw_26, ↓hw_28, ↓hw_29, ↓hw_3, ↓hw_30, ↓hw_33, ↓hw_34, ↓hw_35, ↓hw_36, ↓hw_37, ↓hw_39, ↓hw_41, ↓hw_43, ↓hw_45, ↓hw_5, ↓hw_6, ↓hw_8, ↓hw_9, ↓reduceIte, zkeep_n, zkeep_i, zkeep_r, zkeep_l, zup_eq, zIR, zLR, List.length_cons, List.length_nil, Nat.reduceAdd, Nat.reduceLeDiff, Nat.reduceEqDiff, Nat.reduceSub, Int.reduceLE, Int.reduceLT, Int.reduceEq, Int.reduceNe, Int.reduceNeg, Int.reduceAdd, Int.reduceSub, Int.reduceMul, Int.reduceToNat, Nat.le_refl, Nat.zero_le, Nat.zero_add, Int.zero_add, Int.add_zero, and_true, true_and, and_false, false_and, not_true_eq_false, not_false_eq_true, eq_self, ne_eq, true_implies, false_implies, implies_true, or_true, true_or, or_false, false_or, reduceCtorEq, Option.some.injEq, Sum.inl.injEq, exists_eq_left', exists_eq_left, hye, zite]
      repeat' (first | with_reducible apply And.intro | with_reducible intro _)
      all_goals first | omega | (exact se)
    simp only [↓rX7_power_39, ↓rX7_power_40, ↓rX7_power_43, ↓rX7_power_46, ↓rX7_power_48, ↓rX7_power_49, ↓rX7_power_52, ↓rX7_power_53, ↓rX7_power_54, ↓hg_fX7_116_1, ↓hg_fX7_116_4, ↓hg_fX7_14_0, ↓hg_fX7_72_0, ↓reduceIte, zkeep_n, zkeep_i, zkeep_r, zkeep_l, zup_eq, zIR, zLR, List.length_cons, List.length_nil, Nat.reduceAdd, Nat.reduceLeDiff, Nat.reduceEqDiff, Nat.reduceSub, Int.reduceLE, Int.reduceLT, Int.reduceEq, Int.reduceNe, Int.reduceNeg, Int.reduceAdd, Int.reduceSub, Int.reduceMul, Int.reduceToNat, Nat.le_refl, Nat.zero_le, Nat.zero_add, Int.zero_add, Int.add_zero, and_true, true_and, and_false, false_and, not_true_eq_false, not_false_eq_true, eq_self, ne_eq, true_implies, false_implies, implies_true, or_true, true_or, or_false, false_or, reduceCtorEq, Option.some.injEq, Sum.inl.injEq, exists_eq_left', exists_eq_left, n2, zite]
    repeat' (first | with_reducible apply And.intro | with_reducible intro _)
    all_goals first | omega | (exact tr)
  simp only [↓eX7_power, ↓rX7_power_0, ↓rX7_power_1, ↓rX7_power_2, ↓rX7_power_5, ↓rX7_power_8, ↓rX7_power_11, ↓rX7_power_14, ↓rX7_power_15, ↓rX7_power_16, ↓rX7_power_19, ↓rX7_power_22, ↓rX7_power_23, ↓rX7_power_24, ↓rX7_power_27, ↓rX7_power_30, ↓rX7_power_33, ↓rX7_power_34, ↓rX7_power_35, ↓rX7_power_36, ↓hg_fX7_116_1, ↓hg_fX7_116_4, ↓hg_fX7_14_0, ↓i_outside, ↓reduceIte, zkeep_n, zkeep_i, zkeep_r, zkeep_l, zup_eq, zIR, zLR, List.length_cons, List.length_nil, Nat.reduceAdd, Nat.reduceLeDiff, Nat.reduceEqDiff, Nat.reduceSub, Int.reduceLE, Int.reduceLT, Int.reduceEq, Int.reduceNe, Int.reduceNeg, Int.reduceAdd, Int.reduceSub, Int.reduceMul, Int.reduceToNat, Nat.le_refl, Nat.zero_le, Nat.zero_add, Int.zero_add, Int.add_zero, and_true, true_and, and_false, false_and, not_true_eq_false, not_false_eq_true, eq_self, ne_eq, true_implies, false_implies, implies_true, or_true, true_or, or_false, false_or, reduceCtorEq, Option.some.injEq, Sum.inl.injEq, exists_eq_left', exists_eq_left, n1, zite]
  repeat' (first | with_reducible apply And.intro | with_reducible intro _)
  all_goals first | omega | (exact bad (by omega)) | (exact call (by omega))
