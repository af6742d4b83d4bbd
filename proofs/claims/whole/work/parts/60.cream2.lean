theorem nb_tb (x i : Nat) : nb x i = x.testBit i := by
  rw [Nat.testBit_eq_decide_div_mod_eq]
  rfl
theorem zand_not {o x : Nat} (hx : x < 256) : zand x (zxor o (-1)) = 0 ↔ ∀ i, x.testBit i = true → o.testBit i = true := by
  have e1 : zand x (zxor o (-1)) = (Int32.ofInt x &&& (Int32.ofInt o ^^^ Int32.ofInt (-1))).toInt := by
    unfold zand zxor
    rw [Int32.ofInt_toInt]
  have e2 : (Int32.ofInt x &&& (Int32.ofInt o ^^^ Int32.ofInt (-1))).toInt = 0 ↔ (Int32.ofInt x &&& (Int32.ofInt o ^^^ Int32.ofInt (-1))) = 0 := by
    rw [← Int32.toInt_inj]
    rfl
  rw [e1, e2, ← Int32.toBitVec_inj, Int32.toBitVec_and, Int32.toBitVec_xor]
  have b1 : (Int32.ofInt (x : Int)).toBitVec = BitVec.ofNat 32 x := BitVec.ofInt_natCast 32 x
  have b2 : (Int32.ofInt (o : Int)).toBitVec = BitVec.ofNat 32 o := BitVec.ofInt_natCast 32 o
  have b3 : (Int32.ofInt (-1)).toBitVec = BitVec.allOnes 32 := by decide
  have b4 : (0 : Int32).toBitVec = 0#32 := rfl
  rw [b1, b2, b3, b4]
  constructor
  · intro h i hi
    have hi8 : i < 32 := by
      rcases Nat.lt_or_ge i 32 with q | q
      · exact q
      · have : x < 2 ^ i := Nat.lt_of_lt_of_le (by omega : x < 2 ^ 32) (Nat.pow_le_pow_right (by decide) q)
        rw [Nat.testBit_lt_two_pow this] at hi
        cases hi
    have := congrArg (fun b : BitVec 32 => b.getLsbD i) h
    simp only [BitVec.getLsbD_and, BitVec.getLsbD_xor, BitVec.getLsbD_ofNat, BitVec.getLsbD_allOnes, hi8, decide_true, Bool.true_and, hi, BitVec.getLsbD_zero] at this
    simpa using this
  · intro h
    apply BitVec.eq_of_getLsbD_eq
    intro i hi
    simp only [BitVec.getLsbD_and, BitVec.getLsbD_xor, BitVec.getLsbD_ofNat, BitVec.getLsbD_allOnes, hi, decide_true, Bool.true_and, BitVec.getLsbD_zero]
    cases hx2 : x.testBit i with
    | false => simp
    | true =>
      rw [h i hx2]
      simp
theorem sb_iff (o x : zQ) : ∀ k : Nat, sb o x k = true ↔ ∀ i, i < k → x i = true → o i = true
  | 0 => by simp [sb]
  | k + 1 => by
    unfold sb
    rw [Bool.and_eq_true, sb_iff o x k]
    constructor
    · rintro ⟨h1, h2⟩ i hi hx
      by_cases e : i = k
      · subst e
        rw [hx] at h2
        simpa using h2
      · exact h1 i (by omega) hx
    · intro h
      refine ⟨fun i hi hx => h i (by omega) hx, ?_⟩
      cases hx : x k with
      | false => rfl
      | true => rw [h k (by omega) hx]; rfl
theorem sub_iff {o x : Nat} (hx : x < 256) : zand x (zxor o (-1)) = 0 ↔ sb (nb o) (nb x) 8 = true := by
  rw [zand_not hx, sb_iff]
  simp only [nb_tb]
  constructor
  · exact fun h i _ q => h i q
  · intro h i q
    refine h i ?_ q
    rcases Nat.lt_or_ge i 8 with c | c
    · exact c
    · have : x < 2 ^ i := Nat.lt_of_lt_of_le (by omega : x < 2 ^ 8) (Nat.pow_le_pow_right (by decide) c)
      rw [Nat.testBit_lt_two_pow this] at q
      cases q
theorem sub_le {o x : Nat} (hx : x < 256) (h : sb (nb o) (nb x) 8 = true) : x ≤ o := by
  rw [← sub_iff hx, zand_not hx] at h
  have : x = x &&& o := by
    apply Nat.eq_of_testBit_eq
    intro i
    rw [Nat.testBit_and]
    cases q : x.testBit i with
    | false => rfl
    | true => rw [h i q]; rfl
  rw [this]
  exact Nat.and_le_right
def kps (s : zQ) : Int → Bool := fun f => s f.toNat
def pcr (S : zM) (te : Nat) (qu : Int) (s : zQ) : Nat → Bool := fun m => decide (5 ≤ wX S (kps s) (so0 S) (fst S) m te qu)
def ow (S : zM) (te m : Nat) : zQ := fun f => decide (f < nf S ∧ gt S 2 f = m ∧ gt S 1 f ≤ te)
def fcr (S : zM) (te : Nat) (qu : Int) (m : Nat) : zQ → Int := fun s => if pcr S te qu s m = true then 1 else 0
theorem foldl_cg {α β : Type} {A B : α → β → α} : ∀ (l : List β) (v : α), (∀ f ∈ l, ∀ v, A v f = B v f) → l.foldl A v = l.foldl B v
  | [], _, _ => rfl
  | f :: l, v, h => by
    rw [List.foldl_cons, List.foldl_cons, h f List.mem_cons_self]
    exact foldl_cg l _ (fun x hx => h x (List.mem_cons_of_mem _ hx))
theorem wX_kp2 {S : zM} {kp kp' : Int → Bool} {so : Int → Int} {fi : Int → Int → Int} {m : Int} {T : Nat} (h : ∀ f : Nat, f < nf S → gt S 2 f = m → gt S 1 f ≤ T → kp f = kp' f) : wX S kp so fi m T = wX S kp' so fi m T := by
  unfold wX
  rw [show ((0 : Int)) = ((0 : Nat) : Int) by rfl, wseg_fold, wseg_fold]
  refine foldl_cg _ _ (fun f hf v => ?_)
  rw [qseg_mem] at hf
  by_cases c : gt S 2 f = m
  · exact wfeed_kp (h f hf.1 c (by omega))
  · unfold wfeed
    rw [if_neg (fun q => c q.1), if_neg (fun q => c q.1)]
theorem nb_wbs (p : Nat → Bool) (n f : Nat) : nb (wbs p n).toNat f = (decide (f < n) && p f) := by
  have hR := wbs_R p n
  by_cases c : f < n
  · have h := wbs_bitX p n f c
    unfold nb
    have e : (((wbs p n).toNat / 2 ^ f % 2 : Nat) : Int) = wbs p n / 2 ^ f % 2 := by
      rw [Int.natCast_emod, Int.natCast_ediv, Int.toNat_of_nonneg hR.1, Int.natCast_pow]
      rfl
    rw [h] at e
    simp only [c, decide_true, Bool.true_and]
    cases hp : p f with
    | true =>
      rw [hp, if_pos rfl] at e
      rw [decide_eq_true_eq]
      omega
    | false =>
      rw [hp, if_neg (by simp)] at e
      rw [decide_eq_false_iff_not]
      omega
  · have h2 : (wbs p n).toNat < 2 ^ n := by
      have : (((wbs p n).toNat : Nat) : Int) < ((2 ^ n : Nat) : Int) := by
        rw [Int.toNat_of_nonneg hR.1, Int.natCast_pow]
        exact hR.2
      omega
    rw [nb_low h2 f (by omega)]
    simp [c]
theorem free_fcr {S : zM} {te m k : Nat} {qu : Int} (h : ow S te m k = false) : free (fcr S te qu m) k := by
  intro s b b'
  unfold fcr pcr
  rw [wX_kp2 (kp := kps (qset s k b)) (kp' := kps (qset s k b')) (fun f f1 f2 f3 => by
    unfold kps qset
    rw [Int.toNat_natCast]
    by_cases e : f = k
    · subst e
      unfold ow at h
      rw [decide_eq_false_iff_not] at h
      exact absurd ⟨f1, f2, f3⟩ h
    · rw [if_neg e, if_neg e])]
set_option maxRecDepth 100000 in
set_option maxHeartbeats 4000000 in
theorem s_ayeWays {S M : zM} {R : zP} {c te qu : Int} {m : Nat} {o : Nat} (h : RX S M) (hm : m < qk S) (hc : 0 ≤ c ∧ c ≤ 16) (ht : 0 ≤ te ∧ te < 20) (hqu : 0 ≤ qu ∧ qu < 4) (ho : o < 256) (hoe : nb o = ow S te.toNat m)
    (hR : ∀ M', (∀ k i, ¬ (23 ≤ k ∧ k ≤ 26) → M' k i = M k i) → R (some (.inr (.inl (eO c (ow S te.toNat m) 8 (fcr S te.toNat qu m))))) M') : tX7_ayeWays [.inr (.inr 0), .inl (m : Int), .inl c, .inl te, .inl qu, .inl (o : Int)] M R := by
  have hqn := (h.2.2.2.1.1 0 (by decide)).1
  have hqk : (qk S : Int) = qn S 0 := by unfold qk; omega
  have hn8 := h.2.2.2.2.1.2.2.1
  rw [← oT_sum, ← hoe] at hR
  generalize hF : fcr S te.toNat qu m = F at hR
  have hz : ∀ x : Nat, o < x → x < 256 → oT c (nb o) 8 F x = 0 := fun x h1 h2 => by
    unfold oT
    rw [if_neg (fun q => by have := sub_le h2 q; omega)]
  have hend : gsum (oT c (nb o) 8 F) (o + 1) = gsum (oT c (nb o) 8 F) (2 ^ 8) := by
    rw [show 2 ^ 8 = (o + 1) + (255 - o) by omega, gsum_add (oT c (nb o) 8 F) (o + 1) (255 - o), gsum_zero (255 - o) (fun x hx => hz (x + (o + 1)) (by omega) (by omega)), Int.add_zero]
  rw [← hend] at hR
  simp only [↓eX7_ayeWays, ↓rX7_ayeWays_0, ↓rX7_ayeWays_1, ↓rX7_ayeWays_3, ↓rX7_ayeWays_4, ↓reduceIte, zkeep_n, zkeep_i, zkeep_r, zkeep_l, zup_eq, zIR, zLR, List.length_cons, List.length_nil, Nat.reduceAdd, Nat.reduceLeDiff, Nat.reduceEqDiff, Nat.reduceSub, Int.reduceLE, Int.reduceLT, Int.reduceEq, Int.reduceNe, Int.reduceNeg, Int.reduceAdd, Int.reduceSub, Int.reduceMul, Int.reduceToNat, Nat.le_refl, Nat.zero_le, Nat.zero_add, Int.zero_add, Int.add_zero, and_true, true_and, and_false, false_and, not_true_eq_false, not_false_eq_true, eq_self, ne_eq, true_implies, false_implies, implies_true, or_true, true_or, or_false, false_or, reduceCtorEq, Option.some.injEq, Sum.inl.injEq, exists_eq_left', exists_eq_left, zite]
  have L : ∀ s : Nat × zM, (s.1 ≤ o + 1 ∧ (∀ k i, ¬ (23 ≤ k ∧ k ≤ 26) → s.2 k i = M k i)) → uX7_ayeWays R 6 [some (.inr (.inr 0)), some (.inl (m : Int)), some (.inl c), some (.inl te), some (.inl qu), some (.inl (o : Int)), some (.inr (.inl (gsum (oT c (nb o) 8 F) s.1))), none, some (.inl (s.1 : Int))] [] s.2 := by
    refine zind (fun s => o + 1 - s.1) ?_
    rintro ⟨x, N⟩ ⟨hx, hfr⟩ ih
    simp only at hx hfr ih
    have hN := RX_qf h (QF.of hfr)
    refine rX7_ayeWays_6.mpr ?_
    by_cases he : x = o + 1
    · subst he
      have fin := hR N hfr
      simp only [↓rX7_ayeWays_8, ↓rX7_ayeWays_10, ↓rX7_ayeWays_71, ↓rX7_ayeWays_73, ↓reduceIte, zkeep_n, zkeep_i, zkeep_r, zkeep_l, zup_eq, zIR, zLR, List.length_cons, List.length_nil, Nat.reduceAdd, Nat.reduceLeDiff, Nat.reduceEqDiff, Nat.reduceSub, Int.reduceLE, Int.reduceLT, Int.reduceEq, Int.reduceNe, Int.reduceNeg, Int.reduceAdd, Int.reduceSub, Int.reduceMul, Int.reduceToNat, Nat.le_refl, Nat.zero_le, Nat.zero_add, Int.zero_add, Int.add_zero, and_true, true_and, and_false, false_and, not_true_eq_false, not_false_eq_true, eq_self, ne_eq, true_implies, false_implies, implies_true, or_true, true_or, or_false, false_or, reduceCtorEq, Option.some.injEq, Sum.inl.injEq, exists_eq_left', exists_eq_left, zite]
      repeat' (first | with_reducible apply And.intro | with_reducible intro _)
      all_goals first | omega | (exact fin)
    · have hsub := sub_iff (o := o) (x := x) (by omega)
      have hzr := zand_R (x : Int) (zxor (o : Int) (-1))
      have next : ∀ N', (∀ k i, ¬ (23 ≤ k ∧ k ≤ 26) → N' k i = N k i) → uX7_ayeWays R 6 [some (.inr (.inr 0)), some (.inl (m : Int)), some (.inl c), some (.inl te), some (.inl qu), some (.inl (o : Int)), some (.inr (.inl (gsum (oT c (nb o) 8 F) x + oT c (nb o) 8 F x))), none, some (.inl ((x : Int) + 1))] [] N' := fun N' g => ih (x + 1, N') ⟨by simp only; omega, fun k i hk => (g k i hk).trans (hfr k i hk)⟩ (by simp only; omega)
      by_cases hs : sb (nb o) (nb x) 8 = true
      · have e0 := hsub.mpr hs
        have eT : oT c (nb o) 8 F x = pr c (nb o) (nb x) 8 * F (nb x) := by unfold oT; rw [if_pos hs]
        have call : zcn (zv 7 tX7_raise) [.inr (.inr 0), .inr (.inr 7), .inl (m : Int), .inl te, .inl (x : Int)] N (fun N' => uX7_ayeWays R 38 [some (.inr (.inr 0)), some (.inl (m : Int)), some (.inl c), some (.inl te), some (.inl qu), some (.inl (o : Int)), some (.inr (.inl (gsum (oT c (nb o) 8 F) x))), none, some (.inl (x : Int))] [] N') := by
          have ra := s_raise7 (S := S) (M := N) (g := gt S) (n := nf S) (T := te.toNat) (m := (m : Int)) (kept := (x : Int)) (R := fun r N' => r = none ∧ uX7_ayeWays R 38 [some (.inr (.inr 0)), some (.inl (m : Int)), some (.inl c), some (.inl te), some (.inl qu), some (.inl (o : Int)), some (.inr (.inl (gsum (oT c (nb o) 8 F) x))), none, some (.inl (x : Int))] [] N') hN.2.2.2.1 hN.2.2.2.2.1.2 (by omega) (by omega) (by omega) (fun N' f1 f2 => ⟨rfl, ?_⟩)
          · rw [Int.toNat_of_nonneg ht.1] at ra
            exact zcnv rfl ra
          · have ek : wX S (kpm (x : Int)) (so0 S) (fst S) m te.toNat = wX S (kps (nb x)) (so0 S) (fst S) m te.toNat := wX_kp (fun f hf => by
              unfold kpm kps
              rw [nb_mach (f := f) (x := x) (by omega) (by omega), Int.toNat_natCast]
              cases nb x f <;> simp)
            have c1 : N' 24 qu = wX S (kps (nb x)) (so0 S) (fst S) m te.toNat qu := by
              rw [← ek]
              exact (f2.1 qu hqu.1 hqu.2).1
            have hv := (vokb_vec (S := S) (g := gt S) (n := nf S) (kp := kps (nb x)) (m := (m : Int)) (T := te.toNat) h.2.2.2.1.1 (by omega) (by omega) (FR_g h.2.2.2.2.1.2) hn8 (by omega)).1 qu (by omega) (by omega)
            rw [wX_0] at hv
            have nx := next N' f1
            have hFx : F (nb x) = if 5 ≤ wX S (kps (nb x)) (so0 S) (fst S) m te.toNat qu then 1 else 0 := by
              rw [← hF]
              unfold fcr pcr
              simp only [decide_eq_true_eq]
            rw [eT, hFx] at nx
            have yes : 5 ≤ wX S (kps (nb x)) (so0 S) (fst S) m te.toNat qu → zcv tX7_chance [.inl c, .inl (x : Int), .inl (o : Int)] N' (fun v N' => uX7_ayeWays R 62 [some (.inr (.inr 0)), some (.inl (m : Int)), some (.inl c), some (.inl te), some (.inl qu), some (.inl (o : Int)), some (.inr (.inl (gsum (oT c (nb o) 8 F) x))), none, some (.inl (x : Int))] [v, .inr (.inl (gsum (oT c (nb o) 8 F) x))] N') := fun hy => by
              refine ⟨_, s_chance (R := fun r N' => ∃ v, r = some v ∧ uX7_ayeWays R 62 [some (.inr (.inr 0)), some (.inl (m : Int)), some (.inl c), some (.inl te), some (.inl qu), some (.inl (o : Int)), some (.inr (.inl (gsum (oT c (nb o) 8 F) x))), none, some (.inl (x : Int))] [v, .inr (.inl (gsum (oT c (nb o) 8 F) x))] N') hc (by omega) ho ⟨_, rfl, ?_⟩, fun _ _ q => q⟩
              rw [if_pos hy, Int.mul_one] at nx
              simp only [↓rX7_ayeWays_62, ↓rX7_ayeWays_63, ↓rX7_ayeWays_65, ↓rX7_ayeWays_68, ↓reduceIte, zkeep_n, zkeep_i, zkeep_r, zkeep_l, zup_eq, zIR, zLR, List.length_cons, List.length_nil, Nat.reduceAdd, Nat.reduceLeDiff, Nat.reduceEqDiff, Nat.reduceSub, Int.reduceLE, Int.reduceLT, Int.reduceEq, Int.reduceNe, Int.reduceNeg, Int.reduceAdd, Int.reduceSub, Int.reduceMul, Int.reduceToNat, Nat.le_refl, Nat.zero_le, Nat.zero_add, Int.zero_add, Int.add_zero, and_true, true_and, and_false, false_and, not_true_eq_false, not_false_eq_true, eq_self, ne_eq, true_implies, false_implies, implies_true, or_true, true_or, or_false, false_or, reduceCtorEq, Option.some.injEq, Sum.inl.injEq, exists_eq_left', exists_eq_left, zite]
              exact nx
            have no : ¬ 5 ≤ wX S (kps (nb x)) (so0 S) (fst S) m te.toNat qu → uX7_ayeWays R 6 [some (.inr (.inr 0)), some (.inl (m : Int)), some (.inl c), some (.inl te), some (.inl qu), some (.inl (o : Int)), some (.inr (.inl (gsum (oT c (nb o) 8 F) x))), none, some (.inl ((x : Int) + 1))] [] N' := fun hy => by
              rw [if_neg hy, Int.mul_zero, Int.add_zero] at nx
              exact nx
            simp only [↓rX7_ayeWays_38, ↓rX7_ayeWays_39, ↓rX7_ayeWays_42, ↓rX7_ayeWays_45, ↓rX7_ayeWays_47, ↓rX7_ayeWays_48, ↓rX7_ayeWays_49, ↓rX7_ayeWays_52, ↓rX7_ayeWays_54, ↓rX7_ayeWays_55, ↓rX7_ayeWays_57, ↓rX7_ayeWays_59, ↓rX7_ayeWays_65, ↓rX7_ayeWays_68, ↓hg_fX7_146_23, ↓hg_fX7_146_27, ↓hg_fX7_55_0, ↓hr_10, ↓hr_11, ↓hr_13, ↓hr_14, ↓hr_15, ↓hr_16, ↓hr_18, ↓hr_19, ↓hr_2, ↓hr_20, ↓hr_21, ↓hr_24, ↓hr_25, ↓hr_26, ↓hr_28, ↓hr_29, ↓hr_3, ↓hr_30, ↓hr_33, ↓hr_34, ↓hr_35, ↓hr_36, ↓hr_37, ↓hr_39, ↓hr_41, ↓hr_43, ↓hr_45, ↓hr_5, ↓hr_6, ↓hr_8, ↓hr_9, ↓hr_fX7_104, ↓hw_10, ↓hw_11, ↓hw_13, ↓hw_14, ↓hw_15, ↓hw_16, ↓hw_18, ↓hw_19, ↓hw_2, ↓hw_20, ↓hw_21, ↓hw_24, ↓hw_25, ↓hw_26, ↓hw_28, ↓hw_29, ↓hw_3, ↓hw_30, ↓hw_33, ↓hw_34, ↓hw_35, ↓hw_36, ↓hw_37, ↓hw_39, ↓hw_41, ↓hw_43, ↓hw_45, ↓hw_5, ↓hw_6, ↓hw_8, ↓hw_9, ↓reduceIte, zkeep_n, zkeep_i, zkeep_r, zkeep_l, zup_eq, zIR, zLR, List.length_cons, List.length_nil, Nat.reduceAdd, Nat.reduceLeDiff, Nat.reduceEqDiff, Nat.reduceSub, Int.reduceLE, Int.reduceLT, Int.reduceEq, Int.reduceNe, Int.reduceNeg, Int.reduceAdd, Int.reduceSub, Int.reduceMul, Int.reduceToNat, Nat.le_refl, Nat.zero_le, Nat.zero_add, Int.zero_add, Int.add_zero, and_true, true_and, and_false, false_and, not_true_eq_false, not_false_eq_true, eq_self, ne_eq, true_implies, false_implies, implies_true, or_true, true_or, or_false, false_or, reduceCtorEq, Option.some.injEq, Sum.inl.injEq, exists_eq_left', exists_eq_left, c1, zite]
            repeat' (first | with_reducible apply And.intro | with_reducible intro _)
            all_goals first | omega | (exact yes (by omega)) | (exact no (by omega))
        simp only [↓rX7_ayeWays_8, ↓rX7_ayeWays_10, ↓rX7_ayeWays_13, ↓rX7_ayeWays_15, ↓rX7_ayeWays_17, ↓rX7_ayeWays_18, ↓rX7_ayeWays_19, ↓rX7_ayeWays_20, ↓rX7_ayeWays_23, ↓rX7_ayeWays_26, ↓rX7_ayeWays_27, ↓rX7_ayeWays_28, ↓rX7_ayeWays_31, ↓rX7_ayeWays_32, ↓rX7_ayeWays_33, ↓rX7_ayeWays_35, ↓hg_fX7_28_0, ↓reduceIte, zkeep_n, zkeep_i, zkeep_r, zkeep_l, zup_eq, zIR, zLR, List.length_cons, List.length_nil, Nat.reduceAdd, Nat.reduceLeDiff, Nat.reduceEqDiff, Nat.reduceSub, Int.reduceLE, Int.reduceLT, Int.reduceEq, Int.reduceNe, Int.reduceNeg, Int.reduceAdd, Int.reduceSub, Int.reduceMul, Int.reduceToNat, Nat.le_refl, Nat.zero_le, Nat.zero_add, Int.zero_add, Int.add_zero, and_true, true_and, and_false, false_and, not_true_eq_false, not_false_eq_true, eq_self, ne_eq, true_implies, false_implies, implies_true, or_true, true_or, or_false, false_or, reduceCtorEq, Option.some.injEq, Sum.inl.injEq, exists_eq_left', exists_eq_left, e0, zite]
        repeat' (first | with_reducible apply And.intro | with_reducible intro _)
        all_goals first | omega | (exact call)
      · have e0 : ¬ zand (x : Int) (zxor (o : Int) (-1)) = 0 := fun q => hs (hsub.mp q)
        have eT : oT c (nb o) 8 F x = 0 := by unfold oT; rw [if_neg hs]
        have nx := next N (fun _ _ _ => rfl)
        rw [eT, Int.add_zero] at nx
        simp only [↓rX7_ayeWays_8, ↓rX7_ayeWays_10, ↓rX7_ayeWays_13, ↓rX7_ayeWays_15, ↓rX7_ayeWays_17, ↓rX7_ayeWays_18, ↓rX7_ayeWays_19, ↓rX7_ayeWays_20, ↓rX7_ayeWays_23, ↓rX7_ayeWays_65, ↓rX7_ayeWays_68, ↓reduceIte, zkeep_n, zkeep_i, zkeep_r, zkeep_l, zup_eq, zIR, zLR, List.length_cons, List.length_nil, Nat.reduceAdd, Nat.reduceLeDiff, Nat.reduceEqDiff, Nat.reduceSub, Int.reduceLE, Int.reduceLT, Int.reduceEq, Int.reduceNe, Int.reduceNeg, Int.reduceAdd, Int.reduceSub, Int.reduceMul, Int.reduceToNat, Nat.le_refl, Nat.zero_le, Nat.zero_add, Int.zero_add, Int.add_zero, and_true, true_and, and_false, false_and, not_true_eq_false, not_false_eq_true, eq_self, ne_eq, true_implies, false_implies, implies_true, or_true, true_or, or_false, false_or, reduceCtorEq, Option.some.injEq, Sum.inl.injEq, exists_eq_left', exists_eq_left, zite]
        repeat' (first | with_reducible apply And.intro | with_reducible intro _)
        all_goals first | omega | (exact nx)
  exact L (0, M) ⟨Nat.zero_le _, fun _ _ _ => rfl⟩
