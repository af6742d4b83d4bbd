def YV (M M' : zM) : Prop := ∀ k i, ¬ (59 ≤ k ∧ k ≤ 69) → (k = 46 → i ≠ 16) → M' k i = M k i
theorem YV.trans {M M' M'' : zM} (h : YV M M') (h2 : YV M' M'') : YV M M'' := fun k i a b => (h2 k i a b).trans (h k i a b)
theorem YV.rfl {M : zM} : YV M M := fun _ _ _ _ => Eq.refl _
theorem YV.rc {S M M' : zM} (h : YV M M') (hr : RC S M) : RC S M' := RC_fr hr (h _ _ (by decide) (by decide)) (h _ _ (by decide) (by decide)) (fun k i a b => h k i (by omega) (fun e => by omega))
theorem YV.cf {S M M' g : zM} {n : Nat} {so : Int → Int} {fi : Int → Int → Int} (h : YV M M') (hr : CF S M g n so fi) : CF S M' g n so fi := CF_fr hr (fun k i z => h k i (by omega) (fun e => by omega))
theorem knt_1d : ∀ a : Fin 8, ∀ f : Fin 8, knt (zshl 1 a.val) f.val = kbut a.val f.val := by decide +kernel
theorem knt_2d : ∀ a : Fin 8, ∀ b : Fin 8, ∀ f : Fin 8, knt (zor (zshl 1 a.val) (zshl 1 b.val)) f.val = kb2 a.val b.val f.val := by decide +kernel
set_option maxRecDepth 100000 in
set_option maxHeartbeats 4000000 in
theorem s_isSpared {S M : zM} {F : zV → zM → Prop} {nt : Int} {kp : Int → Bool} (hW : WX S) (hC : CF S M (gt S) (nf S) (so0 S) (fst S)) (hkp : ∀ f : Nat, f < nf S → knt nt f = kp f)
    (hy : wbs (unk S kp) (qk S) = 0 → ∀ M', (∀ k i, ¬ (59 ≤ k ∧ k ≤ 68) → (k = 46 → i ≠ 16) → M' k i = M k i) → F (.inl 1) M') (hn : ¬ wbs (unk S kp) (qk S) = 0 → ∀ M', (∀ k i, ¬ (59 ≤ k ∧ k ≤ 68) → (k = 46 → i ≠ 16) → M' k i = M k i) → F (.inl 0) M') : zcv (zv 8 tX8_isSpared) [.inr (.inr 46), .inl nt] M F := by
  refine zcvv rfl ?_
  have hk := W_k hW
  have hqr : QR S := by obtain ⟨M0, hX⟩ := hW; exact hX.2.2.2.1.1
  have c3 := hC.2.2.1
  have c7 := hC.2.2.2.2.2.2
  have hC2 : CF S (zup M 46 16 nt) (gt S) (nf S) (so0 S) (fst S) := CF_fr hC (fun k i z => by
    rw [zup_eq, if_neg]
    rintro ⟨rfl, rfl⟩
    omega)
  simp only [↓eX8_isSpared, ↓rX8_isSpared_0, ↓rX8_isSpared_1, ↓rX8_isSpared_2, ↓rX8_isSpared_5, ↓rX8_isSpared_6, ↓hp_fX8_181_46, ↓reduceIte, zkeep_n, zkeep_i, zkeep_r, zkeep_l, zIR, zLR, List.length_cons, List.length_nil, Nat.reduceAdd, Nat.reduceLeDiff, Nat.reduceEqDiff, Nat.reduceSub, Int.reduceLE, Int.reduceLT, Int.reduceEq, Int.reduceNe, Int.reduceNeg, Int.reduceAdd, Int.reduceSub, Int.reduceMul, Int.reduceToNat, Nat.le_refl, Nat.zero_le, Nat.zero_add, Int.zero_add, Int.add_zero, and_true, true_and, and_false, false_and, not_true_eq_false, not_false_eq_true, eq_self, ne_eq, true_implies, false_implies, implies_true, or_true, true_or, or_false, false_or, reduceCtorEq, Option.some.injEq, Sum.inl.injEq, exists_eq_left', exists_eq_left, zite]
  refine zcnv rfl (s_runs hqr hC2 (nt := nt) (by rw [zup_in, if_pos rfl]) (fun M1 f1 f2 => ⟨rfl, ?_⟩))
  have hH : HV S M1 (wX S kp (so0 S) (fst S)) := HV_cg (V := wG S (gt S) (nf S) (knt nt) (so0 S) (fst S)) f2 (fun k a b t ht => wseg_kp hkp _)
  have hV : VR S (wX S kp (so0 S) (fst S)) := fun k a b t ht => vokb_wG (g := gt S) (n := nf S) (kp := kp) (so := so0 S) (fi := fst S) (k := k) (T := t) hqr (fun q q0 q1 => ((c3 k a b).2 q q0 q1).2) (fun f hf => (c7 f hf).2.2.2.1) hC.2.2.2.2.2.1 ht
  have fr : ∀ k i, ¬ (59 ≤ k ∧ k ≤ 68) → (k = 46 → i ≠ 16) → M1 k i = M k i := fun k i a b => by
    rw [f1 k i a, zup_eq, if_neg (fun z => b z.1 z.2)]
  have e2 : M1 46 2 = qn S 0 := (fr _ _ (by decide) (by decide)).trans hC.1
  simp only [↓rX8_isSpared_9, ↓rX8_isSpared_10, ↓reduceIte, zkeep_n, zkeep_i, zkeep_r, zkeep_l, zup_eq, zIR, zLR, List.length_cons, List.length_nil, Nat.reduceAdd, Nat.reduceLeDiff, Nat.reduceEqDiff, Nat.reduceSub, Int.reduceLE, Int.reduceLT, Int.reduceEq, Int.reduceNe, Int.reduceNeg, Int.reduceAdd, Int.reduceSub, Int.reduceMul, Int.reduceToNat, Nat.le_refl, Nat.zero_le, Nat.zero_add, Int.zero_add, Int.add_zero, and_true, true_and, and_false, false_and, not_true_eq_false, not_false_eq_true, eq_self, ne_eq, true_implies, false_implies, implies_true, or_true, true_or, or_false, false_or, reduceCtorEq, Option.some.injEq, Sum.inl.injEq, exists_eq_left', exists_eq_left, zite]
  refine s_weanedNow (fi := fst S) hH hV e2 hk.1 (fun k a b q q0 q1 => ?_) ?_
  · rw [fr _ _ (by decide) (fun e => by omega)]
    exact (c3 k a b).2 q q0 q1
  · have h8 := wbs_8 (unk S kp) hk.2.2.2.2.2.1
    have hy := fun z => hy z M1 fr
    have hn := fun z => hn z M1 fr
    show uX8_isSpared (fun r M' => ∃ v, r = some v ∧ F v M') 13 [some (.inr (.inr 46)), some (.inl nt)] [.inl (wbs (unk S kp) (qk S))] M1
    simp only [↓rX8_isSpared_13, ↓rX8_isSpared_16, ↓rX8_isSpared_17, ↓rX8_isSpared_21, ↓rX8_isSpared_20, ↓reduceIte, zkeep_n, zkeep_i, zkeep_r, zkeep_l, zup_eq, zIR, zLR, List.length_cons, List.length_nil, Nat.reduceAdd, Nat.reduceLeDiff, Nat.reduceEqDiff, Nat.reduceSub, Int.reduceLE, Int.reduceLT, Int.reduceEq, Int.reduceNe, Int.reduceNeg, Int.reduceAdd, Int.reduceSub, Int.reduceMul, Int.reduceToNat, Nat.le_refl, Nat.zero_le, Nat.zero_add, Int.zero_add, Int.add_zero, and_true, true_and, and_false, false_and, not_true_eq_false, not_false_eq_true, eq_self, ne_eq, true_implies, false_implies, implies_true, or_true, true_or, or_false, false_or, reduceCtorEq, Option.some.injEq, Sum.inl.injEq, exists_eq_left', exists_eq_left, zite]
    repeat' (first | with_reducible apply And.intro | with_reducible intro _)
    all_goals first | omega | (exact hy (by omega)) | (exact hn (by omega))
set_option maxRecDepth 100000 in
set_option maxHeartbeats 8000000 in
theorem s_spareBy {S M : zM} {F : zV → zM → Prop} (hW : WX S) (h : RM S M)
    (hR : ∀ M', YQ M M' → RC S M' → (1 ≤ plN (sp0 S kall) (fun a => sp0 S (kbut a)) (sp2 S) (nf S) → M' 69 0 = plA (sp0 S kall) (fun a => sp0 S (kbut a)) (sp2 S) (nf S)) → (2 ≤ plN (sp0 S kall) (fun a => sp0 S (kbut a)) (sp2 S) (nf S) → M' 69 1 = plB (sp0 S kall) (fun a => sp0 S (kbut a)) (sp2 S) (nf S)) → F (.inl (plN (sp0 S kall) (fun a => sp0 S (kbut a)) (sp2 S) (nf S))) M') : zcv (zv 8 tX8_spareBy) [.inr (.inr 46)] M F := by
  refine zcvv rfl ?_
  have hk := W_k hW
  have hnf := hk.2.2.2.2.1
  have hnf8 := hk.2.2.2.2.2.2.2
  have p0e : sp0 S kall = true ↔ wbs (unk S kall) (qk S) = 0 := by simp [sp0]
  have p1e : ∀ a : Nat, (fun a => sp0 S (kbut a)) a = true ↔ wbs (unk S (kbut a)) (qk S) = 0 := fun a => by simp [sp0]
  have p2e : ∀ a b : Nat, sp2 S a b = true ↔ (a < b ∧ wbs (unk S (kb2 a b)) (qk S) = 0) := fun a b => by simp [sp2, sp0]
  generalize sp0 S kall = p0 at *
  generalize (fun a : Nat => sp0 S (kbut a)) = p1 at *
  generalize sp2 S = p2 at *
  simp only [↓eX8_spareBy, ↓rX8_spareBy_0, ↓rX8_spareBy_1, ↓reduceIte, zkeep_n, zkeep_i, zkeep_r, zkeep_l, zup_eq, zIR, zLR, List.length_cons, List.length_nil, Nat.reduceAdd, Nat.reduceLeDiff, Nat.reduceEqDiff, Nat.reduceSub, Int.reduceLE, Int.reduceLT, Int.reduceEq, Int.reduceNe, Int.reduceNeg, Int.reduceAdd, Int.reduceSub, Int.reduceMul, Int.reduceToNat, Nat.le_refl, Nat.zero_le, Nat.zero_add, Int.zero_add, Int.add_zero, and_true, true_and, and_false, false_and, not_true_eq_false, not_false_eq_true, eq_self, ne_eq, true_implies, false_implies, implies_true, or_true, true_or, or_false, false_or, reduceCtorEq, Option.some.injEq, Sum.inl.injEq, exists_eq_left', exists_eq_left, zite]
  refine zcnv rfl (s_asTold hW h (fun M1 f1 f2 f3 f4 f5 => ⟨rfl, ?_⟩))
  have hCT := told_CF hW f2 f3 f5
  have hM1 := RM_yq h f1.yq
  have e8 : M1 46 8 = (nf S : Int) := by rw [hnf]; exact hM1.2.2.2.1.1
  have ends : ∀ (N : zM) (n a b : Int), YV M1 N → n = plN p0 p1 p2 (nf S) ∧ a = plA p0 p1 p2 (nf S) ∧ b = plB p0 p1 p2 (nf S) → (1 ≤ n → N 69 0 = a) → (2 ≤ n → N 69 1 = b) → F (.inl n) N := by
    intro N n a b hN he h0 h1
    have := hR N (f1.yq.trans (fun k i x y => hN k i (by omega) (fun e => (y e).2.2.2))) (hN.rc f2) (by rw [← he.1, ← he.2.1]; exact h0) (by rw [← he.1, ← he.2.2]; exact h1)
    rw [← he.1] at this
    exact this
  have sc : ∀ (N : zM) (nt : Int) (kp : Int → Bool) (F' : zV → zM → Prop), YV M1 N → (∀ f : Nat, f < nf S → knt nt f = kp f) → (wbs (unk S kp) (qk S) = 0 → ∀ N', YV M1 N' → (∀ i, N' 69 i = N 69 i) → F' (.inl 1) N') → (¬ wbs (unk S kp) (qk S) = 0 → ∀ N', YV M1 N' → (∀ i, N' 69 i = N 69 i) → F' (.inl 0) N') → zcv (zv 8 tX8_isSpared) [.inr (.inr 46), .inl nt] N F' := by
    intro N nt kp F' hN hkp y n
    exact s_isSpared hW (hN.cf hCT) hkp (fun z N' q => y z N' (hN.trans (fun k i a b => q k i (by omega) b)) (fun i => q 69 i (by decide) (fun e => by omega))) (fun z N' q => n z N' (hN.trans (fun k i a b => q k i (by omega) b)) (fun i => q 69 i (by decide) (fun e => by omega)))
  have nonefin : p0 = false → (∀ j : Nat, j < nf S → p1 j = false) → ∀ N, YV M1 N → (∀ i : Nat, i < nf S → ∀ j : Nat, j < nf S → p2 i j = false) → F (.inl (-1)) N := fun hp0 hp1 N hN h3 => by
    have := pl_3 hp0 hp1 h3
    exact ends N _ _ _ hN ⟨this.1.symm, this.2.1.symm, this.2.2.symm⟩ (fun q => by omega) (fun q => by omega)
  have L2 : (p0 = false) → (∀ j : Nat, j < nf S → p1 j = false) → ∀ t : Nat × Nat × zM, (t.1 < nf S ∧ t.1 < t.2.1 ∧ t.2.1 ≤ nf S ∧ YV M1 t.2.2 ∧ (∀ i : Nat, i < t.1 → ∀ j : Nat, j < nf S → p2 i j = false) ∧ (∀ j : Nat, j < t.2.1 → p2 t.1 j = false)) → uX8_spareBy (fun r M' => ∃ v, r = some v ∧ F v M') 63 [some (.inr (.inr 46)), some (.inl (t.1 : Int)), some (.inl (t.2.1 : Int))] [] t.2.2 := by
    intro hp0 hp1
    refine zind (fun t => (nf S - t.1) * (nf S + 1) + (nf S - t.2.1)) ?_
    rintro ⟨a, b, N⟩ ⟨ha, hab, hb, hN, hp, hpb⟩ ih
    simp only at ha hab hb hN hp hpb ih
    have n8 : N 46 8 = (nf S : Int) := (hN _ _ (by decide) (by decide)).trans e8
    refine rX8_spareBy_63.mpr ?_
    by_cases hbe : b = nf S
    · by_cases hae : a + 1 = nf S
      · have fin := nonefin hp0 hp1 N hN (fun i hi j hj => by
          by_cases e : i = a
          · rw [e]; exact hpb j (by omega)
          · exact hp i (by omega) j hj)
        simp only [↓rX8_spareBy_51, ↓rX8_spareBy_52, ↓rX8_spareBy_53, ↓rX8_spareBy_56, ↓rX8_spareBy_113, ↓rX8_spareBy_114, ↓rX8_spareBy_64, ↓rX8_spareBy_65, ↓rX8_spareBy_68, ↓rX8_spareBy_107, ↓rX8_spareBy_110, ↓hg_fX8_166_46, ↓reduceIte, zkeep_n, zkeep_i, zkeep_r, zkeep_l, zup_eq, zIR, zLR, List.length_cons, List.length_nil, Nat.reduceAdd, Nat.reduceLeDiff, Nat.reduceEqDiff, Nat.reduceSub, Int.reduceLE, Int.reduceLT, Int.reduceEq, Int.reduceNe, Int.reduceNeg, Int.reduceAdd, Int.reduceSub, Int.reduceMul, Int.reduceToNat, Nat.le_refl, Nat.zero_le, Nat.zero_add, Int.zero_add, Int.add_zero, and_true, true_and, and_false, false_and, not_true_eq_false, not_false_eq_true, eq_self, ne_eq, true_implies, false_implies, implies_true, or_true, true_or, or_false, false_or, reduceCtorEq, Option.some.injEq, Sum.inl.injEq, exists_eq_left', exists_eq_left, n8, zite]
        repeat' (first | with_reducible apply And.intro | with_reducible intro _)
        all_goals first | omega | (exact fin)
      · have nx := ih (a + 1, a + 2, N) ⟨by simp only; omega, by simp only; omega, by simp only; omega, hN, fun i hi j hj => ?_, fun j hj => ?_⟩ ?_
        · rw [show (((a + 1, a + 2, N) : Nat × Nat × zM).1 : Int) = (a : Int) + 1 by rfl, show (((a + 1, a + 2, N) : Nat × Nat × zM).2.1 : Int) = (a : Int) + 1 + 1 by simp only; omega] at nx
          simp only [↓rX8_spareBy_51, ↓rX8_spareBy_52, ↓rX8_spareBy_53, ↓rX8_spareBy_56, ↓rX8_spareBy_59, ↓rX8_spareBy_60, ↓rX8_spareBy_61, ↓rX8_spareBy_62, ↓rX8_spareBy_113, ↓rX8_spareBy_114, ↓rX8_spareBy_64, ↓rX8_spareBy_65, ↓rX8_spareBy_68, ↓rX8_spareBy_107, ↓rX8_spareBy_110, ↓hg_fX8_166_46, ↓reduceIte, zkeep_n, zkeep_i, zkeep_r, zkeep_l, zup_eq, zIR, zLR, List.length_cons, List.length_nil, Nat.reduceAdd, Nat.reduceLeDiff, Nat.reduceEqDiff, Nat.reduceSub, Int.reduceLE, Int.reduceLT, Int.reduceEq, Int.reduceNe, Int.reduceNeg, Int.reduceAdd, Int.reduceSub, Int.reduceMul, Int.reduceToNat, Nat.le_refl, Nat.zero_le, Nat.zero_add, Int.zero_add, Int.add_zero, and_true, true_and, and_false, false_and, not_true_eq_false, not_false_eq_true, eq_self, ne_eq, true_implies, false_implies, implies_true, or_true, true_or, or_false, false_or, reduceCtorEq, Option.some.injEq, Sum.inl.injEq, exists_eq_left', exists_eq_left, n8, zite]
          repeat' (first | with_reducible apply And.intro | with_reducible intro _)
          all_goals first | omega | (exact nx)
        · simp only at hi
          by_cases e : i = a
          · rw [e]; exact hpb j (by omega)
          · exact hp i (by omega) j hj
        · simp only at hj ⊢
          rw [← Bool.not_eq_true, p2e]
          omega
        · simp only
          have e : nf S - a = (nf S - (a + 1)) + 1 := by omega
          rw [e, Nat.add_mul]
          omega
    · have call := sc (zup (zup N 69 0 a) 69 1 b) (zor (zshl 1 a) (zshl 1 b)) (kb2 a b) (fun v M => uX8_spareBy (fun r M' => ∃ v, r = some v ∧ F v M') 96 [some (.inr (.inr 46)), some (.inl (a : Int)), some (.inl (b : Int))] [v] M) (hN.trans (fun k i x y => by simp only [zup_ne (show k ≠ 69 by omega)])) (fun f hf => knt_2d ⟨a, by omega⟩ ⟨b, by omega⟩ ⟨f, by omega⟩) (fun z N' q1 q2 => ?_) (fun z N' q1 q2 => ?_)
      · simp only [↓rX8_spareBy_64, ↓rX8_spareBy_65, ↓rX8_spareBy_68, ↓rX8_spareBy_71, ↓rX8_spareBy_72, ↓rX8_spareBy_75, ↓rX8_spareBy_76, ↓rX8_spareBy_77, ↓rX8_spareBy_78, ↓rX8_spareBy_79, ↓rX8_spareBy_82, ↓rX8_spareBy_83, ↓rX8_spareBy_84, ↓rX8_spareBy_85, ↓rX8_spareBy_86, ↓rX8_spareBy_87, ↓rX8_spareBy_88, ↓rX8_spareBy_89, ↓rX8_spareBy_90, ↓rX8_spareBy_91, ↓rX8_spareBy_92, ↓rX8_spareBy_93, ↓hg_fX8_166_46, ↓hg_fX8_76_46, ↓hr_47, ↓hr_48, ↓hr_49, ↓hr_50, ↓hr_51, ↓hr_52, ↓hr_53, ↓hr_54, ↓hr_55, ↓hr_56, ↓hr_57, ↓hr_58, ↓hr_59, ↓hr_60, ↓hr_61, ↓hr_62, ↓hr_63, ↓hr_64, ↓hr_65, ↓hr_66, ↓hr_67, ↓hr_68, ↓hr_69, ↓hr_70, ↓hr_71, ↓hr_72, ↓hr_73, ↓hr_74, ↓hr_75, ↓hr_76, ↓hr_77, ↓hr_78, ↓hr_79, ↓hw_47, ↓hw_48, ↓hw_49, ↓hw_50, ↓hw_51, ↓hw_52, ↓hw_53, ↓hw_54, ↓hw_55, ↓hw_56, ↓hw_57, ↓hw_58, ↓hw_59, ↓hw_60, ↓hw_61, ↓hw_62, ↓hw_63, ↓hw_64, ↓hw_65, ↓hw_66, ↓hw_67, ↓hw_68, ↓hw_69, ↓hw_70, ↓hw_71, ↓hw_72, ↓hw_73, ↓hw_74, ↓hw_75, ↓hw_76, ↓hw_77, ↓hw_78, ↓hw_79, ↓reduceIte, zkeep_n, zkeep_i, zkeep_r, zkeep_l, zIR, zLR, List.length_cons, List.length_nil, Nat.reduceAdd, Nat.reduceLeDiff, Nat.reduceEqDiff, Nat.reduceSub, Int.reduceLE, Int.reduceLT, Int.reduceEq, Int.reduceNe, Int.reduceNeg, Int.reduceAdd, Int.reduceSub, Int.reduceMul, Int.reduceToNat, Nat.le_refl, Nat.zero_le, Nat.zero_add, Int.zero_add, Int.add_zero, and_true, true_and, and_false, false_and, not_true_eq_false, not_false_eq_true, eq_self, ne_eq, true_implies, false_implies, implies_true, or_true, true_or, or_false, false_or, reduceCtorEq, Option.some.injEq, Sum.inl.injEq, exists_eq_left', exists_eq_left, n8, zup_ne, zite]
        repeat' (first | with_reducible apply And.intro | with_reducible intro _)
        all_goals first | omega | (exact call)
      · have := pl_2 (K := nf S) (a := a) (b := b) hp0 hp1 ha (by omega) ((p2e a b).mpr ⟨hab, z⟩) hpb hp
        have fin := ends N' 2 a b q1 ⟨this.1.symm, this.2.1.symm, this.2.2.symm⟩ (fun _ => by rw [q2]; simp [zup_eq]) (fun _ => by rw [q2]; simp [zup_eq])
        simp only [↓rX8_spareBy_96, ↓rX8_spareBy_99, ↓rX8_spareBy_100, ↓reduceIte, zkeep_n, zkeep_i, zkeep_r, zkeep_l, zup_eq, zIR, zLR, List.length_cons, List.length_nil, Nat.reduceAdd, Nat.reduceLeDiff, Nat.reduceEqDiff, Nat.reduceSub, Int.reduceLE, Int.reduceLT, Int.reduceEq, Int.reduceNe, Int.reduceNeg, Int.reduceAdd, Int.reduceSub, Int.reduceMul, Int.reduceToNat, Nat.le_refl, Nat.zero_le, Nat.zero_add, Int.zero_add, Int.add_zero, and_true, true_and, and_false, false_and, not_true_eq_false, not_false_eq_true, eq_self, ne_eq, true_implies, false_implies, implies_true, or_true, true_or, or_false, false_or, reduceCtorEq, Option.some.injEq, Sum.inl.injEq, exists_eq_left', exists_eq_left, zite]
        exact fin
      · have nx := ih (a, b + 1, N') ⟨ha, by simp only; omega, by simp only; omega, q1, hp, fun j hj => ?_⟩ (by simp only; omega)
        · simp only [↓rX8_spareBy_96, ↓rX8_spareBy_101, ↓rX8_spareBy_104, ↓reduceIte, zkeep_n, zkeep_i, zkeep_r, zkeep_l, zup_eq, zIR, zLR, List.length_cons, List.length_nil, Nat.reduceAdd, Nat.reduceLeDiff, Nat.reduceEqDiff, Nat.reduceSub, Int.reduceLE, Int.reduceLT, Int.reduceEq, Int.reduceNe, Int.reduceNeg, Int.reduceAdd, Int.reduceSub, Int.reduceMul, Int.reduceToNat, Nat.le_refl, Nat.zero_le, Nat.zero_add, Int.zero_add, Int.add_zero, and_true, true_and, and_false, false_and, not_true_eq_false, not_false_eq_true, eq_self, ne_eq, true_implies, false_implies, implies_true, or_true, true_or, or_false, false_or, reduceCtorEq, Option.some.injEq, Sum.inl.injEq, exists_eq_left', exists_eq_left, zite]
          exact nx
        · simp only at hj
          by_cases e : j = b
          · rw [e, ← Bool.not_eq_true, p2e]
            exact fun q => z q.2
          · exact hpb j (by omega)
  have L1 : (p0 = false) → ∀ t : Nat × zM, (t.1 ≤ nf S ∧ YV M1 t.2 ∧ (∀ j : Nat, j < t.1 → p1 j = false)) → uX8_spareBy (fun r M' => ∃ v, r = some v ∧ F v M') 16 [some (.inr (.inr 46)), some (.inl (t.1 : Int)), none] [] t.2 := by
    intro hp0
    refine zind (fun t => nf S - t.1) ?_
    rintro ⟨a, N⟩ ⟨ha, hN, hp⟩ ih
    simp only at ha hN hp ih
    have n8 : N 46 8 = (nf S : Int) := (hN _ _ (by decide) (by decide)).trans e8
    refine rX8_spareBy_16.mpr ?_
    by_cases hae : a = nf S
    · subst hae
      by_cases hz : nf S = 0
      · have fin := nonefin hp0 hp N hN (fun i hi => by omega)
        simp only [↓rX8_spareBy_17, ↓rX8_spareBy_18, ↓rX8_spareBy_21, ↓rX8_spareBy_49, ↓rX8_spareBy_50, ↓rX8_spareBy_51, ↓rX8_spareBy_52, ↓rX8_spareBy_53, ↓rX8_spareBy_56, ↓rX8_spareBy_113, ↓rX8_spareBy_114, ↓hg_fX8_166_46, ↓reduceIte, zkeep_n, zkeep_i, zkeep_r, zkeep_l, zup_eq, zIR, zLR, List.length_cons, List.length_nil, Nat.reduceAdd, Nat.reduceLeDiff, Nat.reduceEqDiff, Nat.reduceSub, Int.reduceLE, Int.reduceLT, Int.reduceEq, Int.reduceNe, Int.reduceNeg, Int.reduceAdd, Int.reduceSub, Int.reduceMul, Int.reduceToNat, Nat.le_refl, Nat.zero_le, Nat.zero_add, Int.zero_add, Int.add_zero, and_true, true_and, and_false, false_and, not_true_eq_false, not_false_eq_true, eq_self, ne_eq, true_implies, false_implies, implies_true, or_true, true_or, or_false, false_or, reduceCtorEq, Option.some.injEq, Sum.inl.injEq, exists_eq_left', exists_eq_left, n8, zite]
        repeat' (first | with_reducible apply And.intro | with_reducible intro _)
        all_goals first | omega | (exact fin)
      · have nx := L2 hp0 hp (0, 1, N) ⟨by simp only; omega, Nat.zero_lt_one, by simp only; omega, hN, fun i hi => by simp at hi, fun j hj => by
          simp only at hj ⊢
          rw [← Bool.not_eq_true, p2e]
          omega⟩
        simp only [↓rX8_spareBy_17, ↓rX8_spareBy_18, ↓rX8_spareBy_21, ↓rX8_spareBy_49, ↓rX8_spareBy_50, ↓rX8_spareBy_51, ↓rX8_spareBy_52, ↓rX8_spareBy_53, ↓rX8_spareBy_56, ↓rX8_spareBy_59, ↓rX8_spareBy_60, ↓rX8_spareBy_61, ↓rX8_spareBy_62, ↓rX8_spareBy_113, ↓rX8_spareBy_114, ↓hg_fX8_166_46, ↓reduceIte, zkeep_n, zkeep_i, zkeep_r, zkeep_l, zup_eq, zIR, zLR, List.length_cons, List.length_nil, Nat.reduceAdd, Nat.reduceLeDiff, Nat.reduceEqDiff, Nat.reduceSub, Int.reduceLE, Int.reduceLT, Int.reduceEq, Int.reduceNe, Int.reduceNeg, Int.reduceAdd, Int.reduceSub, Int.reduceMul, Int.reduceToNat, Nat.le_refl, Nat.zero_le, Nat.zero_add, Int.zero_add, Int.add_zero, and_true, true_and, and_false, false_and, not_true_eq_false, not_false_eq_true, eq_self, ne_eq, true_implies, false_implies, implies_true, or_true, true_or, or_false, false_or, reduceCtorEq, Option.some.injEq, Sum.inl.injEq, exists_eq_left', exists_eq_left, n8, zite]
        repeat' (first | with_reducible apply And.intro | with_reducible intro _)
        all_goals first | omega | (exact nx)
    · have call := sc (zup N 69 0 a) (zshl 1 a) (kbut a) (fun v M => uX8_spareBy (fun r M' => ∃ v, r = some v ∧ F v M') 38 [some (.inr (.inr 46)), some (.inl (a : Int)), none] [v] M) (hN.trans (fun k i x y => by simp only [zup_ne (show k ≠ 69 by omega)])) (fun f hf => knt_1d ⟨a, by omega⟩ ⟨f, by omega⟩) (fun z N' q1 q2 => ?_) (fun z N' q1 q2 => ?_)
      · simp only [↓rX8_spareBy_17, ↓rX8_spareBy_18, ↓rX8_spareBy_21, ↓rX8_spareBy_24, ↓rX8_spareBy_25, ↓rX8_spareBy_28, ↓rX8_spareBy_29, ↓rX8_spareBy_30, ↓rX8_spareBy_31, ↓rX8_spareBy_32, ↓rX8_spareBy_33, ↓rX8_spareBy_34, ↓rX8_spareBy_35, ↓hg_fX8_166_46, ↓hg_fX8_76_46, ↓hr_47, ↓hr_48, ↓hr_49, ↓hr_50, ↓hr_51, ↓hr_52, ↓hr_53, ↓hr_54, ↓hr_55, ↓hr_56, ↓hr_57, ↓hr_58, ↓hr_59, ↓hr_60, ↓hr_61, ↓hr_62, ↓hr_63, ↓hr_64, ↓hr_65, ↓hr_66, ↓hr_67, ↓hr_68, ↓hr_69, ↓hr_70, ↓hr_71, ↓hr_72, ↓hr_73, ↓hr_74, ↓hr_75, ↓hr_76, ↓hr_77, ↓hr_78, ↓hr_79, ↓hw_47, ↓hw_48, ↓hw_49, ↓hw_50, ↓hw_51, ↓hw_52, ↓hw_53, ↓hw_54, ↓hw_55, ↓hw_56, ↓hw_57, ↓hw_58, ↓hw_59, ↓hw_60, ↓hw_61, ↓hw_62, ↓hw_63, ↓hw_64, ↓hw_65, ↓hw_66, ↓hw_67, ↓hw_68, ↓hw_69, ↓hw_70, ↓hw_71, ↓hw_72, ↓hw_73, ↓hw_74, ↓hw_75, ↓hw_76, ↓hw_77, ↓hw_78, ↓hw_79, ↓reduceIte, zkeep_n, zkeep_i, zkeep_r, zkeep_l, zIR, zLR, List.length_cons, List.length_nil, Nat.reduceAdd, Nat.reduceLeDiff, Nat.reduceEqDiff, Nat.reduceSub, Int.reduceLE, Int.reduceLT, Int.reduceEq, Int.reduceNe, Int.reduceNeg, Int.reduceAdd, Int.reduceSub, Int.reduceMul, Int.reduceToNat, Nat.le_refl, Nat.zero_le, Nat.zero_add, Int.zero_add, Int.add_zero, and_true, true_and, and_false, false_and, not_true_eq_false, not_false_eq_true, eq_self, ne_eq, true_implies, false_implies, implies_true, or_true, true_or, or_false, false_or, reduceCtorEq, Option.some.injEq, Sum.inl.injEq, exists_eq_left', exists_eq_left, n8, zup_ne, zite]
        repeat' (first | with_reducible apply And.intro | with_reducible intro _)
        all_goals first | omega | (exact call)
      · have := pl_1 (K := nf S) (a := a) (p2 := p2) hp0 (by omega) ((p1e a).mpr z) hp
        have fin := ends N' 1 a (-1) q1 ⟨this.1.symm, this.2.1.symm, this.2.2.symm⟩ (fun _ => by rw [q2]; simp [zup_eq]) (fun q => by omega)
        simp only [↓rX8_spareBy_38, ↓rX8_spareBy_41, ↓rX8_spareBy_42, ↓reduceIte, zkeep_n, zkeep_i, zkeep_r, zkeep_l, zup_eq, zIR, zLR, List.length_cons, List.length_nil, Nat.reduceAdd, Nat.reduceLeDiff, Nat.reduceEqDiff, Nat.reduceSub, Int.reduceLE, Int.reduceLT, Int.reduceEq, Int.reduceNe, Int.reduceNeg, Int.reduceAdd, Int.reduceSub, Int.reduceMul, Int.reduceToNat, Nat.le_refl, Nat.zero_le, Nat.zero_add, Int.zero_add, Int.add_zero, and_true, true_and, and_false, false_and, not_true_eq_false, not_false_eq_true, eq_self, ne_eq, true_implies, false_implies, implies_true, or_true, true_or, or_false, false_or, reduceCtorEq, Option.some.injEq, Sum.inl.injEq, exists_eq_left', exists_eq_left, zite]
        exact fin
      · have nx := ih (a + 1, N') ⟨by simp only; omega, q1, fun j hj => ?_⟩ (by simp only; omega)
        · simp only [↓rX8_spareBy_38, ↓rX8_spareBy_43, ↓rX8_spareBy_46, ↓reduceIte, zkeep_n, zkeep_i, zkeep_r, zkeep_l, zup_eq, zIR, zLR, List.length_cons, List.length_nil, Nat.reduceAdd, Nat.reduceLeDiff, Nat.reduceEqDiff, Nat.reduceSub, Int.reduceLE, Int.reduceLT, Int.reduceEq, Int.reduceNe, Int.reduceNeg, Int.reduceAdd, Int.reduceSub, Int.reduceMul, Int.reduceToNat, Nat.le_refl, Nat.zero_le, Nat.zero_add, Int.zero_add, Int.add_zero, and_true, true_and, and_false, false_and, not_true_eq_false, not_false_eq_true, eq_self, ne_eq, true_implies, false_implies, implies_true, or_true, true_or, or_false, false_or, reduceCtorEq, Option.some.injEq, Sum.inl.injEq, exists_eq_left', exists_eq_left, zite]
          exact nx
        · simp only at hj
          by_cases e : j = a
          · rw [e, ← Bool.not_eq_true, p1e]; exact z
          · exact hp j (by omega)
  simp only [↓rX8_spareBy_4, ↓rX8_spareBy_5, ↓rX8_spareBy_6, ↓reduceIte, zkeep_n, zkeep_i, zkeep_r, zkeep_l, zup_eq, zIR, zLR, List.length_cons, List.length_nil, Nat.reduceAdd, Nat.reduceLeDiff, Nat.reduceEqDiff, Nat.reduceSub, Int.reduceLE, Int.reduceLT, Int.reduceEq, Int.reduceNe, Int.reduceNeg, Int.reduceAdd, Int.reduceSub, Int.reduceMul, Int.reduceToNat, Nat.le_refl, Nat.zero_le, Nat.zero_add, Int.zero_add, Int.add_zero, and_true, true_and, and_false, false_and, not_true_eq_false, not_false_eq_true, eq_self, ne_eq, true_implies, false_implies, implies_true, or_true, true_or, or_false, false_or, reduceCtorEq, Option.some.injEq, Sum.inl.injEq, exists_eq_left', exists_eq_left, zite]
  refine sc M1 0 kall _ YV.rfl (fun f hf => knt_0d ⟨f, by omega⟩) (fun z N' q1 q2 => ?_) (fun z N' q1 q2 => ?_)
  · have := pl_0 (p1 := p1) (p2 := p2) (K := nf S) (p0e.mpr z)
    have fin := ends N' 0 (-1) (-1) q1 ⟨this.1.symm, this.2.1.symm, this.2.2.symm⟩ (fun q => by omega) (fun q => by omega)
    simp only [↓rX8_spareBy_9, ↓rX8_spareBy_12, ↓rX8_spareBy_13, ↓reduceIte, zkeep_n, zkeep_i, zkeep_r, zkeep_l, zup_eq, zIR, zLR, List.length_cons, List.length_nil, Nat.reduceAdd, Nat.reduceLeDiff, Nat.reduceEqDiff, Nat.reduceSub, Int.reduceLE, Int.reduceLT, Int.reduceEq, Int.reduceNe, Int.reduceNeg, Int.reduceAdd, Int.reduceSub, Int.reduceMul, Int.reduceToNat, Nat.le_refl, Nat.zero_le, Nat.zero_add, Int.zero_add, Int.add_zero, and_true, true_and, and_false, false_and, not_true_eq_false, not_false_eq_true, eq_self, ne_eq, true_implies, false_implies, implies_true, or_true, true_or, or_false, false_or, reduceCtorEq, Option.some.injEq, Sum.inl.injEq, exists_eq_left', exists_eq_left, zite]
    exact fin
  · have st := L1 (by rw [← Bool.not_eq_true, p0e]; exact z) (0, N') ⟨Nat.zero_le _, q1, fun j hj => by simp at hj⟩
    simp only [↓rX8_spareBy_9, ↓rX8_spareBy_14, ↓rX8_spareBy_15, ↓reduceIte, zkeep_n, zkeep_i, zkeep_r, zkeep_l, zup_eq, zIR, zLR, List.length_cons, List.length_nil, Nat.reduceAdd, Nat.reduceLeDiff, Nat.reduceEqDiff, Nat.reduceSub, Int.reduceLE, Int.reduceLT, Int.reduceEq, Int.reduceNe, Int.reduceNeg, Int.reduceAdd, Int.reduceSub, Int.reduceMul, Int.reduceToNat, Nat.le_refl, Nat.zero_le, Nat.zero_add, Int.zero_add, Int.add_zero, and_true, true_and, and_false, false_and, not_true_eq_false, not_false_eq_true, eq_self, ne_eq, true_implies, false_implies, implies_true, or_true, true_or, or_false, false_or, reduceCtorEq, Option.some.injEq, Sum.inl.injEq, exists_eq_left', exists_eq_left, zite]
    exact st
set_option maxRecDepth 100000 in
set_option maxHeartbeats 4000000 in
theorem y_spare {S M : zM} {R : zP} {i : Int} (hW : WX S) (h : RM S M) (z4 : zIR i) (hR : ∀ M', YQ M M' → R (some (.inl (aSpare S i))) M') : tX8_spare [.inr (.inr 46), .inl i] M R := by
  have hk := W_k hW
  unfold zIR at z4
  have bad : ¬ (-1 ≤ i ∧ i ≤ 1) → R (some (.inl (-2))) M := fun hb => by
    have := hR M YQ.rfl
    unfold aSpare at this
    rw [if_neg hb] at this
    exact this
  have go : (-1 ≤ i ∧ i ≤ 1) → zcv (zv 8 tX8_spareBy) [.inr (.inr 46)] M (fun v M' => uX8_spare R 14 [some (.inr (.inr 46)), some (.inl i)] [v, .inr (.inr 46)] M') := fun q3 => by
    refine s_spareBy hW h (fun M2 g1 g2 g3 g4 => ?_)
    have fin := hR M2 g1
    unfold aSpare at fin
    rw [if_pos q3] at fin
    have hpl := pl_low (sp0 S kall) (fun a => sp0 S (kbut a)) (sp2 S) (nf S)
    have hpr := pl_R (sp0 S kall) (fun a => sp0 S (kbut a)) (sp2 S) (nf S)
    generalize plN (sp0 S kall) (fun a => sp0 S (kbut a)) (sp2 S) (nf S) = n at *
    generalize plA (sp0 S kall) (fun a => sp0 S (kbut a)) (sp2 S) (nf S) = a at *
    generalize plB (sp0 S kall) (fun a => sp0 S (kbut a)) (sp2 S) (nf S) = b at *
    have e : i = -1 ∨ i = 0 ∨ i = 1 := by omega
    rcases e with rfl | rfl | rfl
    · rw [if_pos rfl] at fin
      simp only [↓rX8_spare_14, ↓rX8_spare_15, ↓rX8_spare_18, ↓rX8_spare_23, ↓reduceIte, ↓i_ofRow, zkeep_n, zkeep_i, zkeep_r, zkeep_l, zup_eq, zIR, zLR, List.length_cons, List.length_nil, Nat.reduceAdd, Nat.reduceLeDiff, Nat.reduceEqDiff, Nat.reduceSub, Int.reduceLE, Int.reduceLT, Int.reduceEq, Int.reduceNe, Int.reduceNeg, Int.reduceAdd, Int.reduceSub, Int.reduceMul, Int.reduceToNat, Nat.le_refl, Nat.zero_le, Nat.zero_add, Int.zero_add, Int.add_zero, and_true, true_and, and_false, false_and, not_true_eq_false, not_false_eq_true, eq_self, ne_eq, true_implies, false_implies, implies_true, or_true, true_or, or_false, false_or, reduceCtorEq, Option.some.injEq, Sum.inl.injEq, exists_eq_left', exists_eq_left, zite]
      exact fin
    · rw [if_neg (by decide), if_pos rfl] at fin
      by_cases c : 1 ≤ n
      · rw [← g3 c] at fin
        simp only [↓rX8_spare_14, ↓rX8_spare_15, ↓rX8_spare_18, ↓rX8_spare_23, ↓reduceIte, ↓i_ofRow, zkeep_n, zkeep_i, zkeep_r, zkeep_l, zup_eq, zIR, zLR, List.length_cons, List.length_nil, Nat.reduceAdd, Nat.reduceLeDiff, Nat.reduceEqDiff, Nat.reduceSub, Int.reduceLE, Int.reduceLT, Int.reduceEq, Int.reduceNe, Int.reduceNeg, Int.reduceAdd, Int.reduceSub, Int.reduceMul, Int.reduceToNat, Nat.le_refl, Nat.zero_le, Nat.zero_add, Int.zero_add, Int.add_zero, and_true, true_and, and_false, false_and, not_true_eq_false, not_false_eq_true, eq_self, ne_eq, true_implies, false_implies, implies_true, or_true, true_or, or_false, false_or, reduceCtorEq, Option.some.injEq, Sum.inl.injEq, exists_eq_left', exists_eq_left, zite]
        repeat' (first | with_reducible apply And.intro | with_reducible intro _)
        all_goals first | omega | (exact fin)
      · rw [hpl.1 (by omega)] at fin
        simp only [↓rX8_spare_14, ↓rX8_spare_15, ↓rX8_spare_18, ↓rX8_spare_23, ↓reduceIte, ↓i_ofRow, zkeep_n, zkeep_i, zkeep_r, zkeep_l, zup_eq, zIR, zLR, List.length_cons, List.length_nil, Nat.reduceAdd, Nat.reduceLeDiff, Nat.reduceEqDiff, Nat.reduceSub, Int.reduceLE, Int.reduceLT, Int.reduceEq, Int.reduceNe, Int.reduceNeg, Int.reduceAdd, Int.reduceSub, Int.reduceMul, Int.reduceToNat, Nat.le_refl, Nat.zero_le, Nat.zero_add, Int.zero_add, Int.add_zero, and_true, true_and, and_false, false_and, not_true_eq_false, not_false_eq_true, eq_self, ne_eq, true_implies, false_implies, implies_true, or_true, true_or, or_false, false_or, reduceCtorEq, Option.some.injEq, Sum.inl.injEq, exists_eq_left', exists_eq_left, zite]
        repeat' (first | with_reducible apply And.intro | with_reducible intro _)
        all_goals first | omega | (exact fin)
    · rw [if_neg (by decide), if_neg (by decide)] at fin
      by_cases c : 2 ≤ n
      · rw [← g4 c] at fin
        simp only [↓rX8_spare_14, ↓rX8_spare_15, ↓rX8_spare_18, ↓rX8_spare_23, ↓reduceIte, ↓i_ofRow, zkeep_n, zkeep_i, zkeep_r, zkeep_l, zup_eq, zIR, zLR, List.length_cons, List.length_nil, Nat.reduceAdd, Nat.reduceLeDiff, Nat.reduceEqDiff, Nat.reduceSub, Int.reduceLE, Int.reduceLT, Int.reduceEq, Int.reduceNe, Int.reduceNeg, Int.reduceAdd, Int.reduceSub, Int.reduceMul, Int.reduceToNat, Nat.le_refl, Nat.zero_le, Nat.zero_add, Int.zero_add, Int.add_zero, and_true, true_and, and_false, false_and, not_true_eq_false, not_false_eq_true, eq_self, ne_eq, true_implies, false_implies, implies_true, or_true, true_or, or_false, false_or, reduceCtorEq, Option.some.injEq, Sum.inl.injEq, exists_eq_left', exists_eq_left, zite]
        repeat' (first | with_reducible apply And.intro | with_reducible intro _)
        all_goals first | omega | (exact fin)
      · rw [hpl.2 (by omega)] at fin
        simp only [↓rX8_spare_14, ↓rX8_spare_15, ↓rX8_spare_18, ↓rX8_spare_23, ↓reduceIte, ↓i_ofRow, zkeep_n, zkeep_i, zkeep_r, zkeep_l, zup_eq, zIR, zLR, List.length_cons, List.length_nil, Nat.reduceAdd, Nat.reduceLeDiff, Nat.reduceEqDiff, Nat.reduceSub, Int.reduceLE, Int.reduceLT, Int.reduceEq, Int.reduceNe, Int.reduceNeg, Int.reduceAdd, Int.reduceSub, Int.reduceMul, Int.reduceToNat, Nat.le_refl, Nat.zero_le, Nat.zero_add, Int.zero_add, Int.add_zero, and_true, true_and, and_false, false_and, not_true_eq_false, not_false_eq_true, eq_self, ne_eq, true_implies, false_implies, implies_true, or_true, true_or, or_false, false_or, reduceCtorEq, Option.some.injEq, Sum.inl.injEq, exists_eq_left', exists_eq_left, zite]
        repeat' (first | with_reducible apply And.intro | with_reducible intro _)
        all_goals first | omega | (exact fin)
  simp only [↓eX8_spare, ↓rX8_spare_0, ↓rX8_spare_1, ↓rX8_spare_2, ↓rX8_spare_3, ↓rX8_spare_6, ↓rX8_spare_9, ↓rX8_spare_10, ↓rX8_spare_11, ↓rX8_spare_21, ↓rX8_spare_23, ↓i_in, ↓reduceIte, zkeep_n, zkeep_i, zkeep_r, zkeep_l, zup_eq, zIR, zLR, List.length_cons, List.length_nil, Nat.reduceAdd, Nat.reduceLeDiff, Nat.reduceEqDiff, Nat.reduceSub, Int.reduceLE, Int.reduceLT, Int.reduceEq, Int.reduceNe, Int.reduceNeg, Int.reduceAdd, Int.reduceSub, Int.reduceMul, Int.reduceToNat, Nat.le_refl, Nat.zero_le, Nat.zero_add, Int.zero_add, Int.add_zero, and_true, true_and, and_false, false_and, not_true_eq_false, not_false_eq_true, eq_self, ne_eq, true_implies, false_implies, implies_true, or_true, true_or, or_false, false_or, reduceCtorEq, Option.some.injEq, Sum.inl.injEq, exists_eq_left', exists_eq_left, zite]
  repeat' (first | with_reducible apply And.intro | with_reducible intro _)
  all_goals first | omega | (exact bad (by omega)) | (exact go (by omega))
