set_option maxRecDepth 100000 in
set_option maxHeartbeats 4000000 in
theorem law_body {L : Nat} {xs : Int → Int} {R : zP} {S M : zM} {i : Int} (hxs : ∀ j, zIR (xs j)) (hL : (L : Int) ≤ 2147483647) (hi : 0 ≤ i) (hi2 : zIR i) (hX : RX S M) (hM : RM S M) (hr : R (some (.inl 1)) M) (nx : i + 6 ≤ L → ∀ S' M', RX S' M' → RM S' M' → uL L xs R 1366 [some (.inr (.inr 105)), some (.inr (.inr 0)), some (.inr (.inr 46)), some (.inl i)] [] M') : uL L xs R 18 [some (.inr (.inr 105)), some (.inr (.inr 0)), some (.inr (.inr 46)), some (.inl i)] [] M := by
  have sw : i + 6 ≤ L → uL L xs R 33 [some (.inr (.inr 105)), some (.inr (.inr 0)), some (.inr (.inr 46)), some (.inl i)] [.inl (zand (xs i) 63)] M := by
    intro hb
    have n := nx hb
    refine rL_33 (zand_R _ _) (fun _ => n S M hX hM) ⟨fun _ => law_type hxs ⟨hi, hb⟩ hX hM n, fun _ => law_wipe hxs ⟨hi, hb⟩ hX hM n, fun _ => law_undo hxs ⟨hi, hb⟩ hX hM n, fun _ => law_fault hxs ⟨hi, hb⟩ hX hM n, fun _ => law_member hxs ⟨hi, hb⟩ hX hM n, fun _ => law_cow hxs ⟨hi, hb⟩ hX hM n, fun _ => law_feed hxs ⟨hi, hb⟩ hX hM n, fun _ => law_back hxs ⟨hi, hb⟩ hX hM n, fun _ => law_read hxs ⟨hi, hb⟩ hX hM n, fun _ => law_at hxs ⟨hi, hb⟩ hX hM n, fun _ => law_able hxs ⟨hi, hb⟩ hX hM n, fun _ => law_house hxs ⟨hi, hb⟩ hX hM n, fun _ => law_pusey hxs ⟨hi, hb⟩ hX hM n, fun _ => law_weaned hxs ⟨hi, hb⟩ hX hM n, fun _ => law_says hxs ⟨hi, hb⟩ hX hM n, fun _ => law_power hxs ⟨hi, hb⟩ hX hM n, fun _ => law_rear hxs ⟨hi, hb⟩ hX hM n, fun _ => law_carry hxs ⟨hi, hb⟩ hX hM n, fun _ => law_spare hxs ⟨hi, hb⟩ hX hM n, fun _ => law_seen hxs ⟨hi, hb⟩ hX hM n, fun _ => law_forget hxs ⟨hi, hb⟩ hX hM n, fun _ => law_never hxs ⟨hi, hb⟩ hX hM n, fun _ => law_sort hxs ⟨hi, hb⟩ hX hM n, fun _ => law_first hxs ⟨hi, hb⟩ hX hM n, fun _ => law_ask hxs ⟨hi, hb⟩ hX hM n, fun _ => law_cream hxs ⟨hi, hb⟩ hX hM n, fun _ => law_years hxs ⟨hi, hb⟩ hX hM n, fun _ => law_sheet hxs ⟨hi, hb⟩ hX hM n, fun _ => law_lose hxs ⟨hi, hb⟩ hX hM n, fun _ => law_put hxs ⟨hi, hb⟩ hX hM n, fun _ => law_get hxs ⟨hi, hb⟩ hX hM n, fun _ => law_copy hxs ⟨hi, hb⟩ hX hM n, fun _ => law_write hxs ⟨hi, hb⟩ hX hM n, fun _ => law_count hxs ⟨hi, hb⟩ hX hM n, fun _ => law_digest hxs ⟨hi, hb⟩ hX hM n⟩
  obtain ⟨hi3, hi4⟩ := hi2
  simp only [↓rL_18, ↓rL_19, ↓rL_20, ↓rL_21, ↓rL_23, ↓rL_24, ↓rL_27, ↓rL_28, ↓rL_29, ↓rL_30, ↓rL_32, ↓rL_1372, ↓rL_1373, ↓hL_r, ↓hL_l, ↓reduceIte, zkeep_n, zkeep_i, zkeep_r, zkeep_l, zIR, zLR, List.length_cons, List.length_nil, Nat.reduceAdd, Nat.reduceLeDiff, Nat.reduceEqDiff, Nat.reduceSub, Int.reduceLE, Int.reduceLT, Int.reduceEq, Int.reduceNe, Int.reduceNeg, Int.reduceAdd, Int.reduceSub, Int.reduceMul, Int.reduceToNat, Nat.le_refl, Nat.zero_le, Nat.zero_add, Int.zero_add, Int.add_zero, and_true, true_and, and_false, false_and, not_true_eq_false, not_false_eq_true, eq_self, ne_eq, true_implies, false_implies, implies_true, or_true, true_or, or_false, false_or, reduceCtorEq, Option.some.injEq, Sum.inl.injEq, exists_eq_left', exists_eq_left, zite]
  repeat' (first | with_reducible apply And.intro | with_reducible intro _)
  all_goals first | omega | (exact sw (by omega)) | (exact hr) | (constructor <;> omega) | (exact Or.inr rfl)
set_option maxRecDepth 100000 in
set_option maxHeartbeats 4000000 in
theorem law_loop {L : Nat} {xs : Int → Int} {R : zP} {S M : zM} (hxs : ∀ j, zIR (xs j)) (hL : (L : Int) ≤ 2147483647) (hX : RX S M) (hM : RM S M) (hr : ∀ M', R (some (.inl 1)) M') : uL L xs R 18 [some (.inr (.inr 105)), some (.inr (.inr 0)), some (.inr (.inr 46)), some (.inl 0)] [] M := by
  have key : ∀ q : Int × zM × zM, (0 ≤ q.1 ∧ q.1 ≤ L ∧ RX q.2.1 q.2.2 ∧ RM q.2.1 q.2.2) → uL L xs R 18 [some (.inr (.inr 105)), some (.inr (.inr 0)), some (.inr (.inr 46)), some (.inl q.1)] [] q.2.2 := by
    refine zind (fun q => ((L : Int) - q.1).toNat) ?_
    rintro ⟨i, S, M⟩ ⟨h0, h1, h2, h3⟩ ih
    simp only at h0 h1 h2 h3
    refine law_body hxs hL h0 ⟨by omega, by omega⟩ h2 h3 (hr _) ?_
    intro hb S' M' k1 k2
    rw [rL_1366, rL_1369]
    exact ih (i + 6, S', M') ⟨by simp only; omega, by simp only; omega, k1, k2⟩ (by simp only; omega)
  exact key (0, S, M) ⟨by simp only; omega, by simp only; omega, hX, hM⟩
