theorem zcv_go {F : zF} {V : zN} {cc : ByteArray} {nL : Nat} {as : List zV} {M : zM} {f : zV → zM → Prop} : zcv (zgo F V cc nL) as M f ↔ zgo F V cc nL as M (fun r M' => ∃ v, r = some v ∧ f v M') :=
  ⟨fun ⟨_, h1, h2⟩ => ⟨h1.1, zU_mono h2 h1.2⟩, fun h => ⟨_, h, fun _ _ q => q⟩⟩
theorem zcn_go {F : zF} {V : zN} {cc : ByteArray} {nL : Nat} {as : List zV} {M : zM} {f : zM → Prop} : zcn (zgo F V cc nL) as M f ↔ zgo F V cc nL as M (fun r M' => r = none ∧ f M') :=
  ⟨fun ⟨_, h1, h2⟩ => ⟨h1.1, zU_mono h2 h1.2⟩, fun h => ⟨_, h, fun _ _ q => q⟩⟩
theorem zcv_gv {ci : Nat} {F : zF} {V : zN} {cc : ByteArray} {nL : Nat} {as : List zV} {M : zM} {f : zV → zM → Prop} (h : zrcv ci as) : zcv (zv ci (zgo F V cc nL)) as M f ↔ zgo F V cc nL as M (fun r M' => ∃ v, r = some v ∧ f v M') :=
  ⟨fun ⟨_, h1, h2⟩ => ⟨h1.2.1, zU_mono h2 h1.2.2⟩, fun q => ⟨_, ⟨h, q⟩, fun _ _ q => q⟩⟩
theorem zcn_gv {ci : Nat} {F : zF} {V : zN} {cc : ByteArray} {nL : Nat} {as : List zV} {M : zM} {f : zM → Prop} (h : zrcv ci as) : zcn (zv ci (zgo F V cc nL)) as M f ↔ zgo F V cc nL as M (fun r M' => r = none ∧ f M') :=
  ⟨fun ⟨_, h1, h2⟩ => ⟨h1.2.1, zU_mono h2 h1.2.2⟩, fun q => ⟨_, ⟨h, q⟩, fun _ _ q => q⟩⟩
theorem i_max {a b : Int} {M : zM} {f : zV → zM → Prop} : zcv zmaxT [.inl a, .inl b] M f ↔ ((zIR a ∧ zIR b) ∧ f (.inl (if a < b then b else a)) M) :=
  ⟨fun ⟨_, h1, h2⟩ => ⟨h1.1, by obtain ⟨v, hv, q⟩ := h2 _ _ h1.2; cases hv; exact q⟩, fun h => ⟨_, ⟨h.1, ⟨_, rfl, h.2⟩⟩, fun _ _ q => q⟩⟩
theorem i_min {a b : Int} {M : zM} {f : zV → zM → Prop} : zcv zminT [.inl a, .inl b] M f ↔ ((zIR a ∧ zIR b) ∧ f (.inl (if b < a then b else a)) M) :=
  ⟨fun ⟨_, h1, h2⟩ => ⟨h1.1, by obtain ⟨v, hv, q⟩ := h2 _ _ h1.2; cases hv; exact q⟩, fun h => ⟨_, ⟨h.1, ⟨_, rfl, h.2⟩⟩, fun _ _ q => q⟩⟩
theorem i_abs {a : Int} {M : zM} {f : zV → zM → Prop} : zcv zabsT [.inl a] M f ↔ (zIR a ∧ f (.inl (if 0 ≤ a then a else 0 - a)) M) :=
  ⟨fun ⟨_, h1, h2⟩ => ⟨h1.1, by obtain ⟨v, hv, q⟩ := h2 _ _ h1.2; cases hv; exact q⟩, fun h => ⟨_, ⟨h.1, ⟨_, rfl, h.2⟩⟩, fun _ _ q => q⟩⟩
set_option maxHeartbeats 4000000 in
theorem i_outside {a b : Int} {M : zM} {f : zV → zM → Prop} : zcv tX7_outside [.inl a, .inl b] M f ↔ (zIR a ∧ if a < 0 then f (.inl 1) M else (zIR a ∧ zIR b) ∧ if a < b then f (.inl 0) M else f (.inl 1) M) := by
  rw [tX7_outside, zcv_go, ← tX7_outside]
  simp only [↓eX7_outside, ↓rX7_outside_0, ↓rX7_outside_1, ↓rX7_outside_4, ↓rX7_outside_5, ↓rX7_outside_6, ↓rX7_outside_9, ↓rX7_outside_10, ↓rX7_outside_14, ↓rX7_outside_13, ↓reduceIte, zkeep_n, zkeep_i, zkeep_r, zkeep_l, zup_eq, zIR, zLR, List.length_cons, List.length_nil, Nat.reduceAdd, Nat.reduceLeDiff, Nat.reduceEqDiff, Nat.reduceSub, Int.reduceLE, Int.reduceLT, Int.reduceEq, Int.reduceNe, Int.reduceNeg, Int.reduceAdd, Int.reduceSub, Int.reduceMul, Int.reduceToNat, Nat.le_refl, Nat.zero_le, Nat.zero_add, Int.zero_add, Int.add_zero, and_true, true_and, and_false, false_and, not_true_eq_false, not_false_eq_true, eq_self, ne_eq, true_implies, false_implies, implies_true, or_true, true_or, or_false, false_or, reduceCtorEq, Option.some.injEq, Sum.inl.injEq, exists_eq_left', exists_eq_left, zite]
set_option maxHeartbeats 4000000 in
theorem i_bit {a : Int} {M : zM} {f : zV → zM → Prop} : zcv tX7_bit [.inl a] M f ↔ (zIR a ∧ if a = 0 then f (.inl 0) M else f (.inl 1) M) := by
  rw [tX7_bit, zcv_go, ← tX7_bit]
  simp only [↓eX7_bit, ↓rX7_bit_0, ↓rX7_bit_1, ↓rX7_bit_4, ↓rX7_bit_5, ↓rX7_bit_9, ↓rX7_bit_8, ↓reduceIte, zkeep_n, zkeep_i, zkeep_r, zkeep_l, zup_eq, zIR, zLR, List.length_cons, List.length_nil, Nat.reduceAdd, Nat.reduceLeDiff, Nat.reduceEqDiff, Nat.reduceSub, Int.reduceLE, Int.reduceLT, Int.reduceEq, Int.reduceNe, Int.reduceNeg, Int.reduceAdd, Int.reduceSub, Int.reduceMul, Int.reduceToNat, Nat.le_refl, Nat.zero_le, Nat.zero_add, Int.zero_add, Int.add_zero, and_true, true_and, and_false, false_and, not_true_eq_false, not_false_eq_true, eq_self, ne_eq, true_implies, false_implies, implies_true, or_true, true_or, or_false, false_or, reduceCtorEq, Option.some.injEq, Sum.inl.injEq, exists_eq_left', exists_eq_left, zite]
