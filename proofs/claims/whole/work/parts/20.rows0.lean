def zcv (T : zT) (as : List zV) (M : zM) (f : zV → zM → Prop) : Prop := zcall T as M (fun r M' => ∃ v, r = some v ∧ f v M')
def zcn (T : zT) (as : List zV) (M : zM) (f : zM → Prop) : Prop := zcall T as M (fun r M' => r = none ∧ f M')
theorem zcv_of {T : zT} {as st : List zV} {M : zM} {f : List zV → zM → Prop} (h : zcall T as M (fun r M' => zans true r (fun vs => f (vs ++ st) M'))) : zcv T as M (fun v M' => f (v :: st) M') := by
  refine zcall_mono (fun r M' q => ?_) h
  cases r with
  | none => exact False.elim q
  | some v => exact ⟨v, rfl, q⟩
theorem zcv_to {T : zT} {as st : List zV} {M : zM} {f : List zV → zM → Prop} (h : zcv T as M (fun v M' => f (v :: st) M')) : zcall T as M (fun r M' => zans true r (fun vs => f (vs ++ st) M')) := by
  refine zcall_mono (fun r M' q => ?_) h
  obtain ⟨v, rfl, q⟩ := q
  exact q
theorem zcn_of {T : zT} {as st : List zV} {M : zM} {f : List zV → zM → Prop} (h : zcall T as M (fun r M' => zans false r (fun vs => f (vs ++ st) M'))) : zcn T as M (fun M' => f st M') := by
  refine zcall_mono (fun r M' q => ?_) h
  cases r with
  | none => exact ⟨rfl, q⟩
  | some v => exact False.elim q
theorem zcn_to {T : zT} {as st : List zV} {M : zM} {f : List zV → zM → Prop} (h : zcn T as M (fun M' => f st M')) : zcall T as M (fun r M' => zans false r (fun vs => f (vs ++ st) M')) := by
  refine zcall_mono (fun r M' q => ?_) h
  obtain ⟨rfl, q⟩ := q
  exact q
theorem zret2 {k : Nat} {a : Int} (hk : k = 2) (h : k = 1 ∨ (k = 2 ∧ (a = 0 ∨ a = 1)) ∨ (k = 5 ∧ a = 0)) : a = 0 ∨ a = 1 := by omega
theorem zret5 {k : Nat} {a : Int} (hk : k = 5) (h : k = 1 ∨ (k = 2 ∧ (a = 0 ∨ a = 1)) ∨ (k = 5 ∧ a = 0)) : a = 0 := by omega
theorem zite {c : Prop} [Decidable c] {A B : Prop} : (if c then A else B) ↔ ((c → A) ∧ (¬ c → B)) := by
  split
  · rename_i h
    exact ⟨fun a => ⟨fun _ => a, fun n => absurd h n⟩, fun q => q.1 h⟩
  · rename_i h
    exact ⟨fun a => ⟨fun n => absurd n h, fun _ => a⟩, fun q => q.2 h⟩
def zputx (F : zF) (i r : Nat) (M : zM) (v : zV) (f : zM → Prop) : Prop := zopt (zFf F i) (fun q => zputf q.1 r q.2 M v f)
def uX0_settle (R : zP) : zK := zU fX0 vX0_settle cX0_settle R
theorem dX0_settle_0 : decode cX0_settle 0 = .ok (.lload_n 3, 1) := by decide +kernel
theorem rX0_settle_0 {R : zP} {x0 x1 x2 x4 x5 x6 x7 x8 x9 x10 x11 : Option zV} {st : List zV} {M : zM} {a : Int} : uX0_settle R 0 [x0, x1, x2, some (.inr (.inl a)), x4, x5, x6, x7, x8, x9, x10, x11] st M ↔ uX0_settle R 1 [x0, x1, x2, some (.inr (.inl a)), x4, x5, x6, x7, x8, x9, x10, x11] (.inr (.inl a) :: st) M := zU_step dX0_settle_0 (Or.inl rfl)
theorem dX0_settle_1 : decode cX0_settle 1 = .ok (.lstore 5, 2) := by decide +kernel
theorem rX0_settle_1 {R : zP} {x0 x1 x2 x3 x5 x6 x7 x8 x9 x10 x11 : Option zV} {st : List zV} {M : zM} {a : Int} : uX0_settle R 1 [x0, x1, x2, x3, none, x5, x6, x7, x8, x9, x10, x11] (.inr (.inl a) :: st) M ↔ uX0_settle R 3 [x0, x1, x2, x3, none, some (.inr (.inl a)), none, x7, x8, x9, x10, x11] st M := Iff.trans (zU_step dX0_settle_1 (Or.inl rfl)) ⟨fun h => h.2, fun h => ⟨show 5 + 1 < 12 by decide, h⟩⟩
theorem rX0_settle_1z {R : zP} {x0 x1 x2 x3 x4 x5 x6 x7 x8 x9 x10 x11 : Option zV} {st : List zV} {M : zM} {a : Int} : uX0_settle R 1 [x0, x1, x2, x3, x4, x5, x6, x7, x8, x9, x10, x11] (.inr (.inl a) :: st) M ↔ uX0_settle R 3 [x0, x1, x2, x3, zkeep x4, some (.inr (.inl a)), none, x7, x8, x9, x10, x11] st M := Iff.trans (zU_step dX0_settle_1 (Or.inl rfl)) ⟨fun h => h.2, fun h => ⟨show 5 + 1 < 12 by decide, h⟩⟩
theorem dX0_settle_3 : decode cX0_settle 3 = .ok (.lload_n 1, 1) := by decide +kernel
theorem rX0_settle_3 {R : zP} {x0 x2 x3 x4 x5 x6 x7 x8 x9 x10 x11 : Option zV} {st : List zV} {M : zM} {a : Int} : uX0_settle R 3 [x0, some (.inr (.inl a)), x2, x3, x4, x5, x6, x7, x8, x9, x10, x11] st M ↔ uX0_settle R 4 [x0, some (.inr (.inl a)), x2, x3, x4, x5, x6, x7, x8, x9, x10, x11] (.inr (.inl a) :: st) M := zU_step dX0_settle_3 (Or.inl rfl)
theorem dX0_settle_4 : decode cX0_settle 4 = .ok (.lstore 7, 2) := by decide +kernel
theorem rX0_settle_4 {R : zP} {x0 x1 x2 x3 x4 x5 x7 x8 x9 x10 x11 : Option zV} {st : List zV} {M : zM} {a : Int} : uX0_settle R 4 [x0, x1, x2, x3, x4, x5, none, x7, x8, x9, x10, x11] (.inr (.inl a) :: st) M ↔ uX0_settle R 6 [x0, x1, x2, x3, x4, x5, none, some (.inr (.inl a)), none, x9, x10, x11] st M := Iff.trans (zU_step dX0_settle_4 (Or.inl rfl)) ⟨fun h => h.2, fun h => ⟨show 7 + 1 < 12 by decide, h⟩⟩
theorem rX0_settle_4z {R : zP} {x0 x1 x2 x3 x4 x5 x6 x7 x8 x9 x10 x11 : Option zV} {st : List zV} {M : zM} {a : Int} : uX0_settle R 4 [x0, x1, x2, x3, x4, x5, x6, x7, x8, x9, x10, x11] (.inr (.inl a) :: st) M ↔ uX0_settle R 6 [x0, x1, x2, x3, x4, x5, zkeep x6, some (.inr (.inl a)), none, x9, x10, x11] st M := Iff.trans (zU_step dX0_settle_4 (Or.inl rfl)) ⟨fun h => h.2, fun h => ⟨show 7 + 1 < 12 by decide, h⟩⟩
theorem dX0_settle_6 : decode cX0_settle 6 = .ok (.iconst 0, 1) := by decide +kernel
theorem rX0_settle_6 {R : zP} {x0 x1 x2 x3 x4 x5 x6 x7 x8 x9 x10 x11 : Option zV} {st : List zV} {M : zM} : uX0_settle R 6 [x0, x1, x2, x3, x4, x5, x6, x7, x8, x9, x10, x11] st M ↔ uX0_settle R 7 [x0, x1, x2, x3, x4, x5, x6, x7, x8, x9, x10, x11] (.inl (0) :: st) M := zU_step dX0_settle_6 (Or.inl rfl)
theorem dX0_settle_7 : decode cX0_settle 7 = .ok (.istore 9, 2) := by decide +kernel
theorem rX0_settle_7 {R : zP} {x0 x1 x2 x3 x4 x5 x6 x7 x9 x10 x11 : Option zV} {st : List zV} {M : zM} {a : Int} : uX0_settle R 7 [x0, x1, x2, x3, x4, x5, x6, x7, none, x9, x10, x11] (.inl a :: st) M ↔ uX0_settle R 9 [x0, x1, x2, x3, x4, x5, x6, x7, none, some (.inl a), x10, x11] st M := Iff.trans (zU_step dX0_settle_7 (Or.inl rfl)) ⟨fun h => h.2, fun h => ⟨show 9 < 12 by decide, h⟩⟩
theorem rX0_settle_7z {R : zP} {x0 x1 x2 x3 x4 x5 x6 x7 x8 x9 x10 x11 : Option zV} {st : List zV} {M : zM} {a : Int} : uX0_settle R 7 [x0, x1, x2, x3, x4, x5, x6, x7, x8, x9, x10, x11] (.inl a :: st) M ↔ uX0_settle R 9 [x0, x1, x2, x3, x4, x5, x6, x7, zkeep x8, some (.inl a), x10, x11] st M := Iff.trans (zU_step dX0_settle_7 (Or.inl rfl)) ⟨fun h => h.2, fun h => ⟨show 9 < 12 by decide, h⟩⟩
theorem dX0_settle_9 : decode cX0_settle 9 = .ok (.iload 9, 2) := by decide +kernel
theorem rX0_settle_9 {R : zP} {x0 x1 x2 x3 x4 x5 x6 x7 x8 x10 x11 : Option zV} {st : List zV} {M : zM} {a : Int} : uX0_settle R 9 [x0, x1, x2, x3, x4, x5, x6, x7, x8, some (.inl a), x10, x11] st M ↔ uX0_settle R 11 [x0, x1, x2, x3, x4, x5, x6, x7, x8, some (.inl a), x10, x11] (.inl a :: st) M := zU_step dX0_settle_9 (Or.inl rfl)
theorem dX0_settle_11 : decode cX0_settle 11 = .ok (.bipush 100, 2) := by decide +kernel
theorem rX0_settle_11 {R : zP} {x0 x1 x2 x3 x4 x5 x6 x7 x8 x9 x10 x11 : Option zV} {st : List zV} {M : zM} : uX0_settle R 11 [x0, x1, x2, x3, x4, x5, x6, x7, x8, x9, x10, x11] st M ↔ uX0_settle R 13 [x0, x1, x2, x3, x4, x5, x6, x7, x8, x9, x10, x11] (.inl (100) :: st) M := Iff.trans (zU_step dX0_settle_11 (Or.inl rfl)) ⟨fun h => h.2, fun h => ⟨by decide, h⟩⟩
theorem dX0_settle_13 : decode cX0_settle 13 = .ok (.if_icmp .ge 31, 3) := by decide +kernel
theorem rX0_settle_13 {R : zP} {x0 x1 x2 x3 x4 x5 x6 x7 x8 x9 x10 x11 : Option zV} {st : List zV} {M : zM} {a b : Int} : uX0_settle R 13 [x0, x1, x2, x3, x4, x5, x6, x7, x8, x9, x10, x11] (.inl b :: .inl a :: st) M ↔ ((zIR a ∧ zIR b) ∧ if b ≤ a then uX0_settle R 44 [x0, x1, x2, x3, x4, x5, x6, x7, x8, x9, x10, x11] st M else uX0_settle R 16 [x0, x1, x2, x3, x4, x5, x6, x7, x8, x9, x10, x11] st M) := Iff.trans (zU_step dX0_settle_13 (Or.inl rfl)) ⟨fun h => ⟨⟨h.1.1, h.1.2.1⟩, (zite (c := b ≤ a)).mpr h.2⟩, fun h => ⟨⟨h.1.1, h.1.2, by decide⟩, (zite (c := b ≤ a)).mp h.2⟩⟩
theorem dX0_settle_16 : decode cX0_settle 16 = .ok (.lload 7, 2) := by decide +kernel
theorem rX0_settle_16 {R : zP} {x0 x1 x2 x3 x4 x5 x6 x8 x9 x10 x11 : Option zV} {st : List zV} {M : zM} {a : Int} : uX0_settle R 16 [x0, x1, x2, x3, x4, x5, x6, some (.inr (.inl a)), x8, x9, x10, x11] st M ↔ uX0_settle R 18 [x0, x1, x2, x3, x4, x5, x6, some (.inr (.inl a)), x8, x9, x10, x11] (.inr (.inl a) :: st) M := zU_step dX0_settle_16 (Or.inl rfl)
theorem dX0_settle_18 : decode cX0_settle 18 = .ok (.lconst 0, 1) := by decide +kernel
theorem rX0_settle_18 {R : zP} {x0 x1 x2 x3 x4 x5 x6 x7 x8 x9 x10 x11 : Option zV} {st : List zV} {M : zM} : uX0_settle R 18 [x0, x1, x2, x3, x4, x5, x6, x7, x8, x9, x10, x11] st M ↔ uX0_settle R 19 [x0, x1, x2, x3, x4, x5, x6, x7, x8, x9, x10, x11] (.inr (.inl 0) :: st) M := zU_step dX0_settle_18 (Or.inl rfl)
theorem dX0_settle_19 : decode cX0_settle 19 = .ok (.lcmp, 1) := by decide +kernel
theorem rX0_settle_19 {R : zP} {x0 x1 x2 x3 x4 x5 x6 x7 x8 x9 x10 x11 : Option zV} {st : List zV} {M : zM} {a b : Int} : uX0_settle R 19 [x0, x1, x2, x3, x4, x5, x6, x7, x8, x9, x10, x11] (.inr (.inl b) :: .inr (.inl a) :: st) M ↔ ((zLR a ∧ zLR b) ∧ uX0_settle R 20 [x0, x1, x2, x3, x4, x5, x6, x7, x8, x9, x10, x11] (.inl (zcmp a b) :: st) M) := zU_step dX0_settle_19 (Or.inl rfl)
theorem dX0_settle_20 : decode cX0_settle 20 = .ok (.ifCond .eq 24, 3) := by decide +kernel
theorem rX0_settle_20 {R : zP} {x0 x1 x2 x3 x4 x5 x6 x7 x8 x9 x10 x11 : Option zV} {st : List zV} {M : zM} {a : Int} : uX0_settle R 20 [x0, x1, x2, x3, x4, x5, x6, x7, x8, x9, x10, x11] (.inl a :: st) M ↔ (zIR a ∧ if a = 0 then uX0_settle R 44 [x0, x1, x2, x3, x4, x5, x6, x7, x8, x9, x10, x11] st M else uX0_settle R 23 [x0, x1, x2, x3, x4, x5, x6, x7, x8, x9, x10, x11] st M) := Iff.trans (zU_step dX0_settle_20 (Or.inl rfl)) ⟨fun h => ⟨h.1.1, (zite (c := a = 0)).mpr h.2⟩, fun h => ⟨⟨h.1, by decide⟩, (zite (c := a = 0)).mp h.2⟩⟩
theorem dX0_settle_23 : decode cX0_settle 23 = .ok (.lload 5, 2) := by decide +kernel
theorem rX0_settle_23 {R : zP} {x0 x1 x2 x3 x4 x6 x7 x8 x9 x10 x11 : Option zV} {st : List zV} {M : zM} {a : Int} : uX0_settle R 23 [x0, x1, x2, x3, x4, some (.inr (.inl a)), x6, x7, x8, x9, x10, x11] st M ↔ uX0_settle R 25 [x0, x1, x2, x3, x4, some (.inr (.inl a)), x6, x7, x8, x9, x10, x11] (.inr (.inl a) :: st) M := zU_step dX0_settle_23 (Or.inl rfl)
theorem dX0_settle_25 : decode cX0_settle 25 = .ok (.lload 7, 2) := by decide +kernel
theorem rX0_settle_25 {R : zP} {x0 x1 x2 x3 x4 x5 x6 x8 x9 x10 x11 : Option zV} {st : List zV} {M : zM} {a : Int} : uX0_settle R 25 [x0, x1, x2, x3, x4, x5, x6, some (.inr (.inl a)), x8, x9, x10, x11] st M ↔ uX0_settle R 27 [x0, x1, x2, x3, x4, x5, x6, some (.inr (.inl a)), x8, x9, x10, x11] (.inr (.inl a) :: st) M := zU_step dX0_settle_25 (Or.inl rfl)
theorem dX0_settle_27 : decode cX0_settle 27 = .ok (.lrem, 1) := by decide +kernel
theorem rX0_settle_27 {R : zP} {x0 x1 x2 x3 x4 x5 x6 x7 x8 x9 x10 x11 : Option zV} {st : List zV} {M : zM} {a b : Int} : uX0_settle R 27 [x0, x1, x2, x3, x4, x5, x6, x7, x8, x9, x10, x11] (.inr (.inl b) :: .inr (.inl a) :: st) M ↔ ((zLR a ∧ zLR b ∧ b ≠ 0) ∧ uX0_settle R 28 [x0, x1, x2, x3, x4, x5, x6, x7, x8, x9, x10, x11] (.inr (.inl (a.tmod b)) :: st) M) := zU_step dX0_settle_27 (Or.inl rfl)
theorem dX0_settle_28 : decode cX0_settle 28 = .ok (.lstore 10, 2) := by decide +kernel
theorem rX0_settle_28 {R : zP} {x0 x1 x2 x3 x4 x5 x6 x7 x8 x10 x11 : Option zV} {st : List zV} {M : zM} {a : Int} {y : Int} : uX0_settle R 28 [x0, x1, x2, x3, x4, x5, x6, x7, x8, some (.inl y), x10, x11] (.inr (.inl a) :: st) M ↔ uX0_settle R 30 [x0, x1, x2, x3, x4, x5, x6, x7, x8, some (.inl y), some (.inr (.inl a)), none] st M := Iff.trans (zU_step dX0_settle_28 (Or.inl rfl)) ⟨fun h => h.2, fun h => ⟨show 10 + 1 < 12 by decide, h⟩⟩
theorem rX0_settle_28z {R : zP} {x0 x1 x2 x3 x4 x5 x6 x7 x8 x9 x10 x11 : Option zV} {st : List zV} {M : zM} {a : Int} : uX0_settle R 28 [x0, x1, x2, x3, x4, x5, x6, x7, x8, x9, x10, x11] (.inr (.inl a) :: st) M ↔ uX0_settle R 30 [x0, x1, x2, x3, x4, x5, x6, x7, x8, zkeep x9, some (.inr (.inl a)), none] st M := Iff.trans (zU_step dX0_settle_28 (Or.inl rfl)) ⟨fun h => h.2, fun h => ⟨show 10 + 1 < 12 by decide, h⟩⟩
theorem dX0_settle_30 : decode cX0_settle 30 = .ok (.lload 7, 2) := by decide +kernel
theorem rX0_settle_30 {R : zP} {x0 x1 x2 x3 x4 x5 x6 x8 x9 x10 x11 : Option zV} {st : List zV} {M : zM} {a : Int} : uX0_settle R 30 [x0, x1, x2, x3, x4, x5, x6, some (.inr (.inl a)), x8, x9, x10, x11] st M ↔ uX0_settle R 32 [x0, x1, x2, x3, x4, x5, x6, some (.inr (.inl a)), x8, x9, x10, x11] (.inr (.inl a) :: st) M := zU_step dX0_settle_30 (Or.inl rfl)
theorem dX0_settle_32 : decode cX0_settle 32 = .ok (.lstore 5, 2) := by decide +kernel
theorem rX0_settle_32 {R : zP} {x0 x1 x2 x3 x5 x6 x7 x8 x9 x10 x11 : Option zV} {st : List zV} {M : zM} {a : Int} : uX0_settle R 32 [x0, x1, x2, x3, none, x5, x6, x7, x8, x9, x10, x11] (.inr (.inl a) :: st) M ↔ uX0_settle R 34 [x0, x1, x2, x3, none, some (.inr (.inl a)), none, x7, x8, x9, x10, x11] st M := Iff.trans (zU_step dX0_settle_32 (Or.inl rfl)) ⟨fun h => h.2, fun h => ⟨show 5 + 1 < 12 by decide, h⟩⟩
theorem rX0_settle_32z {R : zP} {x0 x1 x2 x3 x4 x5 x6 x7 x8 x9 x10 x11 : Option zV} {st : List zV} {M : zM} {a : Int} : uX0_settle R 32 [x0, x1, x2, x3, x4, x5, x6, x7, x8, x9, x10, x11] (.inr (.inl a) :: st) M ↔ uX0_settle R 34 [x0, x1, x2, x3, zkeep x4, some (.inr (.inl a)), none, x7, x8, x9, x10, x11] st M := Iff.trans (zU_step dX0_settle_32 (Or.inl rfl)) ⟨fun h => h.2, fun h => ⟨show 5 + 1 < 12 by decide, h⟩⟩
theorem dX0_settle_34 : decode cX0_settle 34 = .ok (.lload 10, 2) := by decide +kernel
theorem rX0_settle_34 {R : zP} {x0 x1 x2 x3 x4 x5 x6 x7 x8 x9 x11 : Option zV} {st : List zV} {M : zM} {a : Int} : uX0_settle R 34 [x0, x1, x2, x3, x4, x5, x6, x7, x8, x9, some (.inr (.inl a)), x11] st M ↔ uX0_settle R 36 [x0, x1, x2, x3, x4, x5, x6, x7, x8, x9, some (.inr (.inl a)), x11] (.inr (.inl a) :: st) M := zU_step dX0_settle_34 (Or.inl rfl)
theorem dX0_settle_36 : decode cX0_settle 36 = .ok (.lstore 7, 2) := by decide +kernel
theorem rX0_settle_36 {R : zP} {x0 x1 x2 x3 x4 x5 x7 x8 x9 x10 x11 : Option zV} {st : List zV} {M : zM} {a : Int} : uX0_settle R 36 [x0, x1, x2, x3, x4, x5, none, x7, x8, x9, x10, x11] (.inr (.inl a) :: st) M ↔ uX0_settle R 38 [x0, x1, x2, x3, x4, x5, none, some (.inr (.inl a)), none, x9, x10, x11] st M := Iff.trans (zU_step dX0_settle_36 (Or.inl rfl)) ⟨fun h => h.2, fun h => ⟨show 7 + 1 < 12 by decide, h⟩⟩
theorem rX0_settle_36z {R : zP} {x0 x1 x2 x3 x4 x5 x6 x7 x8 x9 x10 x11 : Option zV} {st : List zV} {M : zM} {a : Int} : uX0_settle R 36 [x0, x1, x2, x3, x4, x5, x6, x7, x8, x9, x10, x11] (.inr (.inl a) :: st) M ↔ uX0_settle R 38 [x0, x1, x2, x3, x4, x5, zkeep x6, some (.inr (.inl a)), none, x9, x10, x11] st M := Iff.trans (zU_step dX0_settle_36 (Or.inl rfl)) ⟨fun h => h.2, fun h => ⟨show 7 + 1 < 12 by decide, h⟩⟩
theorem dX0_settle_38 : decode cX0_settle 38 = .ok (.iinc 9 1, 3) := by decide +kernel
theorem rX0_settle_38 {R : zP} {x0 x1 x2 x3 x4 x5 x6 x7 x10 x11 : Option zV} {st : List zV} {M : zM} {a : Int} : uX0_settle R 38 [x0, x1, x2, x3, x4, x5, x6, x7, none, some (.inl a), x10, x11] st M ↔ uX0_settle R 41 [x0, x1, x2, x3, x4, x5, x6, x7, none, some (.inl (a + (1))), x10, x11] st M := Iff.trans (zU_step dX0_settle_38 (Or.inl rfl)) ⟨fun h => h.2, fun h => ⟨show 9 < 12 by decide, h⟩⟩
theorem rX0_settle_38z {R : zP} {x0 x1 x2 x3 x4 x5 x6 x7 x8 x10 x11 : Option zV} {st : List zV} {M : zM} {a : Int} : uX0_settle R 38 [x0, x1, x2, x3, x4, x5, x6, x7, x8, some (.inl a), x10, x11] st M ↔ uX0_settle R 41 [x0, x1, x2, x3, x4, x5, x6, x7, zkeep x8, some (.inl (a + (1))), x10, x11] st M := Iff.trans (zU_step dX0_settle_38 (Or.inl rfl)) ⟨fun h => h.2, fun h => ⟨show 9 < 12 by decide, h⟩⟩
theorem dX0_settle_41 : decode cX0_settle 41 = .ok (.goto (-32), 3) := by decide +kernel
theorem rX0_settle_41 {R : zP} {x0 x1 x2 x3 x4 x5 x6 x7 x8 x9 x10 x11 : Option zV} {st : List zV} {M : zM} : uX0_settle R 41 [x0, x1, x2, x3, x4, x5, x6, x7, x8, x9, x10, x11] st M ↔ uX0_settle R 9 [x0, x1, x2, x3, x4, x5, x6, x7, x8, x9, x10, x11] st M := Iff.trans (zU_step dX0_settle_41 (Or.inl rfl)) ⟨fun h => h.2, fun h => ⟨by decide, h⟩⟩
theorem dX0_settle_44 : decode cX0_settle 44 = .ok (.lload 5, 2) := by decide +kernel
theorem rX0_settle_44 {R : zP} {x0 x1 x2 x3 x4 x6 x7 x8 x9 x10 x11 : Option zV} {st : List zV} {M : zM} {a : Int} : uX0_settle R 44 [x0, x1, x2, x3, x4, some (.inr (.inl a)), x6, x7, x8, x9, x10, x11] st M ↔ uX0_settle R 46 [x0, x1, x2, x3, x4, some (.inr (.inl a)), x6, x7, x8, x9, x10, x11] (.inr (.inl a) :: st) M := zU_step dX0_settle_44 (Or.inl rfl)
theorem dX0_settle_46 : decode cX0_settle 46 = .ok (.lconst 0, 1) := by decide +kernel
theorem rX0_settle_46 {R : zP} {x0 x1 x2 x3 x4 x5 x6 x7 x8 x9 x10 x11 : Option zV} {st : List zV} {M : zM} : uX0_settle R 46 [x0, x1, x2, x3, x4, x5, x6, x7, x8, x9, x10, x11] st M ↔ uX0_settle R 47 [x0, x1, x2, x3, x4, x5, x6, x7, x8, x9, x10, x11] (.inr (.inl 0) :: st) M := zU_step dX0_settle_46 (Or.inl rfl)
theorem dX0_settle_47 : decode cX0_settle 47 = .ok (.lcmp, 1) := by decide +kernel
theorem rX0_settle_47 {R : zP} {x0 x1 x2 x3 x4 x5 x6 x7 x8 x9 x10 x11 : Option zV} {st : List zV} {M : zM} {a b : Int} : uX0_settle R 47 [x0, x1, x2, x3, x4, x5, x6, x7, x8, x9, x10, x11] (.inr (.inl b) :: .inr (.inl a) :: st) M ↔ ((zLR a ∧ zLR b) ∧ uX0_settle R 48 [x0, x1, x2, x3, x4, x5, x6, x7, x8, x9, x10, x11] (.inl (zcmp a b) :: st) M) := zU_step dX0_settle_47 (Or.inl rfl)
theorem dX0_settle_48 : decode cX0_settle 48 = .ok (.ifCond .eq 19, 3) := by decide +kernel
theorem rX0_settle_48 {R : zP} {x0 x1 x2 x3 x4 x5 x6 x7 x8 x9 x10 x11 : Option zV} {st : List zV} {M : zM} {a : Int} : uX0_settle R 48 [x0, x1, x2, x3, x4, x5, x6, x7, x8, x9, x10, x11] (.inl a :: st) M ↔ (zIR a ∧ if a = 0 then uX0_settle R 67 [x0, x1, x2, x3, x4, x5, x6, x7, x8, x9, x10, x11] st M else uX0_settle R 51 [x0, x1, x2, x3, x4, x5, x6, x7, x8, x9, x10, x11] st M) := Iff.trans (zU_step dX0_settle_48 (Or.inl rfl)) ⟨fun h => ⟨h.1.1, (zite (c := a = 0)).mpr h.2⟩, fun h => ⟨⟨h.1, by decide⟩, (zite (c := a = 0)).mp h.2⟩⟩
theorem dX0_settle_51 : decode cX0_settle 51 = .ok (.aload_n 0, 1) := by decide +kernel
theorem rX0_settle_51 {R : zP} {x1 x2 x3 x4 x5 x6 x7 x8 x9 x10 x11 : Option zV} {st : List zV} {M : zM} {a : Nat} : uX0_settle R 51 [some (.inr (.inr a)), x1, x2, x3, x4, x5, x6, x7, x8, x9, x10, x11] st M ↔ uX0_settle R 52 [some (.inr (.inr a)), x1, x2, x3, x4, x5, x6, x7, x8, x9, x10, x11] (.inr (.inr a) :: st) M := zU_step dX0_settle_51 (Or.inl rfl)
theorem dX0_settle_52 : decode cX0_settle 52 = .ok (.lload_n 1, 1) := by decide +kernel
theorem rX0_settle_52 {R : zP} {x0 x2 x3 x4 x5 x6 x7 x8 x9 x10 x11 : Option zV} {st : List zV} {M : zM} {a : Int} : uX0_settle R 52 [x0, some (.inr (.inl a)), x2, x3, x4, x5, x6, x7, x8, x9, x10, x11] st M ↔ uX0_settle R 53 [x0, some (.inr (.inl a)), x2, x3, x4, x5, x6, x7, x8, x9, x10, x11] (.inr (.inl a) :: st) M := zU_step dX0_settle_52 (Or.inl rfl)
theorem dX0_settle_53 : decode cX0_settle 53 = .ok (.lload 5, 2) := by decide +kernel
theorem rX0_settle_53 {R : zP} {x0 x1 x2 x3 x4 x6 x7 x8 x9 x10 x11 : Option zV} {st : List zV} {M : zM} {a : Int} : uX0_settle R 53 [x0, x1, x2, x3, x4, some (.inr (.inl a)), x6, x7, x8, x9, x10, x11] st M ↔ uX0_settle R 55 [x0, x1, x2, x3, x4, some (.inr (.inl a)), x6, x7, x8, x9, x10, x11] (.inr (.inl a) :: st) M := zU_step dX0_settle_53 (Or.inl rfl)
theorem dX0_settle_55 : decode cX0_settle 55 = .ok (.ldiv, 1) := by decide +kernel
theorem rX0_settle_55 {R : zP} {x0 x1 x2 x3 x4 x5 x6 x7 x8 x9 x10 x11 : Option zV} {st : List zV} {M : zM} {a b : Int} : uX0_settle R 55 [x0, x1, x2, x3, x4, x5, x6, x7, x8, x9, x10, x11] (.inr (.inl b) :: .inr (.inl a) :: st) M ↔ ((zLR a ∧ zLR b ∧ b ≠ 0) ∧ uX0_settle R 56 [x0, x1, x2, x3, x4, x5, x6, x7, x8, x9, x10, x11] (.inr (.inl (a.tdiv b)) :: st) M) := zU_step dX0_settle_55 (Or.inl rfl)
theorem dX0_settle_56 : decode cX0_settle 56 = .ok (.putfield 7, 3) := by decide +kernel
theorem rX0_settle_56 {R : zP} {x0 x1 x2 x3 x4 x5 x6 x7 x8 x9 x10 x11 : Option zV} {st : List zV} {M : zM} {r : Nat} {v : zV} : uX0_settle R 56 [x0, x1, x2, x3, x4, x5, x6, x7, x8, x9, x10, x11] (v :: .inr (.inr r) :: st) M ↔ zputx fX0 7 r M v (fun M => uX0_settle R 59 [x0, x1, x2, x3, x4, x5, x6, x7, x8, x9, x10, x11] st M) := zU_step dX0_settle_56 (Or.inl rfl)
theorem dX0_settle_59 : decode cX0_settle 59 = .ok (.aload_n 0, 1) := by decide +kernel
theorem rX0_settle_59 {R : zP} {x1 x2 x3 x4 x5 x6 x7 x8 x9 x10 x11 : Option zV} {st : List zV} {M : zM} {a : Nat} : uX0_settle R 59 [some (.inr (.inr a)), x1, x2, x3, x4, x5, x6, x7, x8, x9, x10, x11] st M ↔ uX0_settle R 60 [some (.inr (.inr a)), x1, x2, x3, x4, x5, x6, x7, x8, x9, x10, x11] (.inr (.inr a) :: st) M := zU_step dX0_settle_59 (Or.inl rfl)
theorem dX0_settle_60 : decode cX0_settle 60 = .ok (.lload_n 3, 1) := by decide +kernel
theorem rX0_settle_60 {R : zP} {x0 x1 x2 x4 x5 x6 x7 x8 x9 x10 x11 : Option zV} {st : List zV} {M : zM} {a : Int} : uX0_settle R 60 [x0, x1, x2, some (.inr (.inl a)), x4, x5, x6, x7, x8, x9, x10, x11] st M ↔ uX0_settle R 61 [x0, x1, x2, some (.inr (.inl a)), x4, x5, x6, x7, x8, x9, x10, x11] (.inr (.inl a) :: st) M := zU_step dX0_settle_60 (Or.inl rfl)
theorem dX0_settle_61 : decode cX0_settle 61 = .ok (.lload 5, 2) := by decide +kernel
theorem rX0_settle_61 {R : zP} {x0 x1 x2 x3 x4 x6 x7 x8 x9 x10 x11 : Option zV} {st : List zV} {M : zM} {a : Int} : uX0_settle R 61 [x0, x1, x2, x3, x4, some (.inr (.inl a)), x6, x7, x8, x9, x10, x11] st M ↔ uX0_settle R 63 [x0, x1, x2, x3, x4, some (.inr (.inl a)), x6, x7, x8, x9, x10, x11] (.inr (.inl a) :: st) M := zU_step dX0_settle_61 (Or.inl rfl)
theorem dX0_settle_63 : decode cX0_settle 63 = .ok (.ldiv, 1) := by decide +kernel
theorem rX0_settle_63 {R : zP} {x0 x1 x2 x3 x4 x5 x6 x7 x8 x9 x10 x11 : Option zV} {st : List zV} {M : zM} {a b : Int} : uX0_settle R 63 [x0, x1, x2, x3, x4, x5, x6, x7, x8, x9, x10, x11] (.inr (.inl b) :: .inr (.inl a) :: st) M ↔ ((zLR a ∧ zLR b ∧ b ≠ 0) ∧ uX0_settle R 64 [x0, x1, x2, x3, x4, x5, x6, x7, x8, x9, x10, x11] (.inr (.inl (a.tdiv b)) :: st) M) := zU_step dX0_settle_63 (Or.inl rfl)
theorem dX0_settle_64 : decode cX0_settle 64 = .ok (.putfield 13, 3) := by decide +kernel
theorem rX0_settle_64 {R : zP} {x0 x1 x2 x3 x4 x5 x6 x7 x8 x9 x10 x11 : Option zV} {st : List zV} {M : zM} {r : Nat} {v : zV} : uX0_settle R 64 [x0, x1, x2, x3, x4, x5, x6, x7, x8, x9, x10, x11] (v :: .inr (.inr r) :: st) M ↔ zputx fX0 13 r M v (fun M => uX0_settle R 67 [x0, x1, x2, x3, x4, x5, x6, x7, x8, x9, x10, x11] st M) := zU_step dX0_settle_64 (Or.inl rfl)
theorem dX0_settle_67 : decode cX0_settle 67 = .ok (.return_, 1) := by decide +kernel
theorem rX0_settle_67 {R : zP} {x0 x1 x2 x3 x4 x5 x6 x7 x8 x9 x10 x11 : Option zV} {M : zM} : uX0_settle R 67 [x0, x1, x2, x3, x4, x5, x6, x7, x8, x9, x10, x11] [] M ↔ R none M := Iff.trans (zU_step dX0_settle_67 (Or.inl rfl)) ⟨fun h => h.2.2, fun h => ⟨rfl, rfl, h⟩⟩
theorem eX0_settle {R : zP} {M : zM} {a0 : Nat} {p0 : Int} {p1 : Int} : tX0_settle [.inr (.inr a0), .inr (.inl p0), .inr (.inl p1)] M R ↔ uX0_settle R 0 [some (.inr (.inr a0)), some (.inr (.inl p0)), none, some (.inr (.inl p1)), none, none, none, none, none, none, none, none] [] M := ⟨fun h => h.2, fun h => ⟨show 5 ≤ 12 by decide, h⟩⟩
def uX0_tell (R : zP) : zK := zU fX0 vX0_tell cX0_tell R
theorem dX0_tell_0 : decode cX0_tell 0 = .ok (.iload_n 1, 1) := by decide +kernel
theorem rX0_tell_0 {R : zP} {x0 : Option zV} {st : List zV} {M : zM} {a : Int} : uX0_tell R 0 [x0, some (.inl a)] st M ↔ uX0_tell R 1 [x0, some (.inl a)] (.inl a :: st) M := zU_step dX0_tell_0 (Or.inl rfl)
theorem dX0_tell_1 : decode cX0_tell 1 = .ok (.ifCond .ne 10, 3) := by decide +kernel
theorem rX0_tell_1 {R : zP} {x0 x1 : Option zV} {st : List zV} {M : zM} {a : Int} : uX0_tell R 1 [x0, x1] (.inl a :: st) M ↔ (zIR a ∧ if a ≠ 0 then uX0_tell R 11 [x0, x1] st M else uX0_tell R 4 [x0, x1] st M) := Iff.trans (zU_step dX0_tell_1 (Or.inl rfl)) ⟨fun h => ⟨h.1.1, (zite (c := a ≠ 0)).mpr h.2⟩, fun h => ⟨⟨h.1, by decide⟩, (zite (c := a ≠ 0)).mp h.2⟩⟩
theorem dX0_tell_4 : decode cX0_tell 4 = .ok (.aload_n 0, 1) := by decide +kernel
theorem rX0_tell_4 {R : zP} {x1 : Option zV} {st : List zV} {M : zM} {a : Nat} : uX0_tell R 4 [some (.inr (.inr a)), x1] st M ↔ uX0_tell R 5 [some (.inr (.inr a)), x1] (.inr (.inr a) :: st) M := zU_step dX0_tell_4 (Or.inl rfl)
theorem dX0_tell_5 : decode cX0_tell 5 = .ok (.getfield 7, 3) := by decide +kernel
theorem rX0_tell_5 {R : zP} {x0 x1 : Option zV} {st : List zV} {M : zM} {r : Nat} : uX0_tell R 5 [x0, x1] (.inr (.inr r) :: st) M ↔ zgetx fX0 7 r M (fun v => uX0_tell R 8 [x0, x1] (v :: st) M) := zU_step dX0_tell_5 (Or.inl rfl)
theorem dX0_tell_8 : decode cX0_tell 8 = .ok (.goto 7, 3) := by decide +kernel
theorem rX0_tell_8 {R : zP} {x0 x1 : Option zV} {st : List zV} {M : zM} : uX0_tell R 8 [x0, x1] st M ↔ uX0_tell R 15 [x0, x1] st M := Iff.trans (zU_step dX0_tell_8 (Or.inl rfl)) ⟨fun h => h.2, fun h => ⟨by decide, h⟩⟩
theorem dX0_tell_11 : decode cX0_tell 11 = .ok (.aload_n 0, 1) := by decide +kernel
theorem rX0_tell_11 {R : zP} {x1 : Option zV} {st : List zV} {M : zM} {a : Nat} : uX0_tell R 11 [some (.inr (.inr a)), x1] st M ↔ uX0_tell R 12 [some (.inr (.inr a)), x1] (.inr (.inr a) :: st) M := zU_step dX0_tell_11 (Or.inl rfl)
theorem dX0_tell_12 : decode cX0_tell 12 = .ok (.getfield 13, 3) := by decide +kernel
theorem rX0_tell_12 {R : zP} {x0 x1 : Option zV} {st : List zV} {M : zM} {r : Nat} : uX0_tell R 12 [x0, x1] (.inr (.inr r) :: st) M ↔ zgetx fX0 13 r M (fun v => uX0_tell R 15 [x0, x1] (v :: st) M) := zU_step dX0_tell_12 (Or.inl rfl)
theorem dX0_tell_15 : decode cX0_tell 15 = .ok (.lreturn, 1) := by decide +kernel
theorem rX0_tell_15 {R : zP} {x0 x1 : Option zV} {M : zM} {a : Int} : uX0_tell R 15 [x0, x1] [.inr (.inl a)] M ↔ R (some (.inr (.inl a))) M := Iff.trans (zU_step dX0_tell_15 (Or.inl rfl)) ⟨fun h => h.2.2, fun h => ⟨rfl, rfl, h⟩⟩
theorem eX0_tell {R : zP} {M : zM} {a0 : Nat} {p0 : Int} : tX0_tell [.inr (.inr a0), .inl p0] M R ↔ uX0_tell R 0 [some (.inr (.inr a0)), some (.inl p0)] [] M := ⟨fun h => h.2, fun h => ⟨show 2 ≤ 2 by decide, h⟩⟩
def uX1_isLost (R : zP) : zK := zU fX1 vX1_isLost cX1_isLost R
theorem dX1_isLost_0 : decode cX1_isLost 0 = .ok (.aload_n 0, 1) := by decide +kernel
theorem rX1_isLost_0 {R : zP} {st : List zV} {M : zM} {a : Nat} : uX1_isLost R 0 [some (.inr (.inr a))] st M ↔ uX1_isLost R 1 [some (.inr (.inr a))] (.inr (.inr a) :: st) M := zU_step dX1_isLost_0 (Or.inl rfl)
theorem dX1_isLost_1 : decode cX1_isLost 1 = .ok (.getfield 15, 3) := by decide +kernel
theorem rX1_isLost_1 {R : zP} {x0 : Option zV} {st : List zV} {M : zM} {r : Nat} : uX1_isLost R 1 [x0] (.inr (.inr r) :: st) M ↔ zgetx fX1 15 r M (fun v => uX1_isLost R 4 [x0] (v :: st) M) := zU_step dX1_isLost_1 (Or.inl rfl)
theorem dX1_isLost_4 : decode cX1_isLost 4 = .ok (.iconst (-1), 1) := by decide +kernel
theorem rX1_isLost_4 {R : zP} {x0 : Option zV} {st : List zV} {M : zM} : uX1_isLost R 4 [x0] st M ↔ uX1_isLost R 5 [x0] (.inl (-1) :: st) M := zU_step dX1_isLost_4 (Or.inl rfl)
theorem dX1_isLost_5 : decode cX1_isLost 5 = .ok (.if_icmp .ne 7, 3) := by decide +kernel
theorem rX1_isLost_5 {R : zP} {x0 : Option zV} {st : List zV} {M : zM} {a b : Int} : uX1_isLost R 5 [x0] (.inl b :: .inl a :: st) M ↔ ((zIR a ∧ zIR b) ∧ if a ≠ b then uX1_isLost R 12 [x0] st M else uX1_isLost R 8 [x0] st M) := Iff.trans (zU_step dX1_isLost_5 (Or.inl rfl)) ⟨fun h => ⟨⟨h.1.1, h.1.2.1⟩, (zite (c := a ≠ b)).mpr h.2⟩, fun h => ⟨⟨h.1.1, h.1.2, by decide⟩, (zite (c := a ≠ b)).mp h.2⟩⟩
theorem dX1_isLost_8 : decode cX1_isLost 8 = .ok (.iconst 1, 1) := by decide +kernel
theorem rX1_isLost_8 {R : zP} {x0 : Option zV} {st : List zV} {M : zM} : uX1_isLost R 8 [x0] st M ↔ uX1_isLost R 9 [x0] (.inl (1) :: st) M := zU_step dX1_isLost_8 (Or.inl rfl)
theorem dX1_isLost_9 : decode cX1_isLost 9 = .ok (.goto 4, 3) := by decide +kernel
theorem rX1_isLost_9 {R : zP} {x0 : Option zV} {st : List zV} {M : zM} : uX1_isLost R 9 [x0] st M ↔ uX1_isLost R 13 [x0] st M := Iff.trans (zU_step dX1_isLost_9 (Or.inl rfl)) ⟨fun h => h.2, fun h => ⟨by decide, h⟩⟩
theorem dX1_isLost_12 : decode cX1_isLost 12 = .ok (.iconst 0, 1) := by decide +kernel
theorem rX1_isLost_12 {R : zP} {x0 : Option zV} {st : List zV} {M : zM} : uX1_isLost R 12 [x0] st M ↔ uX1_isLost R 13 [x0] (.inl (0) :: st) M := zU_step dX1_isLost_12 (Or.inl rfl)
theorem dX1_isLost_13 : decode cX1_isLost 13 = .ok (.ireturn, 1) := by decide +kernel
theorem rX1_isLost_13 {R : zP} {x0 : Option zV} {M : zM} {a : Int} : uX1_isLost R 13 [x0] [.inl a] M ↔ ((a = 0 ∨ a = 1) ∧ R (some (.inl a)) M) := Iff.trans (zU_step dX1_isLost_13 (Or.inl rfl)) ⟨fun h => ⟨zret2 rfl h.2.1, h.2.2⟩, fun h => ⟨rfl, Or.inr (Or.inl ⟨rfl, h.1⟩), h.2⟩⟩
theorem eX1_isLost {R : zP} {M : zM} {a0 : Nat} : tX1_isLost [.inr (.inr a0)] M R ↔ uX1_isLost R 0 [some (.inr (.inr a0))] [] M := ⟨fun h => h.2, fun h => ⟨show 1 ≤ 1 by decide, h⟩⟩
def uX1_vanish (R : zP) : zK := zU fX1 vX1_vanish cX1_vanish R
theorem dX1_vanish_0 : decode cX1_vanish 0 = .ok (.aload_n 0, 1) := by decide +kernel
theorem rX1_vanish_0 {R : zP} {st : List zV} {M : zM} {a : Nat} : uX1_vanish R 0 [some (.inr (.inr a))] st M ↔ uX1_vanish R 1 [some (.inr (.inr a))] (.inr (.inr a) :: st) M := zU_step dX1_vanish_0 (Or.inl rfl)
theorem dX1_vanish_1 : decode cX1_vanish 1 = .ok (.iconst (-1), 1) := by decide +kernel
theorem rX1_vanish_1 {R : zP} {x0 : Option zV} {st : List zV} {M : zM} : uX1_vanish R 1 [x0] st M ↔ uX1_vanish R 2 [x0] (.inl (-1) :: st) M := zU_step dX1_vanish_1 (Or.inl rfl)
theorem dX1_vanish_2 : decode cX1_vanish 2 = .ok (.putfield 15, 3) := by decide +kernel
theorem rX1_vanish_2 {R : zP} {x0 : Option zV} {st : List zV} {M : zM} {r : Nat} {v : zV} : uX1_vanish R 2 [x0] (v :: .inr (.inr r) :: st) M ↔ zputx fX1 15 r M v (fun M => uX1_vanish R 5 [x0] st M) := zU_step dX1_vanish_2 (Or.inl rfl)
theorem dX1_vanish_5 : decode cX1_vanish 5 = .ok (.aload_n 0, 1) := by decide +kernel
theorem rX1_vanish_5 {R : zP} {st : List zV} {M : zM} {a : Nat} : uX1_vanish R 5 [some (.inr (.inr a))] st M ↔ uX1_vanish R 6 [some (.inr (.inr a))] (.inr (.inr a) :: st) M := zU_step dX1_vanish_5 (Or.inl rfl)
theorem dX1_vanish_6 : decode cX1_vanish 6 = .ok (.iconst 0, 1) := by decide +kernel
theorem rX1_vanish_6 {R : zP} {x0 : Option zV} {st : List zV} {M : zM} : uX1_vanish R 6 [x0] st M ↔ uX1_vanish R 7 [x0] (.inl (0) :: st) M := zU_step dX1_vanish_6 (Or.inl rfl)
theorem dX1_vanish_7 : decode cX1_vanish 7 = .ok (.putfield 19, 3) := by decide +kernel
theorem rX1_vanish_7 {R : zP} {x0 : Option zV} {st : List zV} {M : zM} {r : Nat} {v : zV} : uX1_vanish R 7 [x0] (v :: .inr (.inr r) :: st) M ↔ zputx fX1 19 r M v (fun M => uX1_vanish R 10 [x0] st M) := zU_step dX1_vanish_7 (Or.inl rfl)
theorem dX1_vanish_10 : decode cX1_vanish 10 = .ok (.return_, 1) := by decide +kernel
theorem rX1_vanish_10 {R : zP} {x0 : Option zV} {M : zM} : uX1_vanish R 10 [x0] [] M ↔ R none M := Iff.trans (zU_step dX1_vanish_10 (Or.inl rfl)) ⟨fun h => h.2.2, fun h => ⟨rfl, rfl, h⟩⟩
theorem eX1_vanish {R : zP} {M : zM} {a0 : Nat} : tX1_vanish [.inr (.inr a0)] M R ↔ uX1_vanish R 0 [some (.inr (.inr a0))] [] M := ⟨fun h => h.2, fun h => ⟨show 1 ≤ 1 by decide, h⟩⟩
def uJ7_fill_53178 (R : zP) : zK := zU fJ7 vJ7_fill_53178 cJ7_fill_53178 R
theorem dJ7_fill_53178_0 : decode cJ7_fill_53178 0 = .ok (.iconst 0, 1) := by decide +kernel
theorem rJ7_fill_53178_0 {R : zP} {x0 x1 x2 x3 : Option zV} {st : List zV} {M : zM} : uJ7_fill_53178 R 0 [x0, x1, x2, x3] st M ↔ uJ7_fill_53178 R 1 [x0, x1, x2, x3] (.inl (0) :: st) M := zU_step dJ7_fill_53178_0 (Or.inl rfl)
theorem dJ7_fill_53178_1 : decode cJ7_fill_53178 1 = .ok (.istore_n 2, 1) := by decide +kernel
theorem rJ7_fill_53178_1 {R : zP} {x0 x2 x3 : Option zV} {st : List zV} {M : zM} {a : Int} {y : Int} : uJ7_fill_53178 R 1 [x0, some (.inl y), x2, x3] (.inl a :: st) M ↔ uJ7_fill_53178 R 2 [x0, some (.inl y), some (.inl a), x3] st M := Iff.trans (zU_step dJ7_fill_53178_1 (Or.inl rfl)) ⟨fun h => h.2, fun h => ⟨show 2 < 4 by decide, h⟩⟩
theorem rJ7_fill_53178_1z {R : zP} {x0 x1 x2 x3 : Option zV} {st : List zV} {M : zM} {a : Int} : uJ7_fill_53178 R 1 [x0, x1, x2, x3] (.inl a :: st) M ↔ uJ7_fill_53178 R 2 [x0, zkeep x1, some (.inl a), x3] st M := Iff.trans (zU_step dJ7_fill_53178_1 (Or.inl rfl)) ⟨fun h => h.2, fun h => ⟨show 2 < 4 by decide, h⟩⟩
theorem dJ7_fill_53178_2 : decode cJ7_fill_53178 2 = .ok (.aload_n 0, 1) := by decide +kernel
theorem rJ7_fill_53178_2 {R : zP} {x1 x2 x3 : Option zV} {st : List zV} {M : zM} {a : Nat} : uJ7_fill_53178 R 2 [some (.inr (.inr a)), x1, x2, x3] st M ↔ uJ7_fill_53178 R 3 [some (.inr (.inr a)), x1, x2, x3] (.inr (.inr a) :: st) M := zU_step dJ7_fill_53178_2 (Or.inl rfl)
theorem dJ7_fill_53178_3 : decode cJ7_fill_53178 3 = .ok (.arraylength, 1) := by decide +kernel
theorem rJ7_fill_53178_3 {R : zP} {x0 x1 x2 x3 : Option zV} {st : List zV} {M : zM} {r : Nat} : uJ7_fill_53178 R 3 [x0, x1, x2, x3] (.inr (.inr r) :: st) M ↔ zlenof fJ7 r (fun v => uJ7_fill_53178 R 4 [x0, x1, x2, x3] (.inl v :: st) M) := zU_step dJ7_fill_53178_3 (Or.inl rfl)
theorem dJ7_fill_53178_4 : decode cJ7_fill_53178 4 = .ok (.istore_n 3, 1) := by decide +kernel
theorem rJ7_fill_53178_4 {R : zP} {x0 x1 x3 : Option zV} {st : List zV} {M : zM} {a : Int} {y : Int} : uJ7_fill_53178 R 4 [x0, x1, some (.inl y), x3] (.inl a :: st) M ↔ uJ7_fill_53178 R 5 [x0, x1, some (.inl y), some (.inl a)] st M := Iff.trans (zU_step dJ7_fill_53178_4 (Or.inl rfl)) ⟨fun h => h.2, fun h => ⟨show 3 < 4 by decide, h⟩⟩
theorem rJ7_fill_53178_4z {R : zP} {x0 x1 x2 x3 : Option zV} {st : List zV} {M : zM} {a : Int} : uJ7_fill_53178 R 4 [x0, x1, x2, x3] (.inl a :: st) M ↔ uJ7_fill_53178 R 5 [x0, x1, zkeep x2, some (.inl a)] st M := Iff.trans (zU_step dJ7_fill_53178_4 (Or.inl rfl)) ⟨fun h => h.2, fun h => ⟨show 3 < 4 by decide, h⟩⟩
theorem dJ7_fill_53178_5 : decode cJ7_fill_53178 5 = .ok (.iload_n 2, 1) := by decide +kernel
theorem rJ7_fill_53178_5 {R : zP} {x0 x1 x3 : Option zV} {st : List zV} {M : zM} {a : Int} : uJ7_fill_53178 R 5 [x0, x1, some (.inl a), x3] st M ↔ uJ7_fill_53178 R 6 [x0, x1, some (.inl a), x3] (.inl a :: st) M := zU_step dJ7_fill_53178_5 (Or.inl rfl)
theorem dJ7_fill_53178_6 : decode cJ7_fill_53178 6 = .ok (.iload_n 3, 1) := by decide +kernel
theorem rJ7_fill_53178_6 {R : zP} {x0 x1 x2 : Option zV} {st : List zV} {M : zM} {a : Int} : uJ7_fill_53178 R 6 [x0, x1, x2, some (.inl a)] st M ↔ uJ7_fill_53178 R 7 [x0, x1, x2, some (.inl a)] (.inl a :: st) M := zU_step dJ7_fill_53178_6 (Or.inl rfl)
theorem dJ7_fill_53178_7 : decode cJ7_fill_53178 7 = .ok (.if_icmp .ge 13, 3) := by decide +kernel
theorem rJ7_fill_53178_7 {R : zP} {x0 x1 x2 x3 : Option zV} {st : List zV} {M : zM} {a b : Int} : uJ7_fill_53178 R 7 [x0, x1, x2, x3] (.inl b :: .inl a :: st) M ↔ ((zIR a ∧ zIR b) ∧ if b ≤ a then uJ7_fill_53178 R 20 [x0, x1, x2, x3] st M else uJ7_fill_53178 R 10 [x0, x1, x2, x3] st M) := Iff.trans (zU_step dJ7_fill_53178_7 (Or.inl rfl)) ⟨fun h => ⟨⟨h.1.1, h.1.2.1⟩, (zite (c := b ≤ a)).mpr h.2⟩, fun h => ⟨⟨h.1.1, h.1.2, by decide⟩, (zite (c := b ≤ a)).mp h.2⟩⟩
theorem dJ7_fill_53178_10 : decode cJ7_fill_53178 10 = .ok (.aload_n 0, 1) := by decide +kernel
theorem rJ7_fill_53178_10 {R : zP} {x1 x2 x3 : Option zV} {st : List zV} {M : zM} {a : Nat} : uJ7_fill_53178 R 10 [some (.inr (.inr a)), x1, x2, x3] st M ↔ uJ7_fill_53178 R 11 [some (.inr (.inr a)), x1, x2, x3] (.inr (.inr a) :: st) M := zU_step dJ7_fill_53178_10 (Or.inl rfl)
theorem dJ7_fill_53178_11 : decode cJ7_fill_53178 11 = .ok (.iload_n 2, 1) := by decide +kernel
theorem rJ7_fill_53178_11 {R : zP} {x0 x1 x3 : Option zV} {st : List zV} {M : zM} {a : Int} : uJ7_fill_53178 R 11 [x0, x1, some (.inl a), x3] st M ↔ uJ7_fill_53178 R 12 [x0, x1, some (.inl a), x3] (.inl a :: st) M := zU_step dJ7_fill_53178_11 (Or.inl rfl)
theorem dJ7_fill_53178_12 : decode cJ7_fill_53178 12 = .ok (.iload_n 1, 1) := by decide +kernel
theorem rJ7_fill_53178_12 {R : zP} {x0 x2 x3 : Option zV} {st : List zV} {M : zM} {a : Int} : uJ7_fill_53178 R 12 [x0, some (.inl a), x2, x3] st M ↔ uJ7_fill_53178 R 13 [x0, some (.inl a), x2, x3] (.inl a :: st) M := zU_step dJ7_fill_53178_12 (Or.inl rfl)
theorem dJ7_fill_53178_13 : decode cJ7_fill_53178 13 = .ok (.iastore, 1) := by decide +kernel
theorem rJ7_fill_53178_13 {R : zP} {x0 x1 x2 x3 : Option zV} {st : List zV} {M : zM} {i v : Int} {r : Nat} : uJ7_fill_53178 R 13 [x0, x1, x2, x3] (.inl v :: .inl i :: .inr (.inr r) :: st) M ↔ zwrite 0 r i (uJ7_fill_53178 R 14 [x0, x1, x2, x3] st (zup M r i v)) := zU_step dJ7_fill_53178_13 (Or.inl rfl)
theorem dJ7_fill_53178_14 : decode cJ7_fill_53178 14 = .ok (.iinc 2 1, 3) := by decide +kernel
theorem rJ7_fill_53178_14 {R : zP} {x0 x3 : Option zV} {st : List zV} {M : zM} {a : Int} {y : Int} : uJ7_fill_53178 R 14 [x0, some (.inl y), some (.inl a), x3] st M ↔ uJ7_fill_53178 R 17 [x0, some (.inl y), some (.inl (a + (1))), x3] st M := Iff.trans (zU_step dJ7_fill_53178_14 (Or.inl rfl)) ⟨fun h => h.2, fun h => ⟨show 2 < 4 by decide, h⟩⟩
theorem rJ7_fill_53178_14z {R : zP} {x0 x1 x3 : Option zV} {st : List zV} {M : zM} {a : Int} : uJ7_fill_53178 R 14 [x0, x1, some (.inl a), x3] st M ↔ uJ7_fill_53178 R 17 [x0, zkeep x1, some (.inl (a + (1))), x3] st M := Iff.trans (zU_step dJ7_fill_53178_14 (Or.inl rfl)) ⟨fun h => h.2, fun h => ⟨show 2 < 4 by decide, h⟩⟩
theorem dJ7_fill_53178_17 : decode cJ7_fill_53178 17 = .ok (.goto (-12), 3) := by decide +kernel
theorem rJ7_fill_53178_17 {R : zP} {x0 x1 x2 x3 : Option zV} {st : List zV} {M : zM} : uJ7_fill_53178 R 17 [x0, x1, x2, x3] st M ↔ uJ7_fill_53178 R 5 [x0, x1, x2, x3] st M := Iff.trans (zU_step dJ7_fill_53178_17 (Or.inl rfl)) ⟨fun h => h.2, fun h => ⟨by decide, h⟩⟩
theorem dJ7_fill_53178_20 : decode cJ7_fill_53178 20 = .ok (.return_, 1) := by decide +kernel
theorem rJ7_fill_53178_20 {R : zP} {x0 x1 x2 x3 : Option zV} {M : zM} : uJ7_fill_53178 R 20 [x0, x1, x2, x3] [] M ↔ R none M := Iff.trans (zU_step dJ7_fill_53178_20 (Or.inl rfl)) ⟨fun h => h.2.2, fun h => ⟨rfl, rfl, h⟩⟩
theorem eJ7_fill_53178 {R : zP} {M : zM} {p0 : Nat} {p1 : Int} : tJ7_fill_53178 [.inr (.inr p0), .inl p1] M R ↔ uJ7_fill_53178 R 0 [some (.inr (.inr p0)), some (.inl p1), none, none] [] M := ⟨fun h => h.2, fun h => ⟨show 2 ≤ 4 by decide, h⟩⟩
def uX1_begin (R : zP) : zK := zU fX1 vX1_begin cX1_begin R
theorem dX1_begin_0 : decode cX1_begin 0 = .ok (.aload_n 0, 1) := by decide +kernel
theorem rX1_begin_0 {R : zP} {x1 x2 : Option zV} {st : List zV} {M : zM} {a : Nat} : uX1_begin R 0 [some (.inr (.inr a)), x1, x2] st M ↔ uX1_begin R 1 [some (.inr (.inr a)), x1, x2] (.inr (.inr a) :: st) M := zU_step dX1_begin_0 (Or.inl rfl)
theorem dX1_begin_1 : decode cX1_begin 1 = .ok (.iload_n 1, 1) := by decide +kernel
theorem rX1_begin_1 {R : zP} {x0 x2 : Option zV} {st : List zV} {M : zM} {a : Int} : uX1_begin R 1 [x0, some (.inl a), x2] st M ↔ uX1_begin R 2 [x0, some (.inl a), x2] (.inl a :: st) M := zU_step dX1_begin_1 (Or.inl rfl)
theorem dX1_begin_2 : decode cX1_begin 2 = .ok (.putfield 15, 3) := by decide +kernel
theorem rX1_begin_2 {R : zP} {x0 x1 x2 : Option zV} {st : List zV} {M : zM} {r : Nat} {v : zV} : uX1_begin R 2 [x0, x1, x2] (v :: .inr (.inr r) :: st) M ↔ zputx fX1 15 r M v (fun M => uX1_begin R 5 [x0, x1, x2] st M) := zU_step dX1_begin_2 (Or.inl rfl)
theorem dX1_begin_5 : decode cX1_begin 5 = .ok (.aload_n 0, 1) := by decide +kernel
theorem rX1_begin_5 {R : zP} {x1 x2 : Option zV} {st : List zV} {M : zM} {a : Nat} : uX1_begin R 5 [some (.inr (.inr a)), x1, x2] st M ↔ uX1_begin R 6 [some (.inr (.inr a)), x1, x2] (.inr (.inr a) :: st) M := zU_step dX1_begin_5 (Or.inl rfl)
theorem dX1_begin_6 : decode cX1_begin 6 = .ok (.iload_n 2, 1) := by decide +kernel
theorem rX1_begin_6 {R : zP} {x0 x1 : Option zV} {st : List zV} {M : zM} {a : Int} : uX1_begin R 6 [x0, x1, some (.inl a)] st M ↔ uX1_begin R 7 [x0, x1, some (.inl a)] (.inl a :: st) M := zU_step dX1_begin_6 (Or.inl rfl)
theorem dX1_begin_7 : decode cX1_begin 7 = .ok (.putfield 19, 3) := by decide +kernel
theorem rX1_begin_7 {R : zP} {x0 x1 x2 : Option zV} {st : List zV} {M : zM} {r : Nat} {v : zV} : uX1_begin R 7 [x0, x1, x2] (v :: .inr (.inr r) :: st) M ↔ zputx fX1 19 r M v (fun M => uX1_begin R 10 [x0, x1, x2] st M) := zU_step dX1_begin_7 (Or.inl rfl)
theorem dX1_begin_10 : decode cX1_begin 10 = .ok (.aload_n 0, 1) := by decide +kernel
theorem rX1_begin_10 {R : zP} {x1 x2 : Option zV} {st : List zV} {M : zM} {a : Nat} : uX1_begin R 10 [some (.inr (.inr a)), x1, x2] st M ↔ uX1_begin R 11 [some (.inr (.inr a)), x1, x2] (.inr (.inr a) :: st) M := zU_step dX1_begin_10 (Or.inl rfl)
theorem dX1_begin_11 : decode cX1_begin 11 = .ok (.getfield 9, 3) := by decide +kernel
theorem rX1_begin_11 {R : zP} {x0 x1 x2 : Option zV} {st : List zV} {M : zM} {r : Nat} : uX1_begin R 11 [x0, x1, x2] (.inr (.inr r) :: st) M ↔ zgetx fX1 9 r M (fun v => uX1_begin R 14 [x0, x1, x2] (v :: st) M) := zU_step dX1_begin_11 (Or.inl rfl)
theorem dX1_begin_14 : decode cX1_begin 14 = .ok (.iconst 0, 1) := by decide +kernel
theorem rX1_begin_14 {R : zP} {x0 x1 x2 : Option zV} {st : List zV} {M : zM} : uX1_begin R 14 [x0, x1, x2] st M ↔ uX1_begin R 15 [x0, x1, x2] (.inl (0) :: st) M := zU_step dX1_begin_14 (Or.inl rfl)
theorem dX1_begin_15 : decode cX1_begin 15 = .ok (.invokestatic 22, 3) := by decide +kernel
theorem rX1_begin_15 {R : zP} {x0 x1 x2 : Option zV} {st : List zV} {M : zM} {a0 a1 : zV} : uX1_begin R 15 [x0, x1, x2] (a1 :: a0 :: st) M ↔ (st.length ≤ 4 ∧ zcn tJ7_fill_53178 [a0, a1] M (fun M => uX1_begin R 18 [x0, x1, x2] st M)) := Iff.trans (zU_step dX1_begin_15 (Or.inl rfl)) ⟨fun h => ⟨h.2.1, zcn_of h.2.2⟩, fun h => ⟨rfl, h.1, zcn_to h.2⟩⟩
theorem dX1_begin_18 : decode cX1_begin 18 = .ok (.return_, 1) := by decide +kernel
theorem rX1_begin_18 {R : zP} {x0 x1 x2 : Option zV} {M : zM} : uX1_begin R 18 [x0, x1, x2] [] M ↔ R none M := Iff.trans (zU_step dX1_begin_18 (Or.inl rfl)) ⟨fun h => h.2.2, fun h => ⟨rfl, rfl, h⟩⟩
theorem eX1_begin {R : zP} {M : zM} {a0 : Nat} {p0 : Int} {p1 : Int} : tX1_begin [.inr (.inr a0), .inl p0, .inl p1] M R ↔ uX1_begin R 0 [some (.inr (.inr a0)), some (.inl p0), some (.inl p1)] [] M := ⟨fun h => h.2, fun h => ⟨show 3 ≤ 3 by decide, h⟩⟩
def uX1_store (R : zP) : zK := zU fX1 vX1_store cX1_store R
theorem dX1_store_0 : decode cX1_store 0 = .ok (.aload_n 0, 1) := by decide +kernel
theorem rX1_store_0 {R : zP} {x1 x2 : Option zV} {st : List zV} {M : zM} {a : Nat} : uX1_store R 0 [some (.inr (.inr a)), x1, x2] st M ↔ uX1_store R 1 [some (.inr (.inr a)), x1, x2] (.inr (.inr a) :: st) M := zU_step dX1_store_0 (Or.inl rfl)
theorem dX1_store_1 : decode cX1_store 1 = .ok (.getfield 9, 3) := by decide +kernel
theorem rX1_store_1 {R : zP} {x0 x1 x2 : Option zV} {st : List zV} {M : zM} {r : Nat} : uX1_store R 1 [x0, x1, x2] (.inr (.inr r) :: st) M ↔ zgetx fX1 9 r M (fun v => uX1_store R 4 [x0, x1, x2] (v :: st) M) := zU_step dX1_store_1 (Or.inl rfl)
theorem dX1_store_4 : decode cX1_store 4 = .ok (.iload_n 1, 1) := by decide +kernel
theorem rX1_store_4 {R : zP} {x0 x2 : Option zV} {st : List zV} {M : zM} {a : Int} : uX1_store R 4 [x0, some (.inl a), x2] st M ↔ uX1_store R 5 [x0, some (.inl a), x2] (.inl a :: st) M := zU_step dX1_store_4 (Or.inl rfl)
theorem dX1_store_5 : decode cX1_store 5 = .ok (.aload_n 0, 1) := by decide +kernel
theorem rX1_store_5 {R : zP} {x1 x2 : Option zV} {st : List zV} {M : zM} {a : Nat} : uX1_store R 5 [some (.inr (.inr a)), x1, x2] st M ↔ uX1_store R 6 [some (.inr (.inr a)), x1, x2] (.inr (.inr a) :: st) M := zU_step dX1_store_5 (Or.inl rfl)
theorem dX1_store_6 : decode cX1_store 6 = .ok (.getfield 15, 3) := by decide +kernel
theorem rX1_store_6 {R : zP} {x0 x1 x2 : Option zV} {st : List zV} {M : zM} {r : Nat} : uX1_store R 6 [x0, x1, x2] (.inr (.inr r) :: st) M ↔ zgetx fX1 15 r M (fun v => uX1_store R 9 [x0, x1, x2] (v :: st) M) := zU_step dX1_store_6 (Or.inl rfl)
theorem dX1_store_9 : decode cX1_store 9 = .ok (.ifCond .ne 8, 3) := by decide +kernel
theorem rX1_store_9 {R : zP} {x0 x1 x2 : Option zV} {st : List zV} {M : zM} {a : Int} : uX1_store R 9 [x0, x1, x2] (.inl a :: st) M ↔ (zIR a ∧ if a ≠ 0 then uX1_store R 17 [x0, x1, x2] st M else uX1_store R 12 [x0, x1, x2] st M) := Iff.trans (zU_step dX1_store_9 (Or.inl rfl)) ⟨fun h => ⟨h.1.1, (zite (c := a ≠ 0)).mpr h.2⟩, fun h => ⟨⟨h.1, by decide⟩, (zite (c := a ≠ 0)).mp h.2⟩⟩
theorem dX1_store_12 : decode cX1_store 12 = .ok (.iload_n 2, 1) := by decide +kernel
theorem rX1_store_12 {R : zP} {x0 x1 : Option zV} {st : List zV} {M : zM} {a : Int} : uX1_store R 12 [x0, x1, some (.inl a)] st M ↔ uX1_store R 13 [x0, x1, some (.inl a)] (.inl a :: st) M := zU_step dX1_store_12 (Or.inl rfl)
theorem dX1_store_13 : decode cX1_store 13 = .ok (.i2b, 1) := by decide +kernel
theorem rX1_store_13 {R : zP} {x0 x1 x2 : Option zV} {st : List zV} {M : zM} {a : Int} : uX1_store R 13 [x0, x1, x2] (.inl a :: st) M ↔ uX1_store R 14 [x0, x1, x2] (.inl (zi2b a) :: st) M := zU_step dX1_store_13 (Or.inl rfl)
theorem dX1_store_14 : decode cX1_store 14 = .ok (.goto 17, 3) := by decide +kernel
theorem rX1_store_14 {R : zP} {x0 x1 x2 : Option zV} {st : List zV} {M : zM} : uX1_store R 14 [x0, x1, x2] st M ↔ uX1_store R 31 [x0, x1, x2] st M := Iff.trans (zU_step dX1_store_14 (Or.inl rfl)) ⟨fun h => h.2, fun h => ⟨by decide, h⟩⟩
theorem dX1_store_17 : decode cX1_store 17 = .ok (.aload_n 0, 1) := by decide +kernel
theorem rX1_store_17 {R : zP} {x1 x2 : Option zV} {st : List zV} {M : zM} {a : Nat} : uX1_store R 17 [some (.inr (.inr a)), x1, x2] st M ↔ uX1_store R 18 [some (.inr (.inr a)), x1, x2] (.inr (.inr a) :: st) M := zU_step dX1_store_17 (Or.inl rfl)
theorem dX1_store_18 : decode cX1_store 18 = .ok (.getfield 15, 3) := by decide +kernel
theorem rX1_store_18 {R : zP} {x0 x1 x2 : Option zV} {st : List zV} {M : zM} {r : Nat} : uX1_store R 18 [x0, x1, x2] (.inr (.inr r) :: st) M ↔ zgetx fX1 15 r M (fun v => uX1_store R 21 [x0, x1, x2] (v :: st) M) := zU_step dX1_store_18 (Or.inl rfl)
theorem dX1_store_21 : decode cX1_store 21 = .ok (.iconst 1, 1) := by decide +kernel
theorem rX1_store_21 {R : zP} {x0 x1 x2 : Option zV} {st : List zV} {M : zM} : uX1_store R 21 [x0, x1, x2] st M ↔ uX1_store R 22 [x0, x1, x2] (.inl (1) :: st) M := zU_step dX1_store_21 (Or.inl rfl)
theorem dX1_store_22 : decode cX1_store 22 = .ok (.if_icmp .ne 8, 3) := by decide +kernel
theorem rX1_store_22 {R : zP} {x0 x1 x2 : Option zV} {st : List zV} {M : zM} {a b : Int} : uX1_store R 22 [x0, x1, x2] (.inl b :: .inl a :: st) M ↔ ((zIR a ∧ zIR b) ∧ if a ≠ b then uX1_store R 30 [x0, x1, x2] st M else uX1_store R 25 [x0, x1, x2] st M) := Iff.trans (zU_step dX1_store_22 (Or.inl rfl)) ⟨fun h => ⟨⟨h.1.1, h.1.2.1⟩, (zite (c := a ≠ b)).mpr h.2⟩, fun h => ⟨⟨h.1.1, h.1.2, by decide⟩, (zite (c := a ≠ b)).mp h.2⟩⟩
theorem dX1_store_25 : decode cX1_store 25 = .ok (.iload_n 2, 1) := by decide +kernel
theorem rX1_store_25 {R : zP} {x0 x1 : Option zV} {st : List zV} {M : zM} {a : Int} : uX1_store R 25 [x0, x1, some (.inl a)] st M ↔ uX1_store R 26 [x0, x1, some (.inl a)] (.inl a :: st) M := zU_step dX1_store_25 (Or.inl rfl)
theorem dX1_store_26 : decode cX1_store 26 = .ok (.i2s, 1) := by decide +kernel
theorem rX1_store_26 {R : zP} {x0 x1 x2 : Option zV} {st : List zV} {M : zM} {a : Int} : uX1_store R 26 [x0, x1, x2] (.inl a :: st) M ↔ uX1_store R 27 [x0, x1, x2] (.inl (zi2s a) :: st) M := zU_step dX1_store_26 (Or.inl rfl)
theorem dX1_store_27 : decode cX1_store 27 = .ok (.goto 4, 3) := by decide +kernel
theorem rX1_store_27 {R : zP} {x0 x1 x2 : Option zV} {st : List zV} {M : zM} : uX1_store R 27 [x0, x1, x2] st M ↔ uX1_store R 31 [x0, x1, x2] st M := Iff.trans (zU_step dX1_store_27 (Or.inl rfl)) ⟨fun h => h.2, fun h => ⟨by decide, h⟩⟩
theorem dX1_store_30 : decode cX1_store 30 = .ok (.iload_n 2, 1) := by decide +kernel
theorem rX1_store_30 {R : zP} {x0 x1 : Option zV} {st : List zV} {M : zM} {a : Int} : uX1_store R 30 [x0, x1, some (.inl a)] st M ↔ uX1_store R 31 [x0, x1, some (.inl a)] (.inl a :: st) M := zU_step dX1_store_30 (Or.inl rfl)
theorem dX1_store_31 : decode cX1_store 31 = .ok (.iastore, 1) := by decide +kernel
theorem rX1_store_31 {R : zP} {x0 x1 x2 : Option zV} {st : List zV} {M : zM} {i v : Int} {r : Nat} : uX1_store R 31 [x0, x1, x2] (.inl v :: .inl i :: .inr (.inr r) :: st) M ↔ zwrite 0 r i (uX1_store R 32 [x0, x1, x2] st (zup M r i v)) := zU_step dX1_store_31 (Or.inl rfl)
theorem dX1_store_32 : decode cX1_store 32 = .ok (.return_, 1) := by decide +kernel
theorem rX1_store_32 {R : zP} {x0 x1 x2 : Option zV} {M : zM} : uX1_store R 32 [x0, x1, x2] [] M ↔ R none M := Iff.trans (zU_step dX1_store_32 (Or.inl rfl)) ⟨fun h => h.2.2, fun h => ⟨rfl, rfl, h⟩⟩
theorem eX1_store {R : zP} {M : zM} {a0 : Nat} {p0 : Int} {p1 : Int} : tX1_store [.inr (.inr a0), .inl p0, .inl p1] M R ↔ uX1_store R 0 [some (.inr (.inr a0)), some (.inl p0), some (.inl p1)] [] M := ⟨fun h => h.2, fun h => ⟨show 3 ≤ 3 by decide, h⟩⟩
def uX1_hasRun (R : zP) : zK := zU fX1 vX1_hasRun cX1_hasRun R
theorem dX1_hasRun_0 : decode cX1_hasRun 0 = .ok (.iload_n 1, 1) := by decide +kernel
theorem rX1_hasRun_0 {R : zP} {x0 x2 : Option zV} {st : List zV} {M : zM} {a : Int} : uX1_hasRun R 0 [x0, some (.inl a), x2] st M ↔ uX1_hasRun R 1 [x0, some (.inl a), x2] (.inl a :: st) M := zU_step dX1_hasRun_0 (Or.inl rfl)
theorem dX1_hasRun_1 : decode cX1_hasRun 1 = .ok (.ifCond .lt 29, 3) := by decide +kernel
theorem rX1_hasRun_1 {R : zP} {x0 x1 x2 : Option zV} {st : List zV} {M : zM} {a : Int} : uX1_hasRun R 1 [x0, x1, x2] (.inl a :: st) M ↔ (zIR a ∧ if a < 0 then uX1_hasRun R 30 [x0, x1, x2] st M else uX1_hasRun R 4 [x0, x1, x2] st M) := Iff.trans (zU_step dX1_hasRun_1 (Or.inl rfl)) ⟨fun h => ⟨h.1.1, (zite (c := a < 0)).mpr h.2⟩, fun h => ⟨⟨h.1, by decide⟩, (zite (c := a < 0)).mp h.2⟩⟩
theorem dX1_hasRun_4 : decode cX1_hasRun 4 = .ok (.iload_n 2, 1) := by decide +kernel
theorem rX1_hasRun_4 {R : zP} {x0 x1 : Option zV} {st : List zV} {M : zM} {a : Int} : uX1_hasRun R 4 [x0, x1, some (.inl a)] st M ↔ uX1_hasRun R 5 [x0, x1, some (.inl a)] (.inl a :: st) M := zU_step dX1_hasRun_4 (Or.inl rfl)
theorem dX1_hasRun_5 : decode cX1_hasRun 5 = .ok (.ifCond .lt 25, 3) := by decide +kernel
theorem rX1_hasRun_5 {R : zP} {x0 x1 x2 : Option zV} {st : List zV} {M : zM} {a : Int} : uX1_hasRun R 5 [x0, x1, x2] (.inl a :: st) M ↔ (zIR a ∧ if a < 0 then uX1_hasRun R 30 [x0, x1, x2] st M else uX1_hasRun R 8 [x0, x1, x2] st M) := Iff.trans (zU_step dX1_hasRun_5 (Or.inl rfl)) ⟨fun h => ⟨h.1.1, (zite (c := a < 0)).mpr h.2⟩, fun h => ⟨⟨h.1, by decide⟩, (zite (c := a < 0)).mp h.2⟩⟩
theorem dX1_hasRun_8 : decode cX1_hasRun 8 = .ok (.iload_n 1, 1) := by decide +kernel
theorem rX1_hasRun_8 {R : zP} {x0 x2 : Option zV} {st : List zV} {M : zM} {a : Int} : uX1_hasRun R 8 [x0, some (.inl a), x2] st M ↔ uX1_hasRun R 9 [x0, some (.inl a), x2] (.inl a :: st) M := zU_step dX1_hasRun_8 (Or.inl rfl)
theorem dX1_hasRun_9 : decode cX1_hasRun 9 = .ok (.aload_n 0, 1) := by decide +kernel
theorem rX1_hasRun_9 {R : zP} {x1 x2 : Option zV} {st : List zV} {M : zM} {a : Nat} : uX1_hasRun R 9 [some (.inr (.inr a)), x1, x2] st M ↔ uX1_hasRun R 10 [some (.inr (.inr a)), x1, x2] (.inr (.inr a) :: st) M := zU_step dX1_hasRun_9 (Or.inl rfl)
theorem dX1_hasRun_10 : decode cX1_hasRun 10 = .ok (.getfield 19, 3) := by decide +kernel
theorem rX1_hasRun_10 {R : zP} {x0 x1 x2 : Option zV} {st : List zV} {M : zM} {r : Nat} : uX1_hasRun R 10 [x0, x1, x2] (.inr (.inr r) :: st) M ↔ zgetx fX1 19 r M (fun v => uX1_hasRun R 13 [x0, x1, x2] (v :: st) M) := zU_step dX1_hasRun_10 (Or.inl rfl)
theorem dX1_hasRun_13 : decode cX1_hasRun 13 = .ok (.if_icmp .gt 17, 3) := by decide +kernel
theorem rX1_hasRun_13 {R : zP} {x0 x1 x2 : Option zV} {st : List zV} {M : zM} {a b : Int} : uX1_hasRun R 13 [x0, x1, x2] (.inl b :: .inl a :: st) M ↔ ((zIR a ∧ zIR b) ∧ if b < a then uX1_hasRun R 30 [x0, x1, x2] st M else uX1_hasRun R 16 [x0, x1, x2] st M) := Iff.trans (zU_step dX1_hasRun_13 (Or.inl rfl)) ⟨fun h => ⟨⟨h.1.1, h.1.2.1⟩, (zite (c := b < a)).mpr h.2⟩, fun h => ⟨⟨h.1.1, h.1.2, by decide⟩, (zite (c := b < a)).mp h.2⟩⟩
theorem dX1_hasRun_16 : decode cX1_hasRun 16 = .ok (.iload_n 2, 1) := by decide +kernel
theorem rX1_hasRun_16 {R : zP} {x0 x1 : Option zV} {st : List zV} {M : zM} {a : Int} : uX1_hasRun R 16 [x0, x1, some (.inl a)] st M ↔ uX1_hasRun R 17 [x0, x1, some (.inl a)] (.inl a :: st) M := zU_step dX1_hasRun_16 (Or.inl rfl)
theorem dX1_hasRun_17 : decode cX1_hasRun 17 = .ok (.aload_n 0, 1) := by decide +kernel
theorem rX1_hasRun_17 {R : zP} {x1 x2 : Option zV} {st : List zV} {M : zM} {a : Nat} : uX1_hasRun R 17 [some (.inr (.inr a)), x1, x2] st M ↔ uX1_hasRun R 18 [some (.inr (.inr a)), x1, x2] (.inr (.inr a) :: st) M := zU_step dX1_hasRun_17 (Or.inl rfl)
theorem dX1_hasRun_18 : decode cX1_hasRun 18 = .ok (.getfield 19, 3) := by decide +kernel
theorem rX1_hasRun_18 {R : zP} {x0 x1 x2 : Option zV} {st : List zV} {M : zM} {r : Nat} : uX1_hasRun R 18 [x0, x1, x2] (.inr (.inr r) :: st) M ↔ zgetx fX1 19 r M (fun v => uX1_hasRun R 21 [x0, x1, x2] (v :: st) M) := zU_step dX1_hasRun_18 (Or.inl rfl)
theorem dX1_hasRun_21 : decode cX1_hasRun 21 = .ok (.iload_n 1, 1) := by decide +kernel
theorem rX1_hasRun_21 {R : zP} {x0 x2 : Option zV} {st : List zV} {M : zM} {a : Int} : uX1_hasRun R 21 [x0, some (.inl a), x2] st M ↔ uX1_hasRun R 22 [x0, some (.inl a), x2] (.inl a :: st) M := zU_step dX1_hasRun_21 (Or.inl rfl)
theorem dX1_hasRun_22 : decode cX1_hasRun 22 = .ok (.isub, 1) := by decide +kernel
theorem rX1_hasRun_22 {R : zP} {x0 x1 x2 : Option zV} {st : List zV} {M : zM} {a b : Int} : uX1_hasRun R 22 [x0, x1, x2] (.inl b :: .inl a :: st) M ↔ uX1_hasRun R 23 [x0, x1, x2] (.inl (a - b) :: st) M := zU_step dX1_hasRun_22 (Or.inl rfl)
theorem dX1_hasRun_23 : decode cX1_hasRun 23 = .ok (.if_icmp .gt 7, 3) := by decide +kernel
theorem rX1_hasRun_23 {R : zP} {x0 x1 x2 : Option zV} {st : List zV} {M : zM} {a b : Int} : uX1_hasRun R 23 [x0, x1, x2] (.inl b :: .inl a :: st) M ↔ ((zIR a ∧ zIR b) ∧ if b < a then uX1_hasRun R 30 [x0, x1, x2] st M else uX1_hasRun R 26 [x0, x1, x2] st M) := Iff.trans (zU_step dX1_hasRun_23 (Or.inl rfl)) ⟨fun h => ⟨⟨h.1.1, h.1.2.1⟩, (zite (c := b < a)).mpr h.2⟩, fun h => ⟨⟨h.1.1, h.1.2, by decide⟩, (zite (c := b < a)).mp h.2⟩⟩
theorem dX1_hasRun_26 : decode cX1_hasRun 26 = .ok (.iconst 1, 1) := by decide +kernel
theorem rX1_hasRun_26 {R : zP} {x0 x1 x2 : Option zV} {st : List zV} {M : zM} : uX1_hasRun R 26 [x0, x1, x2] st M ↔ uX1_hasRun R 27 [x0, x1, x2] (.inl (1) :: st) M := zU_step dX1_hasRun_26 (Or.inl rfl)
theorem dX1_hasRun_27 : decode cX1_hasRun 27 = .ok (.goto 4, 3) := by decide +kernel
theorem rX1_hasRun_27 {R : zP} {x0 x1 x2 : Option zV} {st : List zV} {M : zM} : uX1_hasRun R 27 [x0, x1, x2] st M ↔ uX1_hasRun R 31 [x0, x1, x2] st M := Iff.trans (zU_step dX1_hasRun_27 (Or.inl rfl)) ⟨fun h => h.2, fun h => ⟨by decide, h⟩⟩
theorem dX1_hasRun_30 : decode cX1_hasRun 30 = .ok (.iconst 0, 1) := by decide +kernel
theorem rX1_hasRun_30 {R : zP} {x0 x1 x2 : Option zV} {st : List zV} {M : zM} : uX1_hasRun R 30 [x0, x1, x2] st M ↔ uX1_hasRun R 31 [x0, x1, x2] (.inl (0) :: st) M := zU_step dX1_hasRun_30 (Or.inl rfl)
theorem dX1_hasRun_31 : decode cX1_hasRun 31 = .ok (.ireturn, 1) := by decide +kernel
theorem rX1_hasRun_31 {R : zP} {x0 x1 x2 : Option zV} {M : zM} {a : Int} : uX1_hasRun R 31 [x0, x1, x2] [.inl a] M ↔ ((a = 0 ∨ a = 1) ∧ R (some (.inl a)) M) := Iff.trans (zU_step dX1_hasRun_31 (Or.inl rfl)) ⟨fun h => ⟨zret2 rfl h.2.1, h.2.2⟩, fun h => ⟨rfl, Or.inr (Or.inl ⟨rfl, h.1⟩), h.2⟩⟩
theorem eX1_hasRun {R : zP} {M : zM} {a0 : Nat} {p0 : Int} {p1 : Int} : tX1_hasRun [.inr (.inr a0), .inl p0, .inl p1] M R ↔ uX1_hasRun R 0 [some (.inr (.inr a0)), some (.inl p0), some (.inl p1)] [] M := ⟨fun h => h.2, fun h => ⟨show 3 ≤ 3 by decide, h⟩⟩
def uX2_become (R : zP) : zK := zU fX2 vX2_become cX2_become R
theorem dX2_become_0 : decode cX2_become 0 = .ok (.aload_n 0, 1) := by decide +kernel
theorem rX2_become_0 {R : zP} {x1 x2 x3 : Option zV} {st : List zV} {M : zM} {a : Nat} : uX2_become R 0 [some (.inr (.inr a)), x1, x2, x3] st M ↔ uX2_become R 1 [some (.inr (.inr a)), x1, x2, x3] (.inr (.inr a) :: st) M := zU_step dX2_become_0 (Or.inl rfl)
theorem dX2_become_1 : decode cX2_become 1 = .ok (.iload_n 1, 1) := by decide +kernel
theorem rX2_become_1 {R : zP} {x0 x2 x3 : Option zV} {st : List zV} {M : zM} {a : Int} : uX2_become R 1 [x0, some (.inl a), x2, x3] st M ↔ uX2_become R 2 [x0, some (.inl a), x2, x3] (.inl a :: st) M := zU_step dX2_become_1 (Or.inl rfl)
theorem dX2_become_2 : decode cX2_become 2 = .ok (.putfield 9, 3) := by decide +kernel
theorem rX2_become_2 {R : zP} {x0 x1 x2 x3 : Option zV} {st : List zV} {M : zM} {r : Nat} {v : zV} : uX2_become R 2 [x0, x1, x2, x3] (v :: .inr (.inr r) :: st) M ↔ zputx fX2 9 r M v (fun M => uX2_become R 5 [x0, x1, x2, x3] st M) := zU_step dX2_become_2 (Or.inl rfl)
theorem dX2_become_5 : decode cX2_become 5 = .ok (.aload_n 0, 1) := by decide +kernel
theorem rX2_become_5 {R : zP} {x1 x2 x3 : Option zV} {st : List zV} {M : zM} {a : Nat} : uX2_become R 5 [some (.inr (.inr a)), x1, x2, x3] st M ↔ uX2_become R 6 [some (.inr (.inr a)), x1, x2, x3] (.inr (.inr a) :: st) M := zU_step dX2_become_5 (Or.inl rfl)
theorem dX2_become_6 : decode cX2_become 6 = .ok (.iload_n 2, 1) := by decide +kernel
theorem rX2_become_6 {R : zP} {x0 x1 x3 : Option zV} {st : List zV} {M : zM} {a : Int} : uX2_become R 6 [x0, x1, some (.inl a), x3] st M ↔ uX2_become R 7 [x0, x1, some (.inl a), x3] (.inl a :: st) M := zU_step dX2_become_6 (Or.inl rfl)
theorem dX2_become_7 : decode cX2_become 7 = .ok (.putfield 15, 3) := by decide +kernel
theorem rX2_become_7 {R : zP} {x0 x1 x2 x3 : Option zV} {st : List zV} {M : zM} {r : Nat} {v : zV} : uX2_become R 7 [x0, x1, x2, x3] (v :: .inr (.inr r) :: st) M ↔ zputx fX2 15 r M v (fun M => uX2_become R 10 [x0, x1, x2, x3] st M) := zU_step dX2_become_7 (Or.inl rfl)
theorem dX2_become_10 : decode cX2_become 10 = .ok (.aload_n 0, 1) := by decide +kernel
theorem rX2_become_10 {R : zP} {x1 x2 x3 : Option zV} {st : List zV} {M : zM} {a : Nat} : uX2_become R 10 [some (.inr (.inr a)), x1, x2, x3] st M ↔ uX2_become R 11 [some (.inr (.inr a)), x1, x2, x3] (.inr (.inr a) :: st) M := zU_step dX2_become_10 (Or.inl rfl)
theorem dX2_become_11 : decode cX2_become 11 = .ok (.iload_n 3, 1) := by decide +kernel
theorem rX2_become_11 {R : zP} {x0 x1 x2 : Option zV} {st : List zV} {M : zM} {a : Int} : uX2_become R 11 [x0, x1, x2, some (.inl a)] st M ↔ uX2_become R 12 [x0, x1, x2, some (.inl a)] (.inl a :: st) M := zU_step dX2_become_11 (Or.inl rfl)
theorem dX2_become_12 : decode cX2_become 12 = .ok (.putfield 18, 3) := by decide +kernel
theorem rX2_become_12 {R : zP} {x0 x1 x2 x3 : Option zV} {st : List zV} {M : zM} {r : Nat} {v : zV} : uX2_become R 12 [x0, x1, x2, x3] (v :: .inr (.inr r) :: st) M ↔ zputx fX2 18 r M v (fun M => uX2_become R 15 [x0, x1, x2, x3] st M) := zU_step dX2_become_12 (Or.inl rfl)
theorem dX2_become_15 : decode cX2_become 15 = .ok (.return_, 1) := by decide +kernel
theorem rX2_become_15 {R : zP} {x0 x1 x2 x3 : Option zV} {M : zM} : uX2_become R 15 [x0, x1, x2, x3] [] M ↔ R none M := Iff.trans (zU_step dX2_become_15 (Or.inl rfl)) ⟨fun h => h.2.2, fun h => ⟨rfl, rfl, h⟩⟩
theorem eX2_become {R : zP} {M : zM} {a0 : Nat} {p0 : Int} {p1 : Int} {p2 : Int} : tX2_become [.inr (.inr a0), .inl p0, .inl p1, .inl p2] M R ↔ uX2_become R 0 [some (.inr (.inr a0)), some (.inl p0), some (.inl p1), some (.inl p2)] [] M := ⟨fun h => h.2, fun h => ⟨show 4 ≤ 4 by decide, h⟩⟩
def uX2_tell (R : zP) : zK := zU fX2 vX2_tell cX2_tell R
theorem dX2_tell_0 : decode cX2_tell 0 = .ok (.iload_n 1, 1) := by decide +kernel
theorem rX2_tell_0 {R : zP} {x0 : Option zV} {st : List zV} {M : zM} {a : Int} : uX2_tell R 0 [x0, some (.inl a)] st M ↔ uX2_tell R 1 [x0, some (.inl a)] (.inl a :: st) M := zU_step dX2_tell_0 (Or.inl rfl)
theorem dX2_tell_1 : decode cX2_tell 1 = .ok (.iconst (-1), 1) := by decide +kernel
theorem rX2_tell_1 {R : zP} {x0 x1 : Option zV} {st : List zV} {M : zM} : uX2_tell R 1 [x0, x1] st M ↔ uX2_tell R 2 [x0, x1] (.inl (-1) :: st) M := zU_step dX2_tell_1 (Or.inl rfl)
theorem dX2_tell_2 : decode cX2_tell 2 = .ok (.if_icmp .ne 10, 3) := by decide +kernel
theorem rX2_tell_2 {R : zP} {x0 x1 : Option zV} {st : List zV} {M : zM} {a b : Int} : uX2_tell R 2 [x0, x1] (.inl b :: .inl a :: st) M ↔ ((zIR a ∧ zIR b) ∧ if a ≠ b then uX2_tell R 12 [x0, x1] st M else uX2_tell R 5 [x0, x1] st M) := Iff.trans (zU_step dX2_tell_2 (Or.inl rfl)) ⟨fun h => ⟨⟨h.1.1, h.1.2.1⟩, (zite (c := a ≠ b)).mpr h.2⟩, fun h => ⟨⟨h.1.1, h.1.2, by decide⟩, (zite (c := a ≠ b)).mp h.2⟩⟩
theorem dX2_tell_5 : decode cX2_tell 5 = .ok (.aload_n 0, 1) := by decide +kernel
theorem rX2_tell_5 {R : zP} {x1 : Option zV} {st : List zV} {M : zM} {a : Nat} : uX2_tell R 5 [some (.inr (.inr a)), x1] st M ↔ uX2_tell R 6 [some (.inr (.inr a)), x1] (.inr (.inr a) :: st) M := zU_step dX2_tell_5 (Or.inl rfl)
theorem dX2_tell_6 : decode cX2_tell 6 = .ok (.getfield 9, 3) := by decide +kernel
theorem rX2_tell_6 {R : zP} {x0 x1 : Option zV} {st : List zV} {M : zM} {r : Nat} : uX2_tell R 6 [x0, x1] (.inr (.inr r) :: st) M ↔ zgetx fX2 9 r M (fun v => uX2_tell R 9 [x0, x1] (v :: st) M) := zU_step dX2_tell_6 (Or.inl rfl)
theorem dX2_tell_9 : decode cX2_tell 9 = .ok (.goto 18, 3) := by decide +kernel
theorem rX2_tell_9 {R : zP} {x0 x1 : Option zV} {st : List zV} {M : zM} : uX2_tell R 9 [x0, x1] st M ↔ uX2_tell R 27 [x0, x1] st M := Iff.trans (zU_step dX2_tell_9 (Or.inl rfl)) ⟨fun h => h.2, fun h => ⟨by decide, h⟩⟩
theorem dX2_tell_12 : decode cX2_tell 12 = .ok (.iload_n 1, 1) := by decide +kernel
theorem rX2_tell_12 {R : zP} {x0 : Option zV} {st : List zV} {M : zM} {a : Int} : uX2_tell R 12 [x0, some (.inl a)] st M ↔ uX2_tell R 13 [x0, some (.inl a)] (.inl a :: st) M := zU_step dX2_tell_12 (Or.inl rfl)
theorem dX2_tell_13 : decode cX2_tell 13 = .ok (.ifCond .ne 10, 3) := by decide +kernel
theorem rX2_tell_13 {R : zP} {x0 x1 : Option zV} {st : List zV} {M : zM} {a : Int} : uX2_tell R 13 [x0, x1] (.inl a :: st) M ↔ (zIR a ∧ if a ≠ 0 then uX2_tell R 23 [x0, x1] st M else uX2_tell R 16 [x0, x1] st M) := Iff.trans (zU_step dX2_tell_13 (Or.inl rfl)) ⟨fun h => ⟨h.1.1, (zite (c := a ≠ 0)).mpr h.2⟩, fun h => ⟨⟨h.1, by decide⟩, (zite (c := a ≠ 0)).mp h.2⟩⟩
theorem dX2_tell_16 : decode cX2_tell 16 = .ok (.aload_n 0, 1) := by decide +kernel
theorem rX2_tell_16 {R : zP} {x1 : Option zV} {st : List zV} {M : zM} {a : Nat} : uX2_tell R 16 [some (.inr (.inr a)), x1] st M ↔ uX2_tell R 17 [some (.inr (.inr a)), x1] (.inr (.inr a) :: st) M := zU_step dX2_tell_16 (Or.inl rfl)
theorem dX2_tell_17 : decode cX2_tell 17 = .ok (.getfield 15, 3) := by decide +kernel
theorem rX2_tell_17 {R : zP} {x0 x1 : Option zV} {st : List zV} {M : zM} {r : Nat} : uX2_tell R 17 [x0, x1] (.inr (.inr r) :: st) M ↔ zgetx fX2 15 r M (fun v => uX2_tell R 20 [x0, x1] (v :: st) M) := zU_step dX2_tell_17 (Or.inl rfl)
theorem dX2_tell_20 : decode cX2_tell 20 = .ok (.goto 7, 3) := by decide +kernel
theorem rX2_tell_20 {R : zP} {x0 x1 : Option zV} {st : List zV} {M : zM} : uX2_tell R 20 [x0, x1] st M ↔ uX2_tell R 27 [x0, x1] st M := Iff.trans (zU_step dX2_tell_20 (Or.inl rfl)) ⟨fun h => h.2, fun h => ⟨by decide, h⟩⟩
theorem dX2_tell_23 : decode cX2_tell 23 = .ok (.aload_n 0, 1) := by decide +kernel
theorem rX2_tell_23 {R : zP} {x1 : Option zV} {st : List zV} {M : zM} {a : Nat} : uX2_tell R 23 [some (.inr (.inr a)), x1] st M ↔ uX2_tell R 24 [some (.inr (.inr a)), x1] (.inr (.inr a) :: st) M := zU_step dX2_tell_23 (Or.inl rfl)
theorem dX2_tell_24 : decode cX2_tell 24 = .ok (.getfield 18, 3) := by decide +kernel
theorem rX2_tell_24 {R : zP} {x0 x1 : Option zV} {st : List zV} {M : zM} {r : Nat} : uX2_tell R 24 [x0, x1] (.inr (.inr r) :: st) M ↔ zgetx fX2 18 r M (fun v => uX2_tell R 27 [x0, x1] (v :: st) M) := zU_step dX2_tell_24 (Or.inl rfl)
theorem dX2_tell_27 : decode cX2_tell 27 = .ok (.ireturn, 1) := by decide +kernel
theorem rX2_tell_27 {R : zP} {x0 x1 : Option zV} {M : zM} {a : Int} : uX2_tell R 27 [x0, x1] [.inl a] M ↔ R (some (.inl a)) M := Iff.trans (zU_step dX2_tell_27 (Or.inl rfl)) ⟨fun h => h.2.2, fun h => ⟨rfl, Or.inl rfl, h⟩⟩
theorem eX2_tell {R : zP} {M : zM} {a0 : Nat} {p0 : Int} : tX2_tell [.inr (.inr a0), .inl p0] M R ↔ uX2_tell R 0 [some (.inr (.inr a0)), some (.inl p0)] [] M := ⟨fun h => h.2, fun h => ⟨show 2 ≤ 2 by decide, h⟩⟩
def uX3_become (R : zP) : zK := zU fX3 vX3_become cX3_become R
theorem dX3_become_0 : decode cX3_become 0 = .ok (.aload_n 0, 1) := by decide +kernel
theorem rX3_become_0 {R : zP} {x1 : Option zV} {st : List zV} {M : zM} {a : Nat} : uX3_become R 0 [some (.inr (.inr a)), x1] st M ↔ uX3_become R 1 [some (.inr (.inr a)), x1] (.inr (.inr a) :: st) M := zU_step dX3_become_0 (Or.inl rfl)
theorem dX3_become_1 : decode cX3_become 1 = .ok (.getstatic 44, 3) := by decide +kernel
theorem rX3_become_1 {R : zP} {x0 x1 : Option zV} {st : List zV} {M : zM} : uX3_become R 1 [x0, x1] st M ↔ zopt (zFs fX3 44) (fun v => uX3_become R 4 [x0, x1] (v :: st) M) := zU_step dX3_become_1 (Or.inl rfl)
theorem dX3_become_4 : decode cX3_become 4 = .ok (.iload_n 1, 1) := by decide +kernel
theorem rX3_become_4 {R : zP} {x0 : Option zV} {st : List zV} {M : zM} {a : Int} : uX3_become R 4 [x0, some (.inl a)] st M ↔ uX3_become R 5 [x0, some (.inl a)] (.inl a :: st) M := zU_step dX3_become_4 (Or.inl rfl)
theorem dX3_become_5 : decode cX3_become 5 = .ok (.iaload, 1) := by decide +kernel
theorem rX3_become_5 {R : zP} {x0 x1 : Option zV} {st : List zV} {M : zM} {i : Int} {r : Nat} : uX3_become R 5 [x0, x1] (.inl i :: .inr (.inr r) :: st) M ↔ zread fX3 0 r M i (fun v => uX3_become R 6 [x0, x1] (.inl v :: st) M) := zU_step dX3_become_5 (Or.inl rfl)
theorem dX3_become_6 : decode cX3_become 6 = .ok (.putfield 21, 3) := by decide +kernel
theorem rX3_become_6 {R : zP} {x0 x1 : Option zV} {st : List zV} {M : zM} {r : Nat} {v : zV} : uX3_become R 6 [x0, x1] (v :: .inr (.inr r) :: st) M ↔ zputx fX3 21 r M v (fun M => uX3_become R 9 [x0, x1] st M) := zU_step dX3_become_6 (Or.inl rfl)
theorem dX3_become_9 : decode cX3_become 9 = .ok (.aload_n 0, 1) := by decide +kernel
theorem rX3_become_9 {R : zP} {x1 : Option zV} {st : List zV} {M : zM} {a : Nat} : uX3_become R 9 [some (.inr (.inr a)), x1] st M ↔ uX3_become R 10 [some (.inr (.inr a)), x1] (.inr (.inr a) :: st) M := zU_step dX3_become_9 (Or.inl rfl)
theorem dX3_become_10 : decode cX3_become 10 = .ok (.getstatic 47, 3) := by decide +kernel
theorem rX3_become_10 {R : zP} {x0 x1 : Option zV} {st : List zV} {M : zM} : uX3_become R 10 [x0, x1] st M ↔ zopt (zFs fX3 47) (fun v => uX3_become R 13 [x0, x1] (v :: st) M) := zU_step dX3_become_10 (Or.inl rfl)
theorem dX3_become_13 : decode cX3_become 13 = .ok (.iload_n 1, 1) := by decide +kernel
theorem rX3_become_13 {R : zP} {x0 : Option zV} {st : List zV} {M : zM} {a : Int} : uX3_become R 13 [x0, some (.inl a)] st M ↔ uX3_become R 14 [x0, some (.inl a)] (.inl a :: st) M := zU_step dX3_become_13 (Or.inl rfl)
theorem dX3_become_14 : decode cX3_become 14 = .ok (.iaload, 1) := by decide +kernel
theorem rX3_become_14 {R : zP} {x0 x1 : Option zV} {st : List zV} {M : zM} {i : Int} {r : Nat} : uX3_become R 14 [x0, x1] (.inl i :: .inr (.inr r) :: st) M ↔ zread fX3 0 r M i (fun v => uX3_become R 15 [x0, x1] (.inl v :: st) M) := zU_step dX3_become_14 (Or.inl rfl)
theorem dX3_become_15 : decode cX3_become 15 = .ok (.putfield 25, 3) := by decide +kernel
theorem rX3_become_15 {R : zP} {x0 x1 : Option zV} {st : List zV} {M : zM} {r : Nat} {v : zV} : uX3_become R 15 [x0, x1] (v :: .inr (.inr r) :: st) M ↔ zputx fX3 25 r M v (fun M => uX3_become R 18 [x0, x1] st M) := zU_step dX3_become_15 (Or.inl rfl)
theorem dX3_become_18 : decode cX3_become 18 = .ok (.return_, 1) := by decide +kernel
theorem rX3_become_18 {R : zP} {x0 x1 : Option zV} {M : zM} : uX3_become R 18 [x0, x1] [] M ↔ R none M := Iff.trans (zU_step dX3_become_18 (Or.inl rfl)) ⟨fun h => h.2.2, fun h => ⟨rfl, rfl, h⟩⟩
theorem eX3_become {R : zP} {M : zM} {a0 : Nat} {p0 : Int} : tX3_become [.inr (.inr a0), .inl p0] M R ↔ uX3_become R 0 [some (.inr (.inr a0)), some (.inl p0)] [] M := ⟨fun h => h.2, fun h => ⟨show 2 ≤ 2 by decide, h⟩⟩
def uX3_hold (R : zP) : zK := zU fX3 vX3_hold cX3_hold R
theorem dX3_hold_0 : decode cX3_hold 0 = .ok (.aload_n 0, 1) := by decide +kernel
theorem rX3_hold_0 {R : zP} {x1 x2 : Option zV} {st : List zV} {M : zM} {a : Nat} : uX3_hold R 0 [some (.inr (.inr a)), x1, x2] st M ↔ uX3_hold R 1 [some (.inr (.inr a)), x1, x2] (.inr (.inr a) :: st) M := zU_step dX3_hold_0 (Or.inl rfl)
theorem dX3_hold_1 : decode cX3_hold 1 = .ok (.getfield 9, 3) := by decide +kernel
theorem rX3_hold_1 {R : zP} {x0 x1 x2 : Option zV} {st : List zV} {M : zM} {r : Nat} : uX3_hold R 1 [x0, x1, x2] (.inr (.inr r) :: st) M ↔ zgetx fX3 9 r M (fun v => uX3_hold R 4 [x0, x1, x2] (v :: st) M) := zU_step dX3_hold_1 (Or.inl rfl)
theorem dX3_hold_4 : decode cX3_hold 4 = .ok (.iload_n 1, 1) := by decide +kernel
theorem rX3_hold_4 {R : zP} {x0 x2 : Option zV} {st : List zV} {M : zM} {a : Int} : uX3_hold R 4 [x0, some (.inl a), x2] st M ↔ uX3_hold R 5 [x0, some (.inl a), x2] (.inl a :: st) M := zU_step dX3_hold_4 (Or.inl rfl)
theorem dX3_hold_5 : decode cX3_hold 5 = .ok (.iload_n 2, 1) := by decide +kernel
theorem rX3_hold_5 {R : zP} {x0 x1 : Option zV} {st : List zV} {M : zM} {a : Int} : uX3_hold R 5 [x0, x1, some (.inl a)] st M ↔ uX3_hold R 6 [x0, x1, some (.inl a)] (.inl a :: st) M := zU_step dX3_hold_5 (Or.inl rfl)
theorem dX3_hold_6 : decode cX3_hold 6 = .ok (.iastore, 1) := by decide +kernel
theorem rX3_hold_6 {R : zP} {x0 x1 x2 : Option zV} {st : List zV} {M : zM} {i v : Int} {r : Nat} : uX3_hold R 6 [x0, x1, x2] (.inl v :: .inl i :: .inr (.inr r) :: st) M ↔ zwrite 0 r i (uX3_hold R 7 [x0, x1, x2] st (zup M r i v)) := zU_step dX3_hold_6 (Or.inl rfl)
theorem dX3_hold_7 : decode cX3_hold 7 = .ok (.aload_n 0, 1) := by decide +kernel
theorem rX3_hold_7 {R : zP} {x1 x2 : Option zV} {st : List zV} {M : zM} {a : Nat} : uX3_hold R 7 [some (.inr (.inr a)), x1, x2] st M ↔ uX3_hold R 8 [some (.inr (.inr a)), x1, x2] (.inr (.inr a) :: st) M := zU_step dX3_hold_7 (Or.inl rfl)
theorem dX3_hold_8 : decode cX3_hold 8 = .ok (.getfield 15, 3) := by decide +kernel
theorem rX3_hold_8 {R : zP} {x0 x1 x2 : Option zV} {st : List zV} {M : zM} {r : Nat} : uX3_hold R 8 [x0, x1, x2] (.inr (.inr r) :: st) M ↔ zgetx fX3 15 r M (fun v => uX3_hold R 11 [x0, x1, x2] (v :: st) M) := zU_step dX3_hold_8 (Or.inl rfl)
theorem dX3_hold_11 : decode cX3_hold 11 = .ok (.iload_n 1, 1) := by decide +kernel
theorem rX3_hold_11 {R : zP} {x0 x2 : Option zV} {st : List zV} {M : zM} {a : Int} : uX3_hold R 11 [x0, some (.inl a), x2] st M ↔ uX3_hold R 12 [x0, some (.inl a), x2] (.inl a :: st) M := zU_step dX3_hold_11 (Or.inl rfl)
theorem dX3_hold_12 : decode cX3_hold 12 = .ok (.iload_n 2, 1) := by decide +kernel
theorem rX3_hold_12 {R : zP} {x0 x1 : Option zV} {st : List zV} {M : zM} {a : Int} : uX3_hold R 12 [x0, x1, some (.inl a)] st M ↔ uX3_hold R 13 [x0, x1, some (.inl a)] (.inl a :: st) M := zU_step dX3_hold_12 (Or.inl rfl)
theorem dX3_hold_13 : decode cX3_hold 13 = .ok (.iastore, 1) := by decide +kernel
theorem rX3_hold_13 {R : zP} {x0 x1 x2 : Option zV} {st : List zV} {M : zM} {i v : Int} {r : Nat} : uX3_hold R 13 [x0, x1, x2] (.inl v :: .inl i :: .inr (.inr r) :: st) M ↔ zwrite 0 r i (uX3_hold R 14 [x0, x1, x2] st (zup M r i v)) := zU_step dX3_hold_13 (Or.inl rfl)
theorem dX3_hold_14 : decode cX3_hold 14 = .ok (.aload_n 0, 1) := by decide +kernel
theorem rX3_hold_14 {R : zP} {x1 x2 : Option zV} {st : List zV} {M : zM} {a : Nat} : uX3_hold R 14 [some (.inr (.inr a)), x1, x2] st M ↔ uX3_hold R 15 [some (.inr (.inr a)), x1, x2] (.inr (.inr a) :: st) M := zU_step dX3_hold_14 (Or.inl rfl)
theorem dX3_hold_15 : decode cX3_hold 15 = .ok (.getfield 18, 3) := by decide +kernel
theorem rX3_hold_15 {R : zP} {x0 x1 x2 : Option zV} {st : List zV} {M : zM} {r : Nat} : uX3_hold R 15 [x0, x1, x2] (.inr (.inr r) :: st) M ↔ zgetx fX3 18 r M (fun v => uX3_hold R 18 [x0, x1, x2] (v :: st) M) := zU_step dX3_hold_15 (Or.inl rfl)
theorem dX3_hold_18 : decode cX3_hold 18 = .ok (.iload_n 1, 1) := by decide +kernel
theorem rX3_hold_18 {R : zP} {x0 x2 : Option zV} {st : List zV} {M : zM} {a : Int} : uX3_hold R 18 [x0, some (.inl a), x2] st M ↔ uX3_hold R 19 [x0, some (.inl a), x2] (.inl a :: st) M := zU_step dX3_hold_18 (Or.inl rfl)
theorem dX3_hold_19 : decode cX3_hold 19 = .ok (.iload_n 2, 1) := by decide +kernel
theorem rX3_hold_19 {R : zP} {x0 x1 : Option zV} {st : List zV} {M : zM} {a : Int} : uX3_hold R 19 [x0, x1, some (.inl a)] st M ↔ uX3_hold R 20 [x0, x1, some (.inl a)] (.inl a :: st) M := zU_step dX3_hold_19 (Or.inl rfl)
theorem dX3_hold_20 : decode cX3_hold 20 = .ok (.iastore, 1) := by decide +kernel
theorem rX3_hold_20 {R : zP} {x0 x1 x2 : Option zV} {st : List zV} {M : zM} {i v : Int} {r : Nat} : uX3_hold R 20 [x0, x1, x2] (.inl v :: .inl i :: .inr (.inr r) :: st) M ↔ zwrite 0 r i (uX3_hold R 21 [x0, x1, x2] st (zup M r i v)) := zU_step dX3_hold_20 (Or.inl rfl)
theorem dX3_hold_21 : decode cX3_hold 21 = .ok (.return_, 1) := by decide +kernel
theorem rX3_hold_21 {R : zP} {x0 x1 x2 : Option zV} {M : zM} : uX3_hold R 21 [x0, x1, x2] [] M ↔ R none M := Iff.trans (zU_step dX3_hold_21 (Or.inl rfl)) ⟨fun h => h.2.2, fun h => ⟨rfl, rfl, h⟩⟩
theorem eX3_hold {R : zP} {M : zM} {a0 : Nat} {p0 : Int} {p1 : Int} : tX3_hold [.inr (.inr a0), .inl p0, .inl p1] M R ↔ uX3_hold R 0 [some (.inr (.inr a0)), some (.inl p0), some (.inl p1)] [] M := ⟨fun h => h.2, fun h => ⟨show 3 ≤ 3 by decide, h⟩⟩
def uX3_enter (R : zP) : zK := zU fX3 vX3_enter cX3_enter R
theorem dX3_enter_0 : decode cX3_enter 0 = .ok (.aload_n 0, 1) := by decide +kernel
theorem rX3_enter_0 {R : zP} {x1 x2 x3 : Option zV} {st : List zV} {M : zM} {a : Nat} : uX3_enter R 0 [some (.inr (.inr a)), x1, x2, x3] st M ↔ uX3_enter R 1 [some (.inr (.inr a)), x1, x2, x3] (.inr (.inr a) :: st) M := zU_step dX3_enter_0 (Or.inl rfl)
theorem dX3_enter_1 : decode cX3_enter 1 = .ok (.aload_n 1, 1) := by decide +kernel
theorem rX3_enter_1 {R : zP} {x0 x2 x3 : Option zV} {st : List zV} {M : zM} {a : Nat} : uX3_enter R 1 [x0, some (.inr (.inr a)), x2, x3] st M ↔ uX3_enter R 2 [x0, some (.inr (.inr a)), x2, x3] (.inr (.inr a) :: st) M := zU_step dX3_enter_1 (Or.inl rfl)
theorem dX3_enter_2 : decode cX3_enter 2 = .ok (.getfield 31, 3) := by decide +kernel
theorem rX3_enter_2 {R : zP} {x0 x1 x2 x3 : Option zV} {st : List zV} {M : zM} {r : Nat} : uX3_enter R 2 [x0, x1, x2, x3] (.inr (.inr r) :: st) M ↔ zgetx fX3 31 r M (fun v => uX3_enter R 5 [x0, x1, x2, x3] (v :: st) M) := zU_step dX3_enter_2 (Or.inl rfl)
theorem dX3_enter_5 : decode cX3_enter 5 = .ok (.iload_n 2, 1) := by decide +kernel
theorem rX3_enter_5 {R : zP} {x0 x1 x3 : Option zV} {st : List zV} {M : zM} {a : Int} : uX3_enter R 5 [x0, x1, some (.inl a), x3] st M ↔ uX3_enter R 6 [x0, x1, some (.inl a), x3] (.inl a :: st) M := zU_step dX3_enter_5 (Or.inl rfl)
theorem dX3_enter_6 : decode cX3_enter 6 = .ok (.iconst 5, 1) := by decide +kernel
theorem rX3_enter_6 {R : zP} {x0 x1 x2 x3 : Option zV} {st : List zV} {M : zM} : uX3_enter R 6 [x0, x1, x2, x3] st M ↔ uX3_enter R 7 [x0, x1, x2, x3] (.inl (5) :: st) M := zU_step dX3_enter_6 (Or.inl rfl)
theorem dX3_enter_7 : decode cX3_enter 7 = .ok (.imul, 1) := by decide +kernel
theorem rX3_enter_7 {R : zP} {x0 x1 x2 x3 : Option zV} {st : List zV} {M : zM} {a b : Int} : uX3_enter R 7 [x0, x1, x2, x3] (.inl b :: .inl a :: st) M ↔ uX3_enter R 8 [x0, x1, x2, x3] (.inl (a * b) :: st) M := zU_step dX3_enter_7 (Or.inl rfl)
theorem dX3_enter_8 : decode cX3_enter 8 = .ok (.iaload, 1) := by decide +kernel
theorem rX3_enter_8 {R : zP} {x0 x1 x2 x3 : Option zV} {st : List zV} {M : zM} {i : Int} {r : Nat} : uX3_enter R 8 [x0, x1, x2, x3] (.inl i :: .inr (.inr r) :: st) M ↔ zread fX3 0 r M i (fun v => uX3_enter R 9 [x0, x1, x2, x3] (.inl v :: st) M) := zU_step dX3_enter_8 (Or.inl rfl)
theorem dX3_enter_9 : decode cX3_enter 9 = .ok (.invokevirtual 36, 3) := by decide +kernel
theorem rX3_enter_9 {R : zP} {x0 x1 x2 x3 : Option zV} {st : List zV} {M : zM} {a0 a1 : zV} : uX3_enter R 9 [x0, x1, x2, x3] (a1 :: a0 :: st) M ↔ (st.length ≤ 4 ∧ zcn (zv 3 tX3_become) [a0, a1] M (fun M => uX3_enter R 12 [x0, x1, x2, x3] st M)) := Iff.trans (zU_step dX3_enter_9 (Or.inl rfl)) ⟨fun h => ⟨h.2.1, zcn_of h.2.2⟩, fun h => ⟨rfl, h.1, zcn_to h.2⟩⟩
theorem dX3_enter_12 : decode cX3_enter 12 = .ok (.aload_n 0, 1) := by decide +kernel
theorem rX3_enter_12 {R : zP} {x1 x2 x3 : Option zV} {st : List zV} {M : zM} {a : Nat} : uX3_enter R 12 [some (.inr (.inr a)), x1, x2, x3] st M ↔ uX3_enter R 13 [some (.inr (.inr a)), x1, x2, x3] (.inr (.inr a) :: st) M := zU_step dX3_enter_12 (Or.inl rfl)
theorem dX3_enter_13 : decode cX3_enter 13 = .ok (.iconst 0, 1) := by decide +kernel
theorem rX3_enter_13 {R : zP} {x0 x1 x2 x3 : Option zV} {st : List zV} {M : zM} : uX3_enter R 13 [x0, x1, x2, x3] st M ↔ uX3_enter R 14 [x0, x1, x2, x3] (.inl (0) :: st) M := zU_step dX3_enter_13 (Or.inl rfl)
theorem dX3_enter_14 : decode cX3_enter 14 = .ok (.putfield 28, 3) := by decide +kernel
theorem rX3_enter_14 {R : zP} {x0 x1 x2 x3 : Option zV} {st : List zV} {M : zM} {r : Nat} {v : zV} : uX3_enter R 14 [x0, x1, x2, x3] (v :: .inr (.inr r) :: st) M ↔ zputx fX3 28 r M v (fun M => uX3_enter R 17 [x0, x1, x2, x3] st M) := zU_step dX3_enter_14 (Or.inl rfl)
theorem dX3_enter_17 : decode cX3_enter 17 = .ok (.iconst 0, 1) := by decide +kernel
theorem rX3_enter_17 {R : zP} {x0 x1 x2 x3 : Option zV} {st : List zV} {M : zM} : uX3_enter R 17 [x0, x1, x2, x3] st M ↔ uX3_enter R 18 [x0, x1, x2, x3] (.inl (0) :: st) M := zU_step dX3_enter_17 (Or.inl rfl)
theorem dX3_enter_18 : decode cX3_enter 18 = .ok (.istore_n 3, 1) := by decide +kernel
theorem rX3_enter_18 {R : zP} {x0 x1 x3 : Option zV} {st : List zV} {M : zM} {a : Int} {y : Int} : uX3_enter R 18 [x0, x1, some (.inl y), x3] (.inl a :: st) M ↔ uX3_enter R 19 [x0, x1, some (.inl y), some (.inl a)] st M := Iff.trans (zU_step dX3_enter_18 (Or.inl rfl)) ⟨fun h => h.2, fun h => ⟨show 3 < 4 by decide, h⟩⟩
theorem rX3_enter_18z {R : zP} {x0 x1 x2 x3 : Option zV} {st : List zV} {M : zM} {a : Int} : uX3_enter R 18 [x0, x1, x2, x3] (.inl a :: st) M ↔ uX3_enter R 19 [x0, x1, zkeep x2, some (.inl a)] st M := Iff.trans (zU_step dX3_enter_18 (Or.inl rfl)) ⟨fun h => h.2, fun h => ⟨show 3 < 4 by decide, h⟩⟩
theorem dX3_enter_19 : decode cX3_enter 19 = .ok (.iload_n 3, 1) := by decide +kernel
theorem rX3_enter_19 {R : zP} {x0 x1 x2 : Option zV} {st : List zV} {M : zM} {a : Int} : uX3_enter R 19 [x0, x1, x2, some (.inl a)] st M ↔ uX3_enter R 20 [x0, x1, x2, some (.inl a)] (.inl a :: st) M := zU_step dX3_enter_19 (Or.inl rfl)
theorem dX3_enter_20 : decode cX3_enter 20 = .ok (.iconst 4, 1) := by decide +kernel
theorem rX3_enter_20 {R : zP} {x0 x1 x2 x3 : Option zV} {st : List zV} {M : zM} : uX3_enter R 20 [x0, x1, x2, x3] st M ↔ uX3_enter R 21 [x0, x1, x2, x3] (.inl (4) :: st) M := zU_step dX3_enter_20 (Or.inl rfl)
theorem dX3_enter_21 : decode cX3_enter 21 = .ok (.if_icmp .ge 26, 3) := by decide +kernel
theorem rX3_enter_21 {R : zP} {x0 x1 x2 x3 : Option zV} {st : List zV} {M : zM} {a b : Int} : uX3_enter R 21 [x0, x1, x2, x3] (.inl b :: .inl a :: st) M ↔ ((zIR a ∧ zIR b) ∧ if b ≤ a then uX3_enter R 47 [x0, x1, x2, x3] st M else uX3_enter R 24 [x0, x1, x2, x3] st M) := Iff.trans (zU_step dX3_enter_21 (Or.inl rfl)) ⟨fun h => ⟨⟨h.1.1, h.1.2.1⟩, (zite (c := b ≤ a)).mpr h.2⟩, fun h => ⟨⟨h.1.1, h.1.2, by decide⟩, (zite (c := b ≤ a)).mp h.2⟩⟩
theorem dX3_enter_24 : decode cX3_enter 24 = .ok (.aload_n 0, 1) := by decide +kernel
theorem rX3_enter_24 {R : zP} {x1 x2 x3 : Option zV} {st : List zV} {M : zM} {a : Nat} : uX3_enter R 24 [some (.inr (.inr a)), x1, x2, x3] st M ↔ uX3_enter R 25 [some (.inr (.inr a)), x1, x2, x3] (.inr (.inr a) :: st) M := zU_step dX3_enter_24 (Or.inl rfl)
theorem dX3_enter_25 : decode cX3_enter 25 = .ok (.iload_n 3, 1) := by decide +kernel
theorem rX3_enter_25 {R : zP} {x0 x1 x2 : Option zV} {st : List zV} {M : zM} {a : Int} : uX3_enter R 25 [x0, x1, x2, some (.inl a)] st M ↔ uX3_enter R 26 [x0, x1, x2, some (.inl a)] (.inl a :: st) M := zU_step dX3_enter_25 (Or.inl rfl)
theorem dX3_enter_26 : decode cX3_enter 26 = .ok (.aload_n 1, 1) := by decide +kernel
theorem rX3_enter_26 {R : zP} {x0 x2 x3 : Option zV} {st : List zV} {M : zM} {a : Nat} : uX3_enter R 26 [x0, some (.inr (.inr a)), x2, x3] st M ↔ uX3_enter R 27 [x0, some (.inr (.inr a)), x2, x3] (.inr (.inr a) :: st) M := zU_step dX3_enter_26 (Or.inl rfl)
theorem dX3_enter_27 : decode cX3_enter 27 = .ok (.getfield 31, 3) := by decide +kernel
theorem rX3_enter_27 {R : zP} {x0 x1 x2 x3 : Option zV} {st : List zV} {M : zM} {r : Nat} : uX3_enter R 27 [x0, x1, x2, x3] (.inr (.inr r) :: st) M ↔ zgetx fX3 31 r M (fun v => uX3_enter R 30 [x0, x1, x2, x3] (v :: st) M) := zU_step dX3_enter_27 (Or.inl rfl)
theorem dX3_enter_30 : decode cX3_enter 30 = .ok (.iload_n 2, 1) := by decide +kernel
theorem rX3_enter_30 {R : zP} {x0 x1 x3 : Option zV} {st : List zV} {M : zM} {a : Int} : uX3_enter R 30 [x0, x1, some (.inl a), x3] st M ↔ uX3_enter R 31 [x0, x1, some (.inl a), x3] (.inl a :: st) M := zU_step dX3_enter_30 (Or.inl rfl)
theorem dX3_enter_31 : decode cX3_enter 31 = .ok (.iconst 5, 1) := by decide +kernel
theorem rX3_enter_31 {R : zP} {x0 x1 x2 x3 : Option zV} {st : List zV} {M : zM} : uX3_enter R 31 [x0, x1, x2, x3] st M ↔ uX3_enter R 32 [x0, x1, x2, x3] (.inl (5) :: st) M := zU_step dX3_enter_31 (Or.inl rfl)
theorem dX3_enter_32 : decode cX3_enter 32 = .ok (.imul, 1) := by decide +kernel
theorem rX3_enter_32 {R : zP} {x0 x1 x2 x3 : Option zV} {st : List zV} {M : zM} {a b : Int} : uX3_enter R 32 [x0, x1, x2, x3] (.inl b :: .inl a :: st) M ↔ uX3_enter R 33 [x0, x1, x2, x3] (.inl (a * b) :: st) M := zU_step dX3_enter_32 (Or.inl rfl)
theorem dX3_enter_33 : decode cX3_enter 33 = .ok (.iconst 1, 1) := by decide +kernel
theorem rX3_enter_33 {R : zP} {x0 x1 x2 x3 : Option zV} {st : List zV} {M : zM} : uX3_enter R 33 [x0, x1, x2, x3] st M ↔ uX3_enter R 34 [x0, x1, x2, x3] (.inl (1) :: st) M := zU_step dX3_enter_33 (Or.inl rfl)
theorem dX3_enter_34 : decode cX3_enter 34 = .ok (.iadd, 1) := by decide +kernel
theorem rX3_enter_34 {R : zP} {x0 x1 x2 x3 : Option zV} {st : List zV} {M : zM} {a b : Int} : uX3_enter R 34 [x0, x1, x2, x3] (.inl b :: .inl a :: st) M ↔ uX3_enter R 35 [x0, x1, x2, x3] (.inl (a + b) :: st) M := zU_step dX3_enter_34 (Or.inl rfl)
theorem dX3_enter_35 : decode cX3_enter 35 = .ok (.iload_n 3, 1) := by decide +kernel
theorem rX3_enter_35 {R : zP} {x0 x1 x2 : Option zV} {st : List zV} {M : zM} {a : Int} : uX3_enter R 35 [x0, x1, x2, some (.inl a)] st M ↔ uX3_enter R 36 [x0, x1, x2, some (.inl a)] (.inl a :: st) M := zU_step dX3_enter_35 (Or.inl rfl)
theorem dX3_enter_36 : decode cX3_enter 36 = .ok (.iadd, 1) := by decide +kernel
theorem rX3_enter_36 {R : zP} {x0 x1 x2 x3 : Option zV} {st : List zV} {M : zM} {a b : Int} : uX3_enter R 36 [x0, x1, x2, x3] (.inl b :: .inl a :: st) M ↔ uX3_enter R 37 [x0, x1, x2, x3] (.inl (a + b) :: st) M := zU_step dX3_enter_36 (Or.inl rfl)
theorem dX3_enter_37 : decode cX3_enter 37 = .ok (.iaload, 1) := by decide +kernel
theorem rX3_enter_37 {R : zP} {x0 x1 x2 x3 : Option zV} {st : List zV} {M : zM} {i : Int} {r : Nat} : uX3_enter R 37 [x0, x1, x2, x3] (.inl i :: .inr (.inr r) :: st) M ↔ zread fX3 0 r M i (fun v => uX3_enter R 38 [x0, x1, x2, x3] (.inl v :: st) M) := zU_step dX3_enter_37 (Or.inl rfl)
theorem dX3_enter_38 : decode cX3_enter 38 = .ok (.invokevirtual 40, 3) := by decide +kernel
theorem rX3_enter_38 {R : zP} {x0 x1 x2 x3 : Option zV} {st : List zV} {M : zM} {a0 a1 a2 : zV} : uX3_enter R 38 [x0, x1, x2, x3] (a2 :: a1 :: a0 :: st) M ↔ (st.length ≤ 4 ∧ zcn (zv 3 tX3_hold) [a0, a1, a2] M (fun M => uX3_enter R 41 [x0, x1, x2, x3] st M)) := Iff.trans (zU_step dX3_enter_38 (Or.inl rfl)) ⟨fun h => ⟨h.2.1, zcn_of h.2.2⟩, fun h => ⟨rfl, h.1, zcn_to h.2⟩⟩
theorem dX3_enter_41 : decode cX3_enter 41 = .ok (.iinc 3 1, 3) := by decide +kernel
theorem rX3_enter_41 {R : zP} {x0 x1 : Option zV} {st : List zV} {M : zM} {a : Int} {y : Int} : uX3_enter R 41 [x0, x1, some (.inl y), some (.inl a)] st M ↔ uX3_enter R 44 [x0, x1, some (.inl y), some (.inl (a + (1)))] st M := Iff.trans (zU_step dX3_enter_41 (Or.inl rfl)) ⟨fun h => h.2, fun h => ⟨show 3 < 4 by decide, h⟩⟩
theorem rX3_enter_41z {R : zP} {x0 x1 x2 : Option zV} {st : List zV} {M : zM} {a : Int} : uX3_enter R 41 [x0, x1, x2, some (.inl a)] st M ↔ uX3_enter R 44 [x0, x1, zkeep x2, some (.inl (a + (1)))] st M := Iff.trans (zU_step dX3_enter_41 (Or.inl rfl)) ⟨fun h => h.2, fun h => ⟨show 3 < 4 by decide, h⟩⟩
theorem dX3_enter_44 : decode cX3_enter 44 = .ok (.goto (-25), 3) := by decide +kernel
theorem rX3_enter_44 {R : zP} {x0 x1 x2 x3 : Option zV} {st : List zV} {M : zM} : uX3_enter R 44 [x0, x1, x2, x3] st M ↔ uX3_enter R 19 [x0, x1, x2, x3] st M := Iff.trans (zU_step dX3_enter_44 (Or.inl rfl)) ⟨fun h => h.2, fun h => ⟨by decide, h⟩⟩
theorem dX3_enter_47 : decode cX3_enter 47 = .ok (.return_, 1) := by decide +kernel
theorem rX3_enter_47 {R : zP} {x0 x1 x2 x3 : Option zV} {M : zM} : uX3_enter R 47 [x0, x1, x2, x3] [] M ↔ R none M := Iff.trans (zU_step dX3_enter_47 (Or.inl rfl)) ⟨fun h => h.2.2, fun h => ⟨rfl, rfl, h⟩⟩
theorem eX3_enter {R : zP} {M : zM} {a0 : Nat} {p0 : Nat} {p1 : Int} : tX3_enter [.inr (.inr a0), .inr (.inr p0), .inl p1] M R ↔ uX3_enter R 0 [some (.inr (.inr a0)), some (.inr (.inr p0)), some (.inl p1), none] [] M := ⟨fun h => h.2, fun h => ⟨show 3 ≤ 4 by decide, h⟩⟩
def uX3_resemble (R : zP) : zK := zU fX3 vX3_resemble cX3_resemble R
theorem dX3_resemble_0 : decode cX3_resemble 0 = .ok (.iconst 0, 1) := by decide +kernel
theorem rX3_resemble_0 {R : zP} {x0 x1 x2 : Option zV} {st : List zV} {M : zM} : uX3_resemble R 0 [x0, x1, x2] st M ↔ uX3_resemble R 1 [x0, x1, x2] (.inl (0) :: st) M := zU_step dX3_resemble_0 (Or.inl rfl)
theorem dX3_resemble_1 : decode cX3_resemble 1 = .ok (.istore_n 2, 1) := by decide +kernel
theorem rX3_resemble_1 {R : zP} {x0 x2 : Option zV} {st : List zV} {M : zM} {a : Int} {y : Nat} : uX3_resemble R 1 [x0, some (.inr (.inr y)), x2] (.inl a :: st) M ↔ uX3_resemble R 2 [x0, some (.inr (.inr y)), some (.inl a)] st M := Iff.trans (zU_step dX3_resemble_1 (Or.inl rfl)) ⟨fun h => h.2, fun h => ⟨show 2 < 3 by decide, h⟩⟩
theorem rX3_resemble_1z {R : zP} {x0 x1 x2 : Option zV} {st : List zV} {M : zM} {a : Int} : uX3_resemble R 1 [x0, x1, x2] (.inl a :: st) M ↔ uX3_resemble R 2 [x0, zkeep x1, some (.inl a)] st M := Iff.trans (zU_step dX3_resemble_1 (Or.inl rfl)) ⟨fun h => h.2, fun h => ⟨show 2 < 3 by decide, h⟩⟩
theorem dX3_resemble_2 : decode cX3_resemble 2 = .ok (.iload_n 2, 1) := by decide +kernel
theorem rX3_resemble_2 {R : zP} {x0 x1 : Option zV} {st : List zV} {M : zM} {a : Int} : uX3_resemble R 2 [x0, x1, some (.inl a)] st M ↔ uX3_resemble R 3 [x0, x1, some (.inl a)] (.inl a :: st) M := zU_step dX3_resemble_2 (Or.inl rfl)
theorem dX3_resemble_3 : decode cX3_resemble 3 = .ok (.iconst 4, 1) := by decide +kernel
theorem rX3_resemble_3 {R : zP} {x0 x1 x2 : Option zV} {st : List zV} {M : zM} : uX3_resemble R 3 [x0, x1, x2] st M ↔ uX3_resemble R 4 [x0, x1, x2] (.inl (4) :: st) M := zU_step dX3_resemble_3 (Or.inl rfl)
theorem dX3_resemble_4 : decode cX3_resemble 4 = .ok (.if_icmp .ge 45, 3) := by decide +kernel
theorem rX3_resemble_4 {R : zP} {x0 x1 x2 : Option zV} {st : List zV} {M : zM} {a b : Int} : uX3_resemble R 4 [x0, x1, x2] (.inl b :: .inl a :: st) M ↔ ((zIR a ∧ zIR b) ∧ if b ≤ a then uX3_resemble R 49 [x0, x1, x2] st M else uX3_resemble R 7 [x0, x1, x2] st M) := Iff.trans (zU_step dX3_resemble_4 (Or.inl rfl)) ⟨fun h => ⟨⟨h.1.1, h.1.2.1⟩, (zite (c := b ≤ a)).mpr h.2⟩, fun h => ⟨⟨h.1.1, h.1.2, by decide⟩, (zite (c := b ≤ a)).mp h.2⟩⟩
theorem dX3_resemble_7 : decode cX3_resemble 7 = .ok (.aload_n 0, 1) := by decide +kernel
theorem rX3_resemble_7 {R : zP} {x1 x2 : Option zV} {st : List zV} {M : zM} {a : Nat} : uX3_resemble R 7 [some (.inr (.inr a)), x1, x2] st M ↔ uX3_resemble R 8 [some (.inr (.inr a)), x1, x2] (.inr (.inr a) :: st) M := zU_step dX3_resemble_7 (Or.inl rfl)
theorem dX3_resemble_8 : decode cX3_resemble 8 = .ok (.getfield 9, 3) := by decide +kernel
theorem rX3_resemble_8 {R : zP} {x0 x1 x2 : Option zV} {st : List zV} {M : zM} {r : Nat} : uX3_resemble R 8 [x0, x1, x2] (.inr (.inr r) :: st) M ↔ zgetx fX3 9 r M (fun v => uX3_resemble R 11 [x0, x1, x2] (v :: st) M) := zU_step dX3_resemble_8 (Or.inl rfl)
theorem dX3_resemble_11 : decode cX3_resemble 11 = .ok (.iload_n 2, 1) := by decide +kernel
theorem rX3_resemble_11 {R : zP} {x0 x1 : Option zV} {st : List zV} {M : zM} {a : Int} : uX3_resemble R 11 [x0, x1, some (.inl a)] st M ↔ uX3_resemble R 12 [x0, x1, some (.inl a)] (.inl a :: st) M := zU_step dX3_resemble_11 (Or.inl rfl)
theorem dX3_resemble_12 : decode cX3_resemble 12 = .ok (.aload_n 1, 1) := by decide +kernel
theorem rX3_resemble_12 {R : zP} {x0 x2 : Option zV} {st : List zV} {M : zM} {a : Nat} : uX3_resemble R 12 [x0, some (.inr (.inr a)), x2] st M ↔ uX3_resemble R 13 [x0, some (.inr (.inr a)), x2] (.inr (.inr a) :: st) M := zU_step dX3_resemble_12 (Or.inl rfl)
theorem dX3_resemble_13 : decode cX3_resemble 13 = .ok (.getfield 9, 3) := by decide +kernel
theorem rX3_resemble_13 {R : zP} {x0 x1 x2 : Option zV} {st : List zV} {M : zM} {r : Nat} : uX3_resemble R 13 [x0, x1, x2] (.inr (.inr r) :: st) M ↔ zgetx fX3 9 r M (fun v => uX3_resemble R 16 [x0, x1, x2] (v :: st) M) := zU_step dX3_resemble_13 (Or.inl rfl)
theorem dX3_resemble_16 : decode cX3_resemble 16 = .ok (.iload_n 2, 1) := by decide +kernel
theorem rX3_resemble_16 {R : zP} {x0 x1 : Option zV} {st : List zV} {M : zM} {a : Int} : uX3_resemble R 16 [x0, x1, some (.inl a)] st M ↔ uX3_resemble R 17 [x0, x1, some (.inl a)] (.inl a :: st) M := zU_step dX3_resemble_16 (Or.inl rfl)
theorem dX3_resemble_17 : decode cX3_resemble 17 = .ok (.iaload, 1) := by decide +kernel
theorem rX3_resemble_17 {R : zP} {x0 x1 x2 : Option zV} {st : List zV} {M : zM} {i : Int} {r : Nat} : uX3_resemble R 17 [x0, x1, x2] (.inl i :: .inr (.inr r) :: st) M ↔ zread fX3 0 r M i (fun v => uX3_resemble R 18 [x0, x1, x2] (.inl v :: st) M) := zU_step dX3_resemble_17 (Or.inl rfl)
theorem dX3_resemble_18 : decode cX3_resemble 18 = .ok (.iastore, 1) := by decide +kernel
theorem rX3_resemble_18 {R : zP} {x0 x1 x2 : Option zV} {st : List zV} {M : zM} {i v : Int} {r : Nat} : uX3_resemble R 18 [x0, x1, x2] (.inl v :: .inl i :: .inr (.inr r) :: st) M ↔ zwrite 0 r i (uX3_resemble R 19 [x0, x1, x2] st (zup M r i v)) := zU_step dX3_resemble_18 (Or.inl rfl)
theorem dX3_resemble_19 : decode cX3_resemble 19 = .ok (.aload_n 0, 1) := by decide +kernel
theorem rX3_resemble_19 {R : zP} {x1 x2 : Option zV} {st : List zV} {M : zM} {a : Nat} : uX3_resemble R 19 [some (.inr (.inr a)), x1, x2] st M ↔ uX3_resemble R 20 [some (.inr (.inr a)), x1, x2] (.inr (.inr a) :: st) M := zU_step dX3_resemble_19 (Or.inl rfl)
theorem dX3_resemble_20 : decode cX3_resemble 20 = .ok (.getfield 15, 3) := by decide +kernel
theorem rX3_resemble_20 {R : zP} {x0 x1 x2 : Option zV} {st : List zV} {M : zM} {r : Nat} : uX3_resemble R 20 [x0, x1, x2] (.inr (.inr r) :: st) M ↔ zgetx fX3 15 r M (fun v => uX3_resemble R 23 [x0, x1, x2] (v :: st) M) := zU_step dX3_resemble_20 (Or.inl rfl)
theorem dX3_resemble_23 : decode cX3_resemble 23 = .ok (.iload_n 2, 1) := by decide +kernel
theorem rX3_resemble_23 {R : zP} {x0 x1 : Option zV} {st : List zV} {M : zM} {a : Int} : uX3_resemble R 23 [x0, x1, some (.inl a)] st M ↔ uX3_resemble R 24 [x0, x1, some (.inl a)] (.inl a :: st) M := zU_step dX3_resemble_23 (Or.inl rfl)
theorem dX3_resemble_24 : decode cX3_resemble 24 = .ok (.aload_n 1, 1) := by decide +kernel
theorem rX3_resemble_24 {R : zP} {x0 x2 : Option zV} {st : List zV} {M : zM} {a : Nat} : uX3_resemble R 24 [x0, some (.inr (.inr a)), x2] st M ↔ uX3_resemble R 25 [x0, some (.inr (.inr a)), x2] (.inr (.inr a) :: st) M := zU_step dX3_resemble_24 (Or.inl rfl)
theorem dX3_resemble_25 : decode cX3_resemble 25 = .ok (.getfield 15, 3) := by decide +kernel
theorem rX3_resemble_25 {R : zP} {x0 x1 x2 : Option zV} {st : List zV} {M : zM} {r : Nat} : uX3_resemble R 25 [x0, x1, x2] (.inr (.inr r) :: st) M ↔ zgetx fX3 15 r M (fun v => uX3_resemble R 28 [x0, x1, x2] (v :: st) M) := zU_step dX3_resemble_25 (Or.inl rfl)
theorem dX3_resemble_28 : decode cX3_resemble 28 = .ok (.iload_n 2, 1) := by decide +kernel
theorem rX3_resemble_28 {R : zP} {x0 x1 : Option zV} {st : List zV} {M : zM} {a : Int} : uX3_resemble R 28 [x0, x1, some (.inl a)] st M ↔ uX3_resemble R 29 [x0, x1, some (.inl a)] (.inl a :: st) M := zU_step dX3_resemble_28 (Or.inl rfl)
theorem dX3_resemble_29 : decode cX3_resemble 29 = .ok (.iaload, 1) := by decide +kernel
theorem rX3_resemble_29 {R : zP} {x0 x1 x2 : Option zV} {st : List zV} {M : zM} {i : Int} {r : Nat} : uX3_resemble R 29 [x0, x1, x2] (.inl i :: .inr (.inr r) :: st) M ↔ zread fX3 0 r M i (fun v => uX3_resemble R 30 [x0, x1, x2] (.inl v :: st) M) := zU_step dX3_resemble_29 (Or.inl rfl)
theorem dX3_resemble_30 : decode cX3_resemble 30 = .ok (.iastore, 1) := by decide +kernel
theorem rX3_resemble_30 {R : zP} {x0 x1 x2 : Option zV} {st : List zV} {M : zM} {i v : Int} {r : Nat} : uX3_resemble R 30 [x0, x1, x2] (.inl v :: .inl i :: .inr (.inr r) :: st) M ↔ zwrite 0 r i (uX3_resemble R 31 [x0, x1, x2] st (zup M r i v)) := zU_step dX3_resemble_30 (Or.inl rfl)
theorem dX3_resemble_31 : decode cX3_resemble 31 = .ok (.aload_n 0, 1) := by decide +kernel
theorem rX3_resemble_31 {R : zP} {x1 x2 : Option zV} {st : List zV} {M : zM} {a : Nat} : uX3_resemble R 31 [some (.inr (.inr a)), x1, x2] st M ↔ uX3_resemble R 32 [some (.inr (.inr a)), x1, x2] (.inr (.inr a) :: st) M := zU_step dX3_resemble_31 (Or.inl rfl)
theorem dX3_resemble_32 : decode cX3_resemble 32 = .ok (.getfield 18, 3) := by decide +kernel
theorem rX3_resemble_32 {R : zP} {x0 x1 x2 : Option zV} {st : List zV} {M : zM} {r : Nat} : uX3_resemble R 32 [x0, x1, x2] (.inr (.inr r) :: st) M ↔ zgetx fX3 18 r M (fun v => uX3_resemble R 35 [x0, x1, x2] (v :: st) M) := zU_step dX3_resemble_32 (Or.inl rfl)
theorem dX3_resemble_35 : decode cX3_resemble 35 = .ok (.iload_n 2, 1) := by decide +kernel
theorem rX3_resemble_35 {R : zP} {x0 x1 : Option zV} {st : List zV} {M : zM} {a : Int} : uX3_resemble R 35 [x0, x1, some (.inl a)] st M ↔ uX3_resemble R 36 [x0, x1, some (.inl a)] (.inl a :: st) M := zU_step dX3_resemble_35 (Or.inl rfl)
theorem dX3_resemble_36 : decode cX3_resemble 36 = .ok (.aload_n 1, 1) := by decide +kernel
theorem rX3_resemble_36 {R : zP} {x0 x2 : Option zV} {st : List zV} {M : zM} {a : Nat} : uX3_resemble R 36 [x0, some (.inr (.inr a)), x2] st M ↔ uX3_resemble R 37 [x0, some (.inr (.inr a)), x2] (.inr (.inr a) :: st) M := zU_step dX3_resemble_36 (Or.inl rfl)
theorem dX3_resemble_37 : decode cX3_resemble 37 = .ok (.getfield 18, 3) := by decide +kernel
theorem rX3_resemble_37 {R : zP} {x0 x1 x2 : Option zV} {st : List zV} {M : zM} {r : Nat} : uX3_resemble R 37 [x0, x1, x2] (.inr (.inr r) :: st) M ↔ zgetx fX3 18 r M (fun v => uX3_resemble R 40 [x0, x1, x2] (v :: st) M) := zU_step dX3_resemble_37 (Or.inl rfl)
theorem dX3_resemble_40 : decode cX3_resemble 40 = .ok (.iload_n 2, 1) := by decide +kernel
theorem rX3_resemble_40 {R : zP} {x0 x1 : Option zV} {st : List zV} {M : zM} {a : Int} : uX3_resemble R 40 [x0, x1, some (.inl a)] st M ↔ uX3_resemble R 41 [x0, x1, some (.inl a)] (.inl a :: st) M := zU_step dX3_resemble_40 (Or.inl rfl)
theorem dX3_resemble_41 : decode cX3_resemble 41 = .ok (.iaload, 1) := by decide +kernel
theorem rX3_resemble_41 {R : zP} {x0 x1 x2 : Option zV} {st : List zV} {M : zM} {i : Int} {r : Nat} : uX3_resemble R 41 [x0, x1, x2] (.inl i :: .inr (.inr r) :: st) M ↔ zread fX3 0 r M i (fun v => uX3_resemble R 42 [x0, x1, x2] (.inl v :: st) M) := zU_step dX3_resemble_41 (Or.inl rfl)
theorem dX3_resemble_42 : decode cX3_resemble 42 = .ok (.iastore, 1) := by decide +kernel
theorem rX3_resemble_42 {R : zP} {x0 x1 x2 : Option zV} {st : List zV} {M : zM} {i v : Int} {r : Nat} : uX3_resemble R 42 [x0, x1, x2] (.inl v :: .inl i :: .inr (.inr r) :: st) M ↔ zwrite 0 r i (uX3_resemble R 43 [x0, x1, x2] st (zup M r i v)) := zU_step dX3_resemble_42 (Or.inl rfl)
theorem dX3_resemble_43 : decode cX3_resemble 43 = .ok (.iinc 2 1, 3) := by decide +kernel
theorem rX3_resemble_43 {R : zP} {x0 : Option zV} {st : List zV} {M : zM} {a : Int} {y : Nat} : uX3_resemble R 43 [x0, some (.inr (.inr y)), some (.inl a)] st M ↔ uX3_resemble R 46 [x0, some (.inr (.inr y)), some (.inl (a + (1)))] st M := Iff.trans (zU_step dX3_resemble_43 (Or.inl rfl)) ⟨fun h => h.2, fun h => ⟨show 2 < 3 by decide, h⟩⟩
theorem rX3_resemble_43z {R : zP} {x0 x1 : Option zV} {st : List zV} {M : zM} {a : Int} : uX3_resemble R 43 [x0, x1, some (.inl a)] st M ↔ uX3_resemble R 46 [x0, zkeep x1, some (.inl (a + (1)))] st M := Iff.trans (zU_step dX3_resemble_43 (Or.inl rfl)) ⟨fun h => h.2, fun h => ⟨show 2 < 3 by decide, h⟩⟩
theorem dX3_resemble_46 : decode cX3_resemble 46 = .ok (.goto (-44), 3) := by decide +kernel
theorem rX3_resemble_46 {R : zP} {x0 x1 x2 : Option zV} {st : List zV} {M : zM} : uX3_resemble R 46 [x0, x1, x2] st M ↔ uX3_resemble R 2 [x0, x1, x2] st M := Iff.trans (zU_step dX3_resemble_46 (Or.inl rfl)) ⟨fun h => h.2, fun h => ⟨by decide, h⟩⟩
theorem dX3_resemble_49 : decode cX3_resemble 49 = .ok (.aload_n 0, 1) := by decide +kernel
theorem rX3_resemble_49 {R : zP} {x1 x2 : Option zV} {st : List zV} {M : zM} {a : Nat} : uX3_resemble R 49 [some (.inr (.inr a)), x1, x2] st M ↔ uX3_resemble R 50 [some (.inr (.inr a)), x1, x2] (.inr (.inr a) :: st) M := zU_step dX3_resemble_49 (Or.inl rfl)
theorem dX3_resemble_50 : decode cX3_resemble 50 = .ok (.aload_n 1, 1) := by decide +kernel
theorem rX3_resemble_50 {R : zP} {x0 x2 : Option zV} {st : List zV} {M : zM} {a : Nat} : uX3_resemble R 50 [x0, some (.inr (.inr a)), x2] st M ↔ uX3_resemble R 51 [x0, some (.inr (.inr a)), x2] (.inr (.inr a) :: st) M := zU_step dX3_resemble_50 (Or.inl rfl)
theorem dX3_resemble_51 : decode cX3_resemble 51 = .ok (.getfield 21, 3) := by decide +kernel
theorem rX3_resemble_51 {R : zP} {x0 x1 x2 : Option zV} {st : List zV} {M : zM} {r : Nat} : uX3_resemble R 51 [x0, x1, x2] (.inr (.inr r) :: st) M ↔ zgetx fX3 21 r M (fun v => uX3_resemble R 54 [x0, x1, x2] (v :: st) M) := zU_step dX3_resemble_51 (Or.inl rfl)
theorem dX3_resemble_54 : decode cX3_resemble 54 = .ok (.putfield 21, 3) := by decide +kernel
theorem rX3_resemble_54 {R : zP} {x0 x1 x2 : Option zV} {st : List zV} {M : zM} {r : Nat} {v : zV} : uX3_resemble R 54 [x0, x1, x2] (v :: .inr (.inr r) :: st) M ↔ zputx fX3 21 r M v (fun M => uX3_resemble R 57 [x0, x1, x2] st M) := zU_step dX3_resemble_54 (Or.inl rfl)
theorem dX3_resemble_57 : decode cX3_resemble 57 = .ok (.aload_n 0, 1) := by decide +kernel
theorem rX3_resemble_57 {R : zP} {x1 x2 : Option zV} {st : List zV} {M : zM} {a : Nat} : uX3_resemble R 57 [some (.inr (.inr a)), x1, x2] st M ↔ uX3_resemble R 58 [some (.inr (.inr a)), x1, x2] (.inr (.inr a) :: st) M := zU_step dX3_resemble_57 (Or.inl rfl)
theorem dX3_resemble_58 : decode cX3_resemble 58 = .ok (.aload_n 1, 1) := by decide +kernel
theorem rX3_resemble_58 {R : zP} {x0 x2 : Option zV} {st : List zV} {M : zM} {a : Nat} : uX3_resemble R 58 [x0, some (.inr (.inr a)), x2] st M ↔ uX3_resemble R 59 [x0, some (.inr (.inr a)), x2] (.inr (.inr a) :: st) M := zU_step dX3_resemble_58 (Or.inl rfl)
theorem dX3_resemble_59 : decode cX3_resemble 59 = .ok (.getfield 25, 3) := by decide +kernel
theorem rX3_resemble_59 {R : zP} {x0 x1 x2 : Option zV} {st : List zV} {M : zM} {r : Nat} : uX3_resemble R 59 [x0, x1, x2] (.inr (.inr r) :: st) M ↔ zgetx fX3 25 r M (fun v => uX3_resemble R 62 [x0, x1, x2] (v :: st) M) := zU_step dX3_resemble_59 (Or.inl rfl)
theorem dX3_resemble_62 : decode cX3_resemble 62 = .ok (.putfield 25, 3) := by decide +kernel
theorem rX3_resemble_62 {R : zP} {x0 x1 x2 : Option zV} {st : List zV} {M : zM} {r : Nat} {v : zV} : uX3_resemble R 62 [x0, x1, x2] (v :: .inr (.inr r) :: st) M ↔ zputx fX3 25 r M v (fun M => uX3_resemble R 65 [x0, x1, x2] st M) := zU_step dX3_resemble_62 (Or.inl rfl)
theorem dX3_resemble_65 : decode cX3_resemble 65 = .ok (.aload_n 0, 1) := by decide +kernel
theorem rX3_resemble_65 {R : zP} {x1 x2 : Option zV} {st : List zV} {M : zM} {a : Nat} : uX3_resemble R 65 [some (.inr (.inr a)), x1, x2] st M ↔ uX3_resemble R 66 [some (.inr (.inr a)), x1, x2] (.inr (.inr a) :: st) M := zU_step dX3_resemble_65 (Or.inl rfl)
theorem dX3_resemble_66 : decode cX3_resemble 66 = .ok (.aload_n 1, 1) := by decide +kernel
theorem rX3_resemble_66 {R : zP} {x0 x2 : Option zV} {st : List zV} {M : zM} {a : Nat} : uX3_resemble R 66 [x0, some (.inr (.inr a)), x2] st M ↔ uX3_resemble R 67 [x0, some (.inr (.inr a)), x2] (.inr (.inr a) :: st) M := zU_step dX3_resemble_66 (Or.inl rfl)
theorem dX3_resemble_67 : decode cX3_resemble 67 = .ok (.getfield 28, 3) := by decide +kernel
theorem rX3_resemble_67 {R : zP} {x0 x1 x2 : Option zV} {st : List zV} {M : zM} {r : Nat} : uX3_resemble R 67 [x0, x1, x2] (.inr (.inr r) :: st) M ↔ zgetx fX3 28 r M (fun v => uX3_resemble R 70 [x0, x1, x2] (v :: st) M) := zU_step dX3_resemble_67 (Or.inl rfl)
theorem dX3_resemble_70 : decode cX3_resemble 70 = .ok (.putfield 28, 3) := by decide +kernel
theorem rX3_resemble_70 {R : zP} {x0 x1 x2 : Option zV} {st : List zV} {M : zM} {r : Nat} {v : zV} : uX3_resemble R 70 [x0, x1, x2] (v :: .inr (.inr r) :: st) M ↔ zputx fX3 28 r M v (fun M => uX3_resemble R 73 [x0, x1, x2] st M) := zU_step dX3_resemble_70 (Or.inl rfl)
theorem dX3_resemble_73 : decode cX3_resemble 73 = .ok (.return_, 1) := by decide +kernel
theorem rX3_resemble_73 {R : zP} {x0 x1 x2 : Option zV} {M : zM} : uX3_resemble R 73 [x0, x1, x2] [] M ↔ R none M := Iff.trans (zU_step dX3_resemble_73 (Or.inl rfl)) ⟨fun h => h.2.2, fun h => ⟨rfl, rfl, h⟩⟩
theorem eX3_resemble {R : zP} {M : zM} {a0 : Nat} {p0 : Nat} : tX3_resemble [.inr (.inr a0), .inr (.inr p0)] M R ↔ uX3_resemble R 0 [some (.inr (.inr a0)), some (.inr (.inr p0)), none] [] M := ⟨fun h => h.2, fun h => ⟨show 2 ≤ 3 by decide, h⟩⟩
def uX3_drink (R : zP) : zK := zU fX3 vX3_drink cX3_drink R
theorem dX3_drink_0 : decode cX3_drink 0 = .ok (.iload_n 2, 1) := by decide +kernel
theorem rX3_drink_0 {R : zP} {x0 x1 x3 x4 x5 x6 x7 x8 : Option zV} {st : List zV} {M : zM} {a : Int} : uX3_drink R 0 [x0, x1, some (.inl a), x3, x4, x5, x6, x7, x8] st M ↔ uX3_drink R 1 [x0, x1, some (.inl a), x3, x4, x5, x6, x7, x8] (.inl a :: st) M := zU_step dX3_drink_0 (Or.inl rfl)
theorem dX3_drink_1 : decode cX3_drink 1 = .ok (.ifCond .lt 11, 3) := by decide +kernel
theorem rX3_drink_1 {R : zP} {x0 x1 x2 x3 x4 x5 x6 x7 x8 : Option zV} {st : List zV} {M : zM} {a : Int} : uX3_drink R 1 [x0, x1, x2, x3, x4, x5, x6, x7, x8] (.inl a :: st) M ↔ (zIR a ∧ if a < 0 then uX3_drink R 12 [x0, x1, x2, x3, x4, x5, x6, x7, x8] st M else uX3_drink R 4 [x0, x1, x2, x3, x4, x5, x6, x7, x8] st M) := Iff.trans (zU_step dX3_drink_1 (Or.inl rfl)) ⟨fun h => ⟨h.1.1, (zite (c := a < 0)).mpr h.2⟩, fun h => ⟨⟨h.1, by decide⟩, (zite (c := a < 0)).mp h.2⟩⟩
theorem dX3_drink_4 : decode cX3_drink 4 = .ok (.iload_n 2, 1) := by decide +kernel
theorem rX3_drink_4 {R : zP} {x0 x1 x3 x4 x5 x6 x7 x8 : Option zV} {st : List zV} {M : zM} {a : Int} : uX3_drink R 4 [x0, x1, some (.inl a), x3, x4, x5, x6, x7, x8] st M ↔ uX3_drink R 5 [x0, x1, some (.inl a), x3, x4, x5, x6, x7, x8] (.inl a :: st) M := zU_step dX3_drink_4 (Or.inl rfl)
theorem dX3_drink_5 : decode cX3_drink 5 = .ok (.aload_n 1, 1) := by decide +kernel
theorem rX3_drink_5 {R : zP} {x0 x2 x3 x4 x5 x6 x7 x8 : Option zV} {st : List zV} {M : zM} {a : Nat} : uX3_drink R 5 [x0, some (.inr (.inr a)), x2, x3, x4, x5, x6, x7, x8] st M ↔ uX3_drink R 6 [x0, some (.inr (.inr a)), x2, x3, x4, x5, x6, x7, x8] (.inr (.inr a) :: st) M := zU_step dX3_drink_5 (Or.inl rfl)
theorem dX3_drink_6 : decode cX3_drink 6 = .ok (.getfield 50, 3) := by decide +kernel
theorem rX3_drink_6 {R : zP} {x0 x1 x2 x3 x4 x5 x6 x7 x8 : Option zV} {st : List zV} {M : zM} {r : Nat} : uX3_drink R 6 [x0, x1, x2, x3, x4, x5, x6, x7, x8] (.inr (.inr r) :: st) M ↔ zgetx fX3 50 r M (fun v => uX3_drink R 9 [x0, x1, x2, x3, x4, x5, x6, x7, x8] (v :: st) M) := zU_step dX3_drink_6 (Or.inl rfl)
theorem dX3_drink_9 : decode cX3_drink 9 = .ok (.if_icmp .lt 4, 3) := by decide +kernel
theorem rX3_drink_9 {R : zP} {x0 x1 x2 x3 x4 x5 x6 x7 x8 : Option zV} {st : List zV} {M : zM} {a b : Int} : uX3_drink R 9 [x0, x1, x2, x3, x4, x5, x6, x7, x8] (.inl b :: .inl a :: st) M ↔ ((zIR a ∧ zIR b) ∧ if a < b then uX3_drink R 13 [x0, x1, x2, x3, x4, x5, x6, x7, x8] st M else uX3_drink R 12 [x0, x1, x2, x3, x4, x5, x6, x7, x8] st M) := Iff.trans (zU_step dX3_drink_9 (Or.inl rfl)) ⟨fun h => ⟨⟨h.1.1, h.1.2.1⟩, (zite (c := a < b)).mpr h.2⟩, fun h => ⟨⟨h.1.1, h.1.2, by decide⟩, (zite (c := a < b)).mp h.2⟩⟩
theorem dX3_drink_12 : decode cX3_drink 12 = .ok (.return_, 1) := by decide +kernel
theorem rX3_drink_12 {R : zP} {x0 x1 x2 x3 x4 x5 x6 x7 x8 : Option zV} {M : zM} : uX3_drink R 12 [x0, x1, x2, x3, x4, x5, x6, x7, x8] [] M ↔ R none M := Iff.trans (zU_step dX3_drink_12 (Or.inl rfl)) ⟨fun h => h.2.2, fun h => ⟨rfl, rfl, h⟩⟩
theorem dX3_drink_13 : decode cX3_drink 13 = .ok (.iload_n 2, 1) := by decide +kernel
theorem rX3_drink_13 {R : zP} {x0 x1 x3 x4 x5 x6 x7 x8 : Option zV} {st : List zV} {M : zM} {a : Int} : uX3_drink R 13 [x0, x1, some (.inl a), x3, x4, x5, x6, x7, x8] st M ↔ uX3_drink R 14 [x0, x1, some (.inl a), x3, x4, x5, x6, x7, x8] (.inl a :: st) M := zU_step dX3_drink_13 (Or.inl rfl)
theorem dX3_drink_14 : decode cX3_drink 14 = .ok (.iconst 5, 1) := by decide +kernel
theorem rX3_drink_14 {R : zP} {x0 x1 x2 x3 x4 x5 x6 x7 x8 : Option zV} {st : List zV} {M : zM} : uX3_drink R 14 [x0, x1, x2, x3, x4, x5, x6, x7, x8] st M ↔ uX3_drink R 15 [x0, x1, x2, x3, x4, x5, x6, x7, x8] (.inl (5) :: st) M := zU_step dX3_drink_14 (Or.inl rfl)
theorem dX3_drink_15 : decode cX3_drink 15 = .ok (.imul, 1) := by decide +kernel
theorem rX3_drink_15 {R : zP} {x0 x1 x2 x3 x4 x5 x6 x7 x8 : Option zV} {st : List zV} {M : zM} {a b : Int} : uX3_drink R 15 [x0, x1, x2, x3, x4, x5, x6, x7, x8] (.inl b :: .inl a :: st) M ↔ uX3_drink R 16 [x0, x1, x2, x3, x4, x5, x6, x7, x8] (.inl (a * b) :: st) M := zU_step dX3_drink_15 (Or.inl rfl)
theorem dX3_drink_16 : decode cX3_drink 16 = .ok (.istore_n 3, 1) := by decide +kernel
theorem rX3_drink_16 {R : zP} {x0 x1 x3 x4 x5 x6 x7 x8 : Option zV} {st : List zV} {M : zM} {a : Int} {y : Int} : uX3_drink R 16 [x0, x1, some (.inl y), x3, x4, x5, x6, x7, x8] (.inl a :: st) M ↔ uX3_drink R 17 [x0, x1, some (.inl y), some (.inl a), x4, x5, x6, x7, x8] st M := Iff.trans (zU_step dX3_drink_16 (Or.inl rfl)) ⟨fun h => h.2, fun h => ⟨show 3 < 9 by decide, h⟩⟩
theorem rX3_drink_16z {R : zP} {x0 x1 x2 x3 x4 x5 x6 x7 x8 : Option zV} {st : List zV} {M : zM} {a : Int} : uX3_drink R 16 [x0, x1, x2, x3, x4, x5, x6, x7, x8] (.inl a :: st) M ↔ uX3_drink R 17 [x0, x1, zkeep x2, some (.inl a), x4, x5, x6, x7, x8] st M := Iff.trans (zU_step dX3_drink_16 (Or.inl rfl)) ⟨fun h => h.2, fun h => ⟨show 3 < 9 by decide, h⟩⟩
theorem dX3_drink_17 : decode cX3_drink 17 = .ok (.aload_n 0, 1) := by decide +kernel
theorem rX3_drink_17 {R : zP} {x1 x2 x3 x4 x5 x6 x7 x8 : Option zV} {st : List zV} {M : zM} {a : Nat} : uX3_drink R 17 [some (.inr (.inr a)), x1, x2, x3, x4, x5, x6, x7, x8] st M ↔ uX3_drink R 18 [some (.inr (.inr a)), x1, x2, x3, x4, x5, x6, x7, x8] (.inr (.inr a) :: st) M := zU_step dX3_drink_17 (Or.inl rfl)
theorem dX3_drink_18 : decode cX3_drink 18 = .ok (.getfield 21, 3) := by decide +kernel
theorem rX3_drink_18 {R : zP} {x0 x1 x2 x3 x4 x5 x6 x7 x8 : Option zV} {st : List zV} {M : zM} {r : Nat} : uX3_drink R 18 [x0, x1, x2, x3, x4, x5, x6, x7, x8] (.inr (.inr r) :: st) M ↔ zgetx fX3 21 r M (fun v => uX3_drink R 21 [x0, x1, x2, x3, x4, x5, x6, x7, x8] (v :: st) M) := zU_step dX3_drink_18 (Or.inl rfl)
theorem dX3_drink_21 : decode cX3_drink 21 = .ok (.iconst 2, 1) := by decide +kernel
theorem rX3_drink_21 {R : zP} {x0 x1 x2 x3 x4 x5 x6 x7 x8 : Option zV} {st : List zV} {M : zM} : uX3_drink R 21 [x0, x1, x2, x3, x4, x5, x6, x7, x8] st M ↔ uX3_drink R 22 [x0, x1, x2, x3, x4, x5, x6, x7, x8] (.inl (2) :: st) M := zU_step dX3_drink_21 (Or.inl rfl)
theorem dX3_drink_22 : decode cX3_drink 22 = .ok (.aload_n 1, 1) := by decide +kernel
theorem rX3_drink_22 {R : zP} {x0 x2 x3 x4 x5 x6 x7 x8 : Option zV} {st : List zV} {M : zM} {a : Nat} : uX3_drink R 22 [x0, some (.inr (.inr a)), x2, x3, x4, x5, x6, x7, x8] st M ↔ uX3_drink R 23 [x0, some (.inr (.inr a)), x2, x3, x4, x5, x6, x7, x8] (.inr (.inr a) :: st) M := zU_step dX3_drink_22 (Or.inl rfl)
theorem dX3_drink_23 : decode cX3_drink 23 = .ok (.getfield 31, 3) := by decide +kernel
theorem rX3_drink_23 {R : zP} {x0 x1 x2 x3 x4 x5 x6 x7 x8 : Option zV} {st : List zV} {M : zM} {r : Nat} : uX3_drink R 23 [x0, x1, x2, x3, x4, x5, x6, x7, x8] (.inr (.inr r) :: st) M ↔ zgetx fX3 31 r M (fun v => uX3_drink R 26 [x0, x1, x2, x3, x4, x5, x6, x7, x8] (v :: st) M) := zU_step dX3_drink_23 (Or.inl rfl)
theorem dX3_drink_26 : decode cX3_drink 26 = .ok (.iload_n 3, 1) := by decide +kernel
theorem rX3_drink_26 {R : zP} {x0 x1 x2 x4 x5 x6 x7 x8 : Option zV} {st : List zV} {M : zM} {a : Int} : uX3_drink R 26 [x0, x1, x2, some (.inl a), x4, x5, x6, x7, x8] st M ↔ uX3_drink R 27 [x0, x1, x2, some (.inl a), x4, x5, x6, x7, x8] (.inl a :: st) M := zU_step dX3_drink_26 (Or.inl rfl)
theorem dX3_drink_27 : decode cX3_drink 27 = .ok (.iaload, 1) := by decide +kernel
theorem rX3_drink_27 {R : zP} {x0 x1 x2 x3 x4 x5 x6 x7 x8 : Option zV} {st : List zV} {M : zM} {i : Int} {r : Nat} : uX3_drink R 27 [x0, x1, x2, x3, x4, x5, x6, x7, x8] (.inl i :: .inr (.inr r) :: st) M ↔ zread fX3 0 r M i (fun v => uX3_drink R 28 [x0, x1, x2, x3, x4, x5, x6, x7, x8] (.inl v :: st) M) := zU_step dX3_drink_27 (Or.inl rfl)
theorem dX3_drink_28 : decode cX3_drink 28 = .ok (.imul, 1) := by decide +kernel
theorem rX3_drink_28 {R : zP} {x0 x1 x2 x3 x4 x5 x6 x7 x8 : Option zV} {st : List zV} {M : zM} {a b : Int} : uX3_drink R 28 [x0, x1, x2, x3, x4, x5, x6, x7, x8] (.inl b :: .inl a :: st) M ↔ uX3_drink R 29 [x0, x1, x2, x3, x4, x5, x6, x7, x8] (.inl (a * b) :: st) M := zU_step dX3_drink_28 (Or.inl rfl)
theorem dX3_drink_29 : decode cX3_drink 29 = .ok (.iadd, 1) := by decide +kernel
theorem rX3_drink_29 {R : zP} {x0 x1 x2 x3 x4 x5 x6 x7 x8 : Option zV} {st : List zV} {M : zM} {a b : Int} : uX3_drink R 29 [x0, x1, x2, x3, x4, x5, x6, x7, x8] (.inl b :: .inl a :: st) M ↔ uX3_drink R 30 [x0, x1, x2, x3, x4, x5, x6, x7, x8] (.inl (a + b) :: st) M := zU_step dX3_drink_29 (Or.inl rfl)
theorem dX3_drink_30 : decode cX3_drink 30 = .ok (.istore 4, 2) := by decide +kernel
theorem rX3_drink_30 {R : zP} {x0 x1 x2 x4 x5 x6 x7 x8 : Option zV} {st : List zV} {M : zM} {a : Int} {y : Int} : uX3_drink R 30 [x0, x1, x2, some (.inl y), x4, x5, x6, x7, x8] (.inl a :: st) M ↔ uX3_drink R 32 [x0, x1, x2, some (.inl y), some (.inl a), x5, x6, x7, x8] st M := Iff.trans (zU_step dX3_drink_30 (Or.inl rfl)) ⟨fun h => h.2, fun h => ⟨show 4 < 9 by decide, h⟩⟩
theorem rX3_drink_30z {R : zP} {x0 x1 x2 x3 x4 x5 x6 x7 x8 : Option zV} {st : List zV} {M : zM} {a : Int} : uX3_drink R 30 [x0, x1, x2, x3, x4, x5, x6, x7, x8] (.inl a :: st) M ↔ uX3_drink R 32 [x0, x1, x2, zkeep x3, some (.inl a), x5, x6, x7, x8] st M := Iff.trans (zU_step dX3_drink_30 (Or.inl rfl)) ⟨fun h => h.2, fun h => ⟨show 4 < 9 by decide, h⟩⟩
theorem dX3_drink_32 : decode cX3_drink 32 = .ok (.aload_n 0, 1) := by decide +kernel
theorem rX3_drink_32 {R : zP} {x1 x2 x3 x4 x5 x6 x7 x8 : Option zV} {st : List zV} {M : zM} {a : Nat} : uX3_drink R 32 [some (.inr (.inr a)), x1, x2, x3, x4, x5, x6, x7, x8] st M ↔ uX3_drink R 33 [some (.inr (.inr a)), x1, x2, x3, x4, x5, x6, x7, x8] (.inr (.inr a) :: st) M := zU_step dX3_drink_32 (Or.inl rfl)
theorem dX3_drink_33 : decode cX3_drink 33 = .ok (.getfield 28, 3) := by decide +kernel
theorem rX3_drink_33 {R : zP} {x0 x1 x2 x3 x4 x5 x6 x7 x8 : Option zV} {st : List zV} {M : zM} {r : Nat} : uX3_drink R 33 [x0, x1, x2, x3, x4, x5, x6, x7, x8] (.inr (.inr r) :: st) M ↔ zgetx fX3 28 r M (fun v => uX3_drink R 36 [x0, x1, x2, x3, x4, x5, x6, x7, x8] (v :: st) M) := zU_step dX3_drink_33 (Or.inl rfl)
theorem dX3_drink_36 : decode cX3_drink 36 = .ok (.istore 5, 2) := by decide +kernel
theorem rX3_drink_36 {R : zP} {x0 x1 x2 x3 x5 x6 x7 x8 : Option zV} {st : List zV} {M : zM} {a : Int} {y : Int} : uX3_drink R 36 [x0, x1, x2, x3, some (.inl y), x5, x6, x7, x8] (.inl a :: st) M ↔ uX3_drink R 38 [x0, x1, x2, x3, some (.inl y), some (.inl a), x6, x7, x8] st M := Iff.trans (zU_step dX3_drink_36 (Or.inl rfl)) ⟨fun h => h.2, fun h => ⟨show 5 < 9 by decide, h⟩⟩
theorem rX3_drink_36z {R : zP} {x0 x1 x2 x3 x4 x5 x6 x7 x8 : Option zV} {st : List zV} {M : zM} {a : Int} : uX3_drink R 36 [x0, x1, x2, x3, x4, x5, x6, x7, x8] (.inl a :: st) M ↔ uX3_drink R 38 [x0, x1, x2, x3, zkeep x4, some (.inl a), x6, x7, x8] st M := Iff.trans (zU_step dX3_drink_36 (Or.inl rfl)) ⟨fun h => h.2, fun h => ⟨show 5 < 9 by decide, h⟩⟩
theorem dX3_drink_38 : decode cX3_drink 38 = .ok (.iconst 0, 1) := by decide +kernel
theorem rX3_drink_38 {R : zP} {x0 x1 x2 x3 x4 x5 x6 x7 x8 : Option zV} {st : List zV} {M : zM} : uX3_drink R 38 [x0, x1, x2, x3, x4, x5, x6, x7, x8] st M ↔ uX3_drink R 39 [x0, x1, x2, x3, x4, x5, x6, x7, x8] (.inl (0) :: st) M := zU_step dX3_drink_38 (Or.inl rfl)
theorem dX3_drink_39 : decode cX3_drink 39 = .ok (.istore 6, 2) := by decide +kernel
theorem rX3_drink_39 {R : zP} {x0 x1 x2 x3 x4 x6 x7 x8 : Option zV} {st : List zV} {M : zM} {a : Int} {y : Int} : uX3_drink R 39 [x0, x1, x2, x3, x4, some (.inl y), x6, x7, x8] (.inl a :: st) M ↔ uX3_drink R 41 [x0, x1, x2, x3, x4, some (.inl y), some (.inl a), x7, x8] st M := Iff.trans (zU_step dX3_drink_39 (Or.inl rfl)) ⟨fun h => h.2, fun h => ⟨show 6 < 9 by decide, h⟩⟩
theorem rX3_drink_39z {R : zP} {x0 x1 x2 x3 x4 x5 x6 x7 x8 : Option zV} {st : List zV} {M : zM} {a : Int} : uX3_drink R 39 [x0, x1, x2, x3, x4, x5, x6, x7, x8] (.inl a :: st) M ↔ uX3_drink R 41 [x0, x1, x2, x3, x4, zkeep x5, some (.inl a), x7, x8] st M := Iff.trans (zU_step dX3_drink_39 (Or.inl rfl)) ⟨fun h => h.2, fun h => ⟨show 6 < 9 by decide, h⟩⟩
theorem dX3_drink_41 : decode cX3_drink 41 = .ok (.iload 6, 2) := by decide +kernel
theorem rX3_drink_41 {R : zP} {x0 x1 x2 x3 x4 x5 x7 x8 : Option zV} {st : List zV} {M : zM} {a : Int} : uX3_drink R 41 [x0, x1, x2, x3, x4, x5, some (.inl a), x7, x8] st M ↔ uX3_drink R 43 [x0, x1, x2, x3, x4, x5, some (.inl a), x7, x8] (.inl a :: st) M := zU_step dX3_drink_41 (Or.inl rfl)
theorem dX3_drink_43 : decode cX3_drink 43 = .ok (.iconst 4, 1) := by decide +kernel
theorem rX3_drink_43 {R : zP} {x0 x1 x2 x3 x4 x5 x6 x7 x8 : Option zV} {st : List zV} {M : zM} : uX3_drink R 43 [x0, x1, x2, x3, x4, x5, x6, x7, x8] st M ↔ uX3_drink R 44 [x0, x1, x2, x3, x4, x5, x6, x7, x8] (.inl (4) :: st) M := zU_step dX3_drink_43 (Or.inl rfl)
theorem dX3_drink_44 : decode cX3_drink 44 = .ok (.if_icmp .ge 170, 3) := by decide +kernel
theorem rX3_drink_44 {R : zP} {x0 x1 x2 x3 x4 x5 x6 x7 x8 : Option zV} {st : List zV} {M : zM} {a b : Int} : uX3_drink R 44 [x0, x1, x2, x3, x4, x5, x6, x7, x8] (.inl b :: .inl a :: st) M ↔ ((zIR a ∧ zIR b) ∧ if b ≤ a then uX3_drink R 214 [x0, x1, x2, x3, x4, x5, x6, x7, x8] st M else uX3_drink R 47 [x0, x1, x2, x3, x4, x5, x6, x7, x8] st M) := Iff.trans (zU_step dX3_drink_44 (Or.inl rfl)) ⟨fun h => ⟨⟨h.1.1, h.1.2.1⟩, (zite (c := b ≤ a)).mpr h.2⟩, fun h => ⟨⟨h.1.1, h.1.2, by decide⟩, (zite (c := b ≤ a)).mp h.2⟩⟩
theorem dX3_drink_47 : decode cX3_drink 47 = .ok (.aload_n 1, 1) := by decide +kernel
theorem rX3_drink_47 {R : zP} {x0 x2 x3 x4 x5 x6 x7 x8 : Option zV} {st : List zV} {M : zM} {a : Nat} : uX3_drink R 47 [x0, some (.inr (.inr a)), x2, x3, x4, x5, x6, x7, x8] st M ↔ uX3_drink R 48 [x0, some (.inr (.inr a)), x2, x3, x4, x5, x6, x7, x8] (.inr (.inr a) :: st) M := zU_step dX3_drink_47 (Or.inl rfl)
theorem dX3_drink_48 : decode cX3_drink 48 = .ok (.getfield 31, 3) := by decide +kernel
theorem rX3_drink_48 {R : zP} {x0 x1 x2 x3 x4 x5 x6 x7 x8 : Option zV} {st : List zV} {M : zM} {r : Nat} : uX3_drink R 48 [x0, x1, x2, x3, x4, x5, x6, x7, x8] (.inr (.inr r) :: st) M ↔ zgetx fX3 31 r M (fun v => uX3_drink R 51 [x0, x1, x2, x3, x4, x5, x6, x7, x8] (v :: st) M) := zU_step dX3_drink_48 (Or.inl rfl)
theorem dX3_drink_51 : decode cX3_drink 51 = .ok (.iload_n 3, 1) := by decide +kernel
theorem rX3_drink_51 {R : zP} {x0 x1 x2 x4 x5 x6 x7 x8 : Option zV} {st : List zV} {M : zM} {a : Int} : uX3_drink R 51 [x0, x1, x2, some (.inl a), x4, x5, x6, x7, x8] st M ↔ uX3_drink R 52 [x0, x1, x2, some (.inl a), x4, x5, x6, x7, x8] (.inl a :: st) M := zU_step dX3_drink_51 (Or.inl rfl)
theorem dX3_drink_52 : decode cX3_drink 52 = .ok (.iconst 1, 1) := by decide +kernel
theorem rX3_drink_52 {R : zP} {x0 x1 x2 x3 x4 x5 x6 x7 x8 : Option zV} {st : List zV} {M : zM} : uX3_drink R 52 [x0, x1, x2, x3, x4, x5, x6, x7, x8] st M ↔ uX3_drink R 53 [x0, x1, x2, x3, x4, x5, x6, x7, x8] (.inl (1) :: st) M := zU_step dX3_drink_52 (Or.inl rfl)
theorem dX3_drink_53 : decode cX3_drink 53 = .ok (.iadd, 1) := by decide +kernel
theorem rX3_drink_53 {R : zP} {x0 x1 x2 x3 x4 x5 x6 x7 x8 : Option zV} {st : List zV} {M : zM} {a b : Int} : uX3_drink R 53 [x0, x1, x2, x3, x4, x5, x6, x7, x8] (.inl b :: .inl a :: st) M ↔ uX3_drink R 54 [x0, x1, x2, x3, x4, x5, x6, x7, x8] (.inl (a + b) :: st) M := zU_step dX3_drink_53 (Or.inl rfl)
theorem dX3_drink_54 : decode cX3_drink 54 = .ok (.iload 6, 2) := by decide +kernel
theorem rX3_drink_54 {R : zP} {x0 x1 x2 x3 x4 x5 x7 x8 : Option zV} {st : List zV} {M : zM} {a : Int} : uX3_drink R 54 [x0, x1, x2, x3, x4, x5, some (.inl a), x7, x8] st M ↔ uX3_drink R 56 [x0, x1, x2, x3, x4, x5, some (.inl a), x7, x8] (.inl a :: st) M := zU_step dX3_drink_54 (Or.inl rfl)
theorem dX3_drink_56 : decode cX3_drink 56 = .ok (.iadd, 1) := by decide +kernel
theorem rX3_drink_56 {R : zP} {x0 x1 x2 x3 x4 x5 x6 x7 x8 : Option zV} {st : List zV} {M : zM} {a b : Int} : uX3_drink R 56 [x0, x1, x2, x3, x4, x5, x6, x7, x8] (.inl b :: .inl a :: st) M ↔ uX3_drink R 57 [x0, x1, x2, x3, x4, x5, x6, x7, x8] (.inl (a + b) :: st) M := zU_step dX3_drink_56 (Or.inl rfl)
theorem dX3_drink_57 : decode cX3_drink 57 = .ok (.iaload, 1) := by decide +kernel
theorem rX3_drink_57 {R : zP} {x0 x1 x2 x3 x4 x5 x6 x7 x8 : Option zV} {st : List zV} {M : zM} {i : Int} {r : Nat} : uX3_drink R 57 [x0, x1, x2, x3, x4, x5, x6, x7, x8] (.inl i :: .inr (.inr r) :: st) M ↔ zread fX3 0 r M i (fun v => uX3_drink R 58 [x0, x1, x2, x3, x4, x5, x6, x7, x8] (.inl v :: st) M) := zU_step dX3_drink_57 (Or.inl rfl)
theorem dX3_drink_58 : decode cX3_drink 58 = .ok (.istore 7, 2) := by decide +kernel
theorem rX3_drink_58 {R : zP} {x0 x1 x2 x3 x4 x5 x7 x8 : Option zV} {st : List zV} {M : zM} {a : Int} {y : Int} : uX3_drink R 58 [x0, x1, x2, x3, x4, x5, some (.inl y), x7, x8] (.inl a :: st) M ↔ uX3_drink R 60 [x0, x1, x2, x3, x4, x5, some (.inl y), some (.inl a), x8] st M := Iff.trans (zU_step dX3_drink_58 (Or.inl rfl)) ⟨fun h => h.2, fun h => ⟨show 7 < 9 by decide, h⟩⟩
theorem rX3_drink_58z {R : zP} {x0 x1 x2 x3 x4 x5 x6 x7 x8 : Option zV} {st : List zV} {M : zM} {a : Int} : uX3_drink R 58 [x0, x1, x2, x3, x4, x5, x6, x7, x8] (.inl a :: st) M ↔ uX3_drink R 60 [x0, x1, x2, x3, x4, x5, zkeep x6, some (.inl a), x8] st M := Iff.trans (zU_step dX3_drink_58 (Or.inl rfl)) ⟨fun h => h.2, fun h => ⟨show 7 < 9 by decide, h⟩⟩
theorem dX3_drink_60 : decode cX3_drink 60 = .ok (.iload 7, 2) := by decide +kernel
theorem rX3_drink_60 {R : zP} {x0 x1 x2 x3 x4 x5 x6 x8 : Option zV} {st : List zV} {M : zM} {a : Int} : uX3_drink R 60 [x0, x1, x2, x3, x4, x5, x6, some (.inl a), x8] st M ↔ uX3_drink R 62 [x0, x1, x2, x3, x4, x5, x6, some (.inl a), x8] (.inl a :: st) M := zU_step dX3_drink_60 (Or.inl rfl)
theorem dX3_drink_62 : decode cX3_drink 62 = .ok (.aload_n 0, 1) := by decide +kernel
theorem rX3_drink_62 {R : zP} {x1 x2 x3 x4 x5 x6 x7 x8 : Option zV} {st : List zV} {M : zM} {a : Nat} : uX3_drink R 62 [some (.inr (.inr a)), x1, x2, x3, x4, x5, x6, x7, x8] st M ↔ uX3_drink R 63 [some (.inr (.inr a)), x1, x2, x3, x4, x5, x6, x7, x8] (.inr (.inr a) :: st) M := zU_step dX3_drink_62 (Or.inl rfl)
theorem dX3_drink_63 : decode cX3_drink 63 = .ok (.getfield 9, 3) := by decide +kernel
theorem rX3_drink_63 {R : zP} {x0 x1 x2 x3 x4 x5 x6 x7 x8 : Option zV} {st : List zV} {M : zM} {r : Nat} : uX3_drink R 63 [x0, x1, x2, x3, x4, x5, x6, x7, x8] (.inr (.inr r) :: st) M ↔ zgetx fX3 9 r M (fun v => uX3_drink R 66 [x0, x1, x2, x3, x4, x5, x6, x7, x8] (v :: st) M) := zU_step dX3_drink_63 (Or.inl rfl)
theorem dX3_drink_66 : decode cX3_drink 66 = .ok (.iload 6, 2) := by decide +kernel
theorem rX3_drink_66 {R : zP} {x0 x1 x2 x3 x4 x5 x7 x8 : Option zV} {st : List zV} {M : zM} {a : Int} : uX3_drink R 66 [x0, x1, x2, x3, x4, x5, some (.inl a), x7, x8] st M ↔ uX3_drink R 68 [x0, x1, x2, x3, x4, x5, some (.inl a), x7, x8] (.inl a :: st) M := zU_step dX3_drink_66 (Or.inl rfl)
theorem dX3_drink_68 : decode cX3_drink 68 = .ok (.iaload, 1) := by decide +kernel
theorem rX3_drink_68 {R : zP} {x0 x1 x2 x3 x4 x5 x6 x7 x8 : Option zV} {st : List zV} {M : zM} {i : Int} {r : Nat} : uX3_drink R 68 [x0, x1, x2, x3, x4, x5, x6, x7, x8] (.inl i :: .inr (.inr r) :: st) M ↔ zread fX3 0 r M i (fun v => uX3_drink R 69 [x0, x1, x2, x3, x4, x5, x6, x7, x8] (.inl v :: st) M) := zU_step dX3_drink_68 (Or.inl rfl)
theorem dX3_drink_69 : decode cX3_drink 69 = .ok (.isub, 1) := by decide +kernel
theorem rX3_drink_69 {R : zP} {x0 x1 x2 x3 x4 x5 x6 x7 x8 : Option zV} {st : List zV} {M : zM} {a b : Int} : uX3_drink R 69 [x0, x1, x2, x3, x4, x5, x6, x7, x8] (.inl b :: .inl a :: st) M ↔ uX3_drink R 70 [x0, x1, x2, x3, x4, x5, x6, x7, x8] (.inl (a - b) :: st) M := zU_step dX3_drink_69 (Or.inl rfl)
theorem dX3_drink_70 : decode cX3_drink 70 = .ok (.istore 8, 2) := by decide +kernel
theorem rX3_drink_70 {R : zP} {x0 x1 x2 x3 x4 x5 x6 x8 : Option zV} {st : List zV} {M : zM} {a : Int} {y : Int} : uX3_drink R 70 [x0, x1, x2, x3, x4, x5, x6, some (.inl y), x8] (.inl a :: st) M ↔ uX3_drink R 72 [x0, x1, x2, x3, x4, x5, x6, some (.inl y), some (.inl a)] st M := Iff.trans (zU_step dX3_drink_70 (Or.inl rfl)) ⟨fun h => h.2, fun h => ⟨show 8 < 9 by decide, h⟩⟩
theorem rX3_drink_70z {R : zP} {x0 x1 x2 x3 x4 x5 x6 x7 x8 : Option zV} {st : List zV} {M : zM} {a : Int} : uX3_drink R 70 [x0, x1, x2, x3, x4, x5, x6, x7, x8] (.inl a :: st) M ↔ uX3_drink R 72 [x0, x1, x2, x3, x4, x5, x6, zkeep x7, some (.inl a)] st M := Iff.trans (zU_step dX3_drink_70 (Or.inl rfl)) ⟨fun h => h.2, fun h => ⟨show 8 < 9 by decide, h⟩⟩
theorem dX3_drink_72 : decode cX3_drink 72 = .ok (.iload 8, 2) := by decide +kernel
theorem rX3_drink_72 {R : zP} {x0 x1 x2 x3 x4 x5 x6 x7 : Option zV} {st : List zV} {M : zM} {a : Int} : uX3_drink R 72 [x0, x1, x2, x3, x4, x5, x6, x7, some (.inl a)] st M ↔ uX3_drink R 74 [x0, x1, x2, x3, x4, x5, x6, x7, some (.inl a)] (.inl a :: st) M := zU_step dX3_drink_72 (Or.inl rfl)
theorem dX3_drink_74 : decode cX3_drink 74 = .ok (.iload 4, 2) := by decide +kernel
theorem rX3_drink_74 {R : zP} {x0 x1 x2 x3 x5 x6 x7 x8 : Option zV} {st : List zV} {M : zM} {a : Int} : uX3_drink R 74 [x0, x1, x2, x3, some (.inl a), x5, x6, x7, x8] st M ↔ uX3_drink R 76 [x0, x1, x2, x3, some (.inl a), x5, x6, x7, x8] (.inl a :: st) M := zU_step dX3_drink_74 (Or.inl rfl)
theorem dX3_drink_76 : decode cX3_drink 76 = .ok (.if_icmp .gt 11, 3) := by decide +kernel
theorem rX3_drink_76 {R : zP} {x0 x1 x2 x3 x4 x5 x6 x7 x8 : Option zV} {st : List zV} {M : zM} {a b : Int} : uX3_drink R 76 [x0, x1, x2, x3, x4, x5, x6, x7, x8] (.inl b :: .inl a :: st) M ↔ ((zIR a ∧ zIR b) ∧ if b < a then uX3_drink R 87 [x0, x1, x2, x3, x4, x5, x6, x7, x8] st M else uX3_drink R 79 [x0, x1, x2, x3, x4, x5, x6, x7, x8] st M) := Iff.trans (zU_step dX3_drink_76 (Or.inl rfl)) ⟨fun h => ⟨⟨h.1.1, h.1.2.1⟩, (zite (c := b < a)).mpr h.2⟩, fun h => ⟨⟨h.1.1, h.1.2, by decide⟩, (zite (c := b < a)).mp h.2⟩⟩
theorem dX3_drink_79 : decode cX3_drink 79 = .ok (.iload 8, 2) := by decide +kernel
theorem rX3_drink_79 {R : zP} {x0 x1 x2 x3 x4 x5 x6 x7 : Option zV} {st : List zV} {M : zM} {a : Int} : uX3_drink R 79 [x0, x1, x2, x3, x4, x5, x6, x7, some (.inl a)] st M ↔ uX3_drink R 81 [x0, x1, x2, x3, x4, x5, x6, x7, some (.inl a)] (.inl a :: st) M := zU_step dX3_drink_79 (Or.inl rfl)
theorem dX3_drink_81 : decode cX3_drink 81 = .ok (.ineg, 1) := by decide +kernel
theorem rX3_drink_81 {R : zP} {x0 x1 x2 x3 x4 x5 x6 x7 x8 : Option zV} {st : List zV} {M : zM} {a : Int} : uX3_drink R 81 [x0, x1, x2, x3, x4, x5, x6, x7, x8] (.inl a :: st) M ↔ uX3_drink R 82 [x0, x1, x2, x3, x4, x5, x6, x7, x8] (.inl (-a) :: st) M := zU_step dX3_drink_81 (Or.inl rfl)
theorem dX3_drink_82 : decode cX3_drink 82 = .ok (.iload 4, 2) := by decide +kernel
theorem rX3_drink_82 {R : zP} {x0 x1 x2 x3 x5 x6 x7 x8 : Option zV} {st : List zV} {M : zM} {a : Int} : uX3_drink R 82 [x0, x1, x2, x3, some (.inl a), x5, x6, x7, x8] st M ↔ uX3_drink R 84 [x0, x1, x2, x3, some (.inl a), x5, x6, x7, x8] (.inl a :: st) M := zU_step dX3_drink_82 (Or.inl rfl)
theorem dX3_drink_84 : decode cX3_drink 84 = .ok (.if_icmp .le 16, 3) := by decide +kernel
theorem rX3_drink_84 {R : zP} {x0 x1 x2 x3 x4 x5 x6 x7 x8 : Option zV} {st : List zV} {M : zM} {a b : Int} : uX3_drink R 84 [x0, x1, x2, x3, x4, x5, x6, x7, x8] (.inl b :: .inl a :: st) M ↔ ((zIR a ∧ zIR b) ∧ if a ≤ b then uX3_drink R 100 [x0, x1, x2, x3, x4, x5, x6, x7, x8] st M else uX3_drink R 87 [x0, x1, x2, x3, x4, x5, x6, x7, x8] st M) := Iff.trans (zU_step dX3_drink_84 (Or.inl rfl)) ⟨fun h => ⟨⟨h.1.1, h.1.2.1⟩, (zite (c := a ≤ b)).mpr h.2⟩, fun h => ⟨⟨h.1.1, h.1.2, by decide⟩, (zite (c := a ≤ b)).mp h.2⟩⟩
theorem dX3_drink_87 : decode cX3_drink 87 = .ok (.aload_n 0, 1) := by decide +kernel
theorem rX3_drink_87 {R : zP} {x1 x2 x3 x4 x5 x6 x7 x8 : Option zV} {st : List zV} {M : zM} {a : Nat} : uX3_drink R 87 [some (.inr (.inr a)), x1, x2, x3, x4, x5, x6, x7, x8] st M ↔ uX3_drink R 88 [some (.inr (.inr a)), x1, x2, x3, x4, x5, x6, x7, x8] (.inr (.inr a) :: st) M := zU_step dX3_drink_87 (Or.inl rfl)
theorem dX3_drink_88 : decode cX3_drink 88 = .ok (.dup, 1) := by decide +kernel
theorem rX3_drink_88 {R : zP} {x0 x1 x2 x3 x4 x5 x6 x7 x8 : Option zV} {st : List zV} {M : zM} {a : Nat} : uX3_drink R 88 [x0, x1, x2, x3, x4, x5, x6, x7, x8] (.inr (.inr a) :: st) M ↔ uX3_drink R 89 [x0, x1, x2, x3, x4, x5, x6, x7, x8] (.inr (.inr a) :: .inr (.inr a) :: st) M := zU_step dX3_drink_88 (Or.inl rfl)
theorem dX3_drink_89 : decode cX3_drink 89 = .ok (.getfield 28, 3) := by decide +kernel
theorem rX3_drink_89 {R : zP} {x0 x1 x2 x3 x4 x5 x6 x7 x8 : Option zV} {st : List zV} {M : zM} {r : Nat} : uX3_drink R 89 [x0, x1, x2, x3, x4, x5, x6, x7, x8] (.inr (.inr r) :: st) M ↔ zgetx fX3 28 r M (fun v => uX3_drink R 92 [x0, x1, x2, x3, x4, x5, x6, x7, x8] (v :: st) M) := zU_step dX3_drink_89 (Or.inl rfl)
theorem dX3_drink_92 : decode cX3_drink 92 = .ok (.iconst 1, 1) := by decide +kernel
theorem rX3_drink_92 {R : zP} {x0 x1 x2 x3 x4 x5 x6 x7 x8 : Option zV} {st : List zV} {M : zM} : uX3_drink R 92 [x0, x1, x2, x3, x4, x5, x6, x7, x8] st M ↔ uX3_drink R 93 [x0, x1, x2, x3, x4, x5, x6, x7, x8] (.inl (1) :: st) M := zU_step dX3_drink_92 (Or.inl rfl)
theorem dX3_drink_93 : decode cX3_drink 93 = .ok (.iadd, 1) := by decide +kernel
theorem rX3_drink_93 {R : zP} {x0 x1 x2 x3 x4 x5 x6 x7 x8 : Option zV} {st : List zV} {M : zM} {a b : Int} : uX3_drink R 93 [x0, x1, x2, x3, x4, x5, x6, x7, x8] (.inl b :: .inl a :: st) M ↔ uX3_drink R 94 [x0, x1, x2, x3, x4, x5, x6, x7, x8] (.inl (a + b) :: st) M := zU_step dX3_drink_93 (Or.inl rfl)
theorem dX3_drink_94 : decode cX3_drink 94 = .ok (.putfield 28, 3) := by decide +kernel
theorem rX3_drink_94 {R : zP} {x0 x1 x2 x3 x4 x5 x6 x7 x8 : Option zV} {st : List zV} {M : zM} {r : Nat} {v : zV} : uX3_drink R 94 [x0, x1, x2, x3, x4, x5, x6, x7, x8] (v :: .inr (.inr r) :: st) M ↔ zputx fX3 28 r M v (fun M => uX3_drink R 97 [x0, x1, x2, x3, x4, x5, x6, x7, x8] st M) := zU_step dX3_drink_94 (Or.inl rfl)
theorem dX3_drink_97 : decode cX3_drink 97 = .ok (.goto 111, 3) := by decide +kernel
theorem rX3_drink_97 {R : zP} {x0 x1 x2 x3 x4 x5 x6 x7 x8 : Option zV} {st : List zV} {M : zM} : uX3_drink R 97 [x0, x1, x2, x3, x4, x5, x6, x7, x8] st M ↔ uX3_drink R 208 [x0, x1, x2, x3, x4, x5, x6, x7, x8] st M := Iff.trans (zU_step dX3_drink_97 (Or.inl rfl)) ⟨fun h => h.2, fun h => ⟨by decide, h⟩⟩
theorem dX3_drink_100 : decode cX3_drink 100 = .ok (.aload_n 0, 1) := by decide +kernel
theorem rX3_drink_100 {R : zP} {x1 x2 x3 x4 x5 x6 x7 x8 : Option zV} {st : List zV} {M : zM} {a : Nat} : uX3_drink R 100 [some (.inr (.inr a)), x1, x2, x3, x4, x5, x6, x7, x8] st M ↔ uX3_drink R 101 [some (.inr (.inr a)), x1, x2, x3, x4, x5, x6, x7, x8] (.inr (.inr a) :: st) M := zU_step dX3_drink_100 (Or.inl rfl)
theorem dX3_drink_101 : decode cX3_drink 101 = .ok (.getfield 15, 3) := by decide +kernel
theorem rX3_drink_101 {R : zP} {x0 x1 x2 x3 x4 x5 x6 x7 x8 : Option zV} {st : List zV} {M : zM} {r : Nat} : uX3_drink R 101 [x0, x1, x2, x3, x4, x5, x6, x7, x8] (.inr (.inr r) :: st) M ↔ zgetx fX3 15 r M (fun v => uX3_drink R 104 [x0, x1, x2, x3, x4, x5, x6, x7, x8] (v :: st) M) := zU_step dX3_drink_101 (Or.inl rfl)
theorem dX3_drink_104 : decode cX3_drink 104 = .ok (.iload 6, 2) := by decide +kernel
theorem rX3_drink_104 {R : zP} {x0 x1 x2 x3 x4 x5 x7 x8 : Option zV} {st : List zV} {M : zM} {a : Int} : uX3_drink R 104 [x0, x1, x2, x3, x4, x5, some (.inl a), x7, x8] st M ↔ uX3_drink R 106 [x0, x1, x2, x3, x4, x5, some (.inl a), x7, x8] (.inl a :: st) M := zU_step dX3_drink_104 (Or.inl rfl)
theorem dX3_drink_106 : decode cX3_drink 106 = .ok (.iload 7, 2) := by decide +kernel
theorem rX3_drink_106 {R : zP} {x0 x1 x2 x3 x4 x5 x6 x8 : Option zV} {st : List zV} {M : zM} {a : Int} : uX3_drink R 106 [x0, x1, x2, x3, x4, x5, x6, some (.inl a), x8] st M ↔ uX3_drink R 108 [x0, x1, x2, x3, x4, x5, x6, some (.inl a), x8] (.inl a :: st) M := zU_step dX3_drink_106 (Or.inl rfl)
theorem dX3_drink_108 : decode cX3_drink 108 = .ok (.aload_n 0, 1) := by decide +kernel
theorem rX3_drink_108 {R : zP} {x1 x2 x3 x4 x5 x6 x7 x8 : Option zV} {st : List zV} {M : zM} {a : Nat} : uX3_drink R 108 [some (.inr (.inr a)), x1, x2, x3, x4, x5, x6, x7, x8] st M ↔ uX3_drink R 109 [some (.inr (.inr a)), x1, x2, x3, x4, x5, x6, x7, x8] (.inr (.inr a) :: st) M := zU_step dX3_drink_108 (Or.inl rfl)
theorem dX3_drink_109 : decode cX3_drink 109 = .ok (.getfield 15, 3) := by decide +kernel
theorem rX3_drink_109 {R : zP} {x0 x1 x2 x3 x4 x5 x6 x7 x8 : Option zV} {st : List zV} {M : zM} {r : Nat} : uX3_drink R 109 [x0, x1, x2, x3, x4, x5, x6, x7, x8] (.inr (.inr r) :: st) M ↔ zgetx fX3 15 r M (fun v => uX3_drink R 112 [x0, x1, x2, x3, x4, x5, x6, x7, x8] (v :: st) M) := zU_step dX3_drink_109 (Or.inl rfl)
theorem dX3_drink_112 : decode cX3_drink 112 = .ok (.iload 6, 2) := by decide +kernel
theorem rX3_drink_112 {R : zP} {x0 x1 x2 x3 x4 x5 x7 x8 : Option zV} {st : List zV} {M : zM} {a : Int} : uX3_drink R 112 [x0, x1, x2, x3, x4, x5, some (.inl a), x7, x8] st M ↔ uX3_drink R 114 [x0, x1, x2, x3, x4, x5, some (.inl a), x7, x8] (.inl a :: st) M := zU_step dX3_drink_112 (Or.inl rfl)
theorem dX3_drink_114 : decode cX3_drink 114 = .ok (.iaload, 1) := by decide +kernel
theorem rX3_drink_114 {R : zP} {x0 x1 x2 x3 x4 x5 x6 x7 x8 : Option zV} {st : List zV} {M : zM} {i : Int} {r : Nat} : uX3_drink R 114 [x0, x1, x2, x3, x4, x5, x6, x7, x8] (.inl i :: .inr (.inr r) :: st) M ↔ zread fX3 0 r M i (fun v => uX3_drink R 115 [x0, x1, x2, x3, x4, x5, x6, x7, x8] (.inl v :: st) M) := zU_step dX3_drink_114 (Or.inl rfl)
theorem dX3_drink_115 : decode cX3_drink 115 = .ok (.if_icmp .ge 8, 3) := by decide +kernel
theorem rX3_drink_115 {R : zP} {x0 x1 x2 x3 x4 x5 x6 x7 x8 : Option zV} {st : List zV} {M : zM} {a b : Int} : uX3_drink R 115 [x0, x1, x2, x3, x4, x5, x6, x7, x8] (.inl b :: .inl a :: st) M ↔ ((zIR a ∧ zIR b) ∧ if b ≤ a then uX3_drink R 123 [x0, x1, x2, x3, x4, x5, x6, x7, x8] st M else uX3_drink R 118 [x0, x1, x2, x3, x4, x5, x6, x7, x8] st M) := Iff.trans (zU_step dX3_drink_115 (Or.inl rfl)) ⟨fun h => ⟨⟨h.1.1, h.1.2.1⟩, (zite (c := b ≤ a)).mpr h.2⟩, fun h => ⟨⟨h.1.1, h.1.2, by decide⟩, (zite (c := b ≤ a)).mp h.2⟩⟩
theorem dX3_drink_118 : decode cX3_drink 118 = .ok (.iload 7, 2) := by decide +kernel
theorem rX3_drink_118 {R : zP} {x0 x1 x2 x3 x4 x5 x6 x8 : Option zV} {st : List zV} {M : zM} {a : Int} : uX3_drink R 118 [x0, x1, x2, x3, x4, x5, x6, some (.inl a), x8] st M ↔ uX3_drink R 120 [x0, x1, x2, x3, x4, x5, x6, some (.inl a), x8] (.inl a :: st) M := zU_step dX3_drink_118 (Or.inl rfl)
theorem dX3_drink_120 : decode cX3_drink 120 = .ok (.goto 10, 3) := by decide +kernel
theorem rX3_drink_120 {R : zP} {x0 x1 x2 x3 x4 x5 x6 x7 x8 : Option zV} {st : List zV} {M : zM} : uX3_drink R 120 [x0, x1, x2, x3, x4, x5, x6, x7, x8] st M ↔ uX3_drink R 130 [x0, x1, x2, x3, x4, x5, x6, x7, x8] st M := Iff.trans (zU_step dX3_drink_120 (Or.inl rfl)) ⟨fun h => h.2, fun h => ⟨by decide, h⟩⟩
theorem dX3_drink_123 : decode cX3_drink 123 = .ok (.aload_n 0, 1) := by decide +kernel
theorem rX3_drink_123 {R : zP} {x1 x2 x3 x4 x5 x6 x7 x8 : Option zV} {st : List zV} {M : zM} {a : Nat} : uX3_drink R 123 [some (.inr (.inr a)), x1, x2, x3, x4, x5, x6, x7, x8] st M ↔ uX3_drink R 124 [some (.inr (.inr a)), x1, x2, x3, x4, x5, x6, x7, x8] (.inr (.inr a) :: st) M := zU_step dX3_drink_123 (Or.inl rfl)
theorem dX3_drink_124 : decode cX3_drink 124 = .ok (.getfield 15, 3) := by decide +kernel
theorem rX3_drink_124 {R : zP} {x0 x1 x2 x3 x4 x5 x6 x7 x8 : Option zV} {st : List zV} {M : zM} {r : Nat} : uX3_drink R 124 [x0, x1, x2, x3, x4, x5, x6, x7, x8] (.inr (.inr r) :: st) M ↔ zgetx fX3 15 r M (fun v => uX3_drink R 127 [x0, x1, x2, x3, x4, x5, x6, x7, x8] (v :: st) M) := zU_step dX3_drink_124 (Or.inl rfl)
theorem dX3_drink_127 : decode cX3_drink 127 = .ok (.iload 6, 2) := by decide +kernel
theorem rX3_drink_127 {R : zP} {x0 x1 x2 x3 x4 x5 x7 x8 : Option zV} {st : List zV} {M : zM} {a : Int} : uX3_drink R 127 [x0, x1, x2, x3, x4, x5, some (.inl a), x7, x8] st M ↔ uX3_drink R 129 [x0, x1, x2, x3, x4, x5, some (.inl a), x7, x8] (.inl a :: st) M := zU_step dX3_drink_127 (Or.inl rfl)
theorem dX3_drink_129 : decode cX3_drink 129 = .ok (.iaload, 1) := by decide +kernel
theorem rX3_drink_129 {R : zP} {x0 x1 x2 x3 x4 x5 x6 x7 x8 : Option zV} {st : List zV} {M : zM} {i : Int} {r : Nat} : uX3_drink R 129 [x0, x1, x2, x3, x4, x5, x6, x7, x8] (.inl i :: .inr (.inr r) :: st) M ↔ zread fX3 0 r M i (fun v => uX3_drink R 130 [x0, x1, x2, x3, x4, x5, x6, x7, x8] (.inl v :: st) M) := zU_step dX3_drink_129 (Or.inl rfl)
theorem dX3_drink_130 : decode cX3_drink 130 = .ok (.iastore, 1) := by decide +kernel
theorem rX3_drink_130 {R : zP} {x0 x1 x2 x3 x4 x5 x6 x7 x8 : Option zV} {st : List zV} {M : zM} {i v : Int} {r : Nat} : uX3_drink R 130 [x0, x1, x2, x3, x4, x5, x6, x7, x8] (.inl v :: .inl i :: .inr (.inr r) :: st) M ↔ zwrite 0 r i (uX3_drink R 131 [x0, x1, x2, x3, x4, x5, x6, x7, x8] st (zup M r i v)) := zU_step dX3_drink_130 (Or.inl rfl)
theorem dX3_drink_131 : decode cX3_drink 131 = .ok (.aload_n 0, 1) := by decide +kernel
theorem rX3_drink_131 {R : zP} {x1 x2 x3 x4 x5 x6 x7 x8 : Option zV} {st : List zV} {M : zM} {a : Nat} : uX3_drink R 131 [some (.inr (.inr a)), x1, x2, x3, x4, x5, x6, x7, x8] st M ↔ uX3_drink R 132 [some (.inr (.inr a)), x1, x2, x3, x4, x5, x6, x7, x8] (.inr (.inr a) :: st) M := zU_step dX3_drink_131 (Or.inl rfl)
theorem dX3_drink_132 : decode cX3_drink 132 = .ok (.getfield 18, 3) := by decide +kernel
theorem rX3_drink_132 {R : zP} {x0 x1 x2 x3 x4 x5 x6 x7 x8 : Option zV} {st : List zV} {M : zM} {r : Nat} : uX3_drink R 132 [x0, x1, x2, x3, x4, x5, x6, x7, x8] (.inr (.inr r) :: st) M ↔ zgetx fX3 18 r M (fun v => uX3_drink R 135 [x0, x1, x2, x3, x4, x5, x6, x7, x8] (v :: st) M) := zU_step dX3_drink_132 (Or.inl rfl)
theorem dX3_drink_135 : decode cX3_drink 135 = .ok (.iload 6, 2) := by decide +kernel
theorem rX3_drink_135 {R : zP} {x0 x1 x2 x3 x4 x5 x7 x8 : Option zV} {st : List zV} {M : zM} {a : Int} : uX3_drink R 135 [x0, x1, x2, x3, x4, x5, some (.inl a), x7, x8] st M ↔ uX3_drink R 137 [x0, x1, x2, x3, x4, x5, some (.inl a), x7, x8] (.inl a :: st) M := zU_step dX3_drink_135 (Or.inl rfl)
theorem dX3_drink_137 : decode cX3_drink 137 = .ok (.iload 7, 2) := by decide +kernel
theorem rX3_drink_137 {R : zP} {x0 x1 x2 x3 x4 x5 x6 x8 : Option zV} {st : List zV} {M : zM} {a : Int} : uX3_drink R 137 [x0, x1, x2, x3, x4, x5, x6, some (.inl a), x8] st M ↔ uX3_drink R 139 [x0, x1, x2, x3, x4, x5, x6, some (.inl a), x8] (.inl a :: st) M := zU_step dX3_drink_137 (Or.inl rfl)
theorem dX3_drink_139 : decode cX3_drink 139 = .ok (.aload_n 0, 1) := by decide +kernel
theorem rX3_drink_139 {R : zP} {x1 x2 x3 x4 x5 x6 x7 x8 : Option zV} {st : List zV} {M : zM} {a : Nat} : uX3_drink R 139 [some (.inr (.inr a)), x1, x2, x3, x4, x5, x6, x7, x8] st M ↔ uX3_drink R 140 [some (.inr (.inr a)), x1, x2, x3, x4, x5, x6, x7, x8] (.inr (.inr a) :: st) M := zU_step dX3_drink_139 (Or.inl rfl)
theorem dX3_drink_140 : decode cX3_drink 140 = .ok (.getfield 18, 3) := by decide +kernel
theorem rX3_drink_140 {R : zP} {x0 x1 x2 x3 x4 x5 x6 x7 x8 : Option zV} {st : List zV} {M : zM} {r : Nat} : uX3_drink R 140 [x0, x1, x2, x3, x4, x5, x6, x7, x8] (.inr (.inr r) :: st) M ↔ zgetx fX3 18 r M (fun v => uX3_drink R 143 [x0, x1, x2, x3, x4, x5, x6, x7, x8] (v :: st) M) := zU_step dX3_drink_140 (Or.inl rfl)
theorem dX3_drink_143 : decode cX3_drink 143 = .ok (.iload 6, 2) := by decide +kernel
theorem rX3_drink_143 {R : zP} {x0 x1 x2 x3 x4 x5 x7 x8 : Option zV} {st : List zV} {M : zM} {a : Int} : uX3_drink R 143 [x0, x1, x2, x3, x4, x5, some (.inl a), x7, x8] st M ↔ uX3_drink R 145 [x0, x1, x2, x3, x4, x5, some (.inl a), x7, x8] (.inl a :: st) M := zU_step dX3_drink_143 (Or.inl rfl)
theorem dX3_drink_145 : decode cX3_drink 145 = .ok (.iaload, 1) := by decide +kernel
theorem rX3_drink_145 {R : zP} {x0 x1 x2 x3 x4 x5 x6 x7 x8 : Option zV} {st : List zV} {M : zM} {i : Int} {r : Nat} : uX3_drink R 145 [x0, x1, x2, x3, x4, x5, x6, x7, x8] (.inl i :: .inr (.inr r) :: st) M ↔ zread fX3 0 r M i (fun v => uX3_drink R 146 [x0, x1, x2, x3, x4, x5, x6, x7, x8] (.inl v :: st) M) := zU_step dX3_drink_145 (Or.inl rfl)
theorem dX3_drink_146 : decode cX3_drink 146 = .ok (.if_icmp .le 8, 3) := by decide +kernel
theorem rX3_drink_146 {R : zP} {x0 x1 x2 x3 x4 x5 x6 x7 x8 : Option zV} {st : List zV} {M : zM} {a b : Int} : uX3_drink R 146 [x0, x1, x2, x3, x4, x5, x6, x7, x8] (.inl b :: .inl a :: st) M ↔ ((zIR a ∧ zIR b) ∧ if a ≤ b then uX3_drink R 154 [x0, x1, x2, x3, x4, x5, x6, x7, x8] st M else uX3_drink R 149 [x0, x1, x2, x3, x4, x5, x6, x7, x8] st M) := Iff.trans (zU_step dX3_drink_146 (Or.inl rfl)) ⟨fun h => ⟨⟨h.1.1, h.1.2.1⟩, (zite (c := a ≤ b)).mpr h.2⟩, fun h => ⟨⟨h.1.1, h.1.2, by decide⟩, (zite (c := a ≤ b)).mp h.2⟩⟩
theorem dX3_drink_149 : decode cX3_drink 149 = .ok (.iload 7, 2) := by decide +kernel
theorem rX3_drink_149 {R : zP} {x0 x1 x2 x3 x4 x5 x6 x8 : Option zV} {st : List zV} {M : zM} {a : Int} : uX3_drink R 149 [x0, x1, x2, x3, x4, x5, x6, some (.inl a), x8] st M ↔ uX3_drink R 151 [x0, x1, x2, x3, x4, x5, x6, some (.inl a), x8] (.inl a :: st) M := zU_step dX3_drink_149 (Or.inl rfl)
theorem dX3_drink_151 : decode cX3_drink 151 = .ok (.goto 10, 3) := by decide +kernel
theorem rX3_drink_151 {R : zP} {x0 x1 x2 x3 x4 x5 x6 x7 x8 : Option zV} {st : List zV} {M : zM} : uX3_drink R 151 [x0, x1, x2, x3, x4, x5, x6, x7, x8] st M ↔ uX3_drink R 161 [x0, x1, x2, x3, x4, x5, x6, x7, x8] st M := Iff.trans (zU_step dX3_drink_151 (Or.inl rfl)) ⟨fun h => h.2, fun h => ⟨by decide, h⟩⟩
theorem dX3_drink_154 : decode cX3_drink 154 = .ok (.aload_n 0, 1) := by decide +kernel
theorem rX3_drink_154 {R : zP} {x1 x2 x3 x4 x5 x6 x7 x8 : Option zV} {st : List zV} {M : zM} {a : Nat} : uX3_drink R 154 [some (.inr (.inr a)), x1, x2, x3, x4, x5, x6, x7, x8] st M ↔ uX3_drink R 155 [some (.inr (.inr a)), x1, x2, x3, x4, x5, x6, x7, x8] (.inr (.inr a) :: st) M := zU_step dX3_drink_154 (Or.inl rfl)
theorem dX3_drink_155 : decode cX3_drink 155 = .ok (.getfield 18, 3) := by decide +kernel
theorem rX3_drink_155 {R : zP} {x0 x1 x2 x3 x4 x5 x6 x7 x8 : Option zV} {st : List zV} {M : zM} {r : Nat} : uX3_drink R 155 [x0, x1, x2, x3, x4, x5, x6, x7, x8] (.inr (.inr r) :: st) M ↔ zgetx fX3 18 r M (fun v => uX3_drink R 158 [x0, x1, x2, x3, x4, x5, x6, x7, x8] (v :: st) M) := zU_step dX3_drink_155 (Or.inl rfl)
theorem dX3_drink_158 : decode cX3_drink 158 = .ok (.iload 6, 2) := by decide +kernel
theorem rX3_drink_158 {R : zP} {x0 x1 x2 x3 x4 x5 x7 x8 : Option zV} {st : List zV} {M : zM} {a : Int} : uX3_drink R 158 [x0, x1, x2, x3, x4, x5, some (.inl a), x7, x8] st M ↔ uX3_drink R 160 [x0, x1, x2, x3, x4, x5, some (.inl a), x7, x8] (.inl a :: st) M := zU_step dX3_drink_158 (Or.inl rfl)
theorem dX3_drink_160 : decode cX3_drink 160 = .ok (.iaload, 1) := by decide +kernel
theorem rX3_drink_160 {R : zP} {x0 x1 x2 x3 x4 x5 x6 x7 x8 : Option zV} {st : List zV} {M : zM} {i : Int} {r : Nat} : uX3_drink R 160 [x0, x1, x2, x3, x4, x5, x6, x7, x8] (.inl i :: .inr (.inr r) :: st) M ↔ zread fX3 0 r M i (fun v => uX3_drink R 161 [x0, x1, x2, x3, x4, x5, x6, x7, x8] (.inl v :: st) M) := zU_step dX3_drink_160 (Or.inl rfl)
theorem dX3_drink_161 : decode cX3_drink 161 = .ok (.iastore, 1) := by decide +kernel
theorem rX3_drink_161 {R : zP} {x0 x1 x2 x3 x4 x5 x6 x7 x8 : Option zV} {st : List zV} {M : zM} {i v : Int} {r : Nat} : uX3_drink R 161 [x0, x1, x2, x3, x4, x5, x6, x7, x8] (.inl v :: .inl i :: .inr (.inr r) :: st) M ↔ zwrite 0 r i (uX3_drink R 162 [x0, x1, x2, x3, x4, x5, x6, x7, x8] st (zup M r i v)) := zU_step dX3_drink_161 (Or.inl rfl)
theorem dX3_drink_162 : decode cX3_drink 162 = .ok (.aload_n 0, 1) := by decide +kernel
theorem rX3_drink_162 {R : zP} {x1 x2 x3 x4 x5 x6 x7 x8 : Option zV} {st : List zV} {M : zM} {a : Nat} : uX3_drink R 162 [some (.inr (.inr a)), x1, x2, x3, x4, x5, x6, x7, x8] st M ↔ uX3_drink R 163 [some (.inr (.inr a)), x1, x2, x3, x4, x5, x6, x7, x8] (.inr (.inr a) :: st) M := zU_step dX3_drink_162 (Or.inl rfl)
theorem dX3_drink_163 : decode cX3_drink 163 = .ok (.getfield 9, 3) := by decide +kernel
theorem rX3_drink_163 {R : zP} {x0 x1 x2 x3 x4 x5 x6 x7 x8 : Option zV} {st : List zV} {M : zM} {r : Nat} : uX3_drink R 163 [x0, x1, x2, x3, x4, x5, x6, x7, x8] (.inr (.inr r) :: st) M ↔ zgetx fX3 9 r M (fun v => uX3_drink R 166 [x0, x1, x2, x3, x4, x5, x6, x7, x8] (v :: st) M) := zU_step dX3_drink_163 (Or.inl rfl)
theorem dX3_drink_166 : decode cX3_drink 166 = .ok (.iload 6, 2) := by decide +kernel
theorem rX3_drink_166 {R : zP} {x0 x1 x2 x3 x4 x5 x7 x8 : Option zV} {st : List zV} {M : zM} {a : Int} : uX3_drink R 166 [x0, x1, x2, x3, x4, x5, some (.inl a), x7, x8] st M ↔ uX3_drink R 168 [x0, x1, x2, x3, x4, x5, some (.inl a), x7, x8] (.inl a :: st) M := zU_step dX3_drink_166 (Or.inl rfl)
theorem dX3_drink_168 : decode cX3_drink 168 = .ok (.dup2, 1) := by decide +kernel
theorem rX3_drink_168 {R : zP} {x0 x1 x2 x3 x4 x5 x6 x7 x8 : Option zV} {st : List zV} {M : zM} {a : Int} {b : Nat} : uX3_drink R 168 [x0, x1, x2, x3, x4, x5, x6, x7, x8] (.inl a :: .inr (.inr b) :: st) M ↔ uX3_drink R 169 [x0, x1, x2, x3, x4, x5, x6, x7, x8] (.inl a :: .inr (.inr b) :: .inl a :: .inr (.inr b) :: st) M := zU_step dX3_drink_168 (Or.inl rfl)
theorem dX3_drink_169 : decode cX3_drink 169 = .ok (.iaload, 1) := by decide +kernel
theorem rX3_drink_169 {R : zP} {x0 x1 x2 x3 x4 x5 x6 x7 x8 : Option zV} {st : List zV} {M : zM} {i : Int} {r : Nat} : uX3_drink R 169 [x0, x1, x2, x3, x4, x5, x6, x7, x8] (.inl i :: .inr (.inr r) :: st) M ↔ zread fX3 0 r M i (fun v => uX3_drink R 170 [x0, x1, x2, x3, x4, x5, x6, x7, x8] (.inl v :: st) M) := zU_step dX3_drink_169 (Or.inl rfl)
theorem dX3_drink_170 : decode cX3_drink 170 = .ok (.iload 8, 2) := by decide +kernel
theorem rX3_drink_170 {R : zP} {x0 x1 x2 x3 x4 x5 x6 x7 : Option zV} {st : List zV} {M : zM} {a : Int} : uX3_drink R 170 [x0, x1, x2, x3, x4, x5, x6, x7, some (.inl a)] st M ↔ uX3_drink R 172 [x0, x1, x2, x3, x4, x5, x6, x7, some (.inl a)] (.inl a :: st) M := zU_step dX3_drink_170 (Or.inl rfl)
theorem dX3_drink_172 : decode cX3_drink 172 = .ok (.aload_n 0, 1) := by decide +kernel
theorem rX3_drink_172 {R : zP} {x1 x2 x3 x4 x5 x6 x7 x8 : Option zV} {st : List zV} {M : zM} {a : Nat} : uX3_drink R 172 [some (.inr (.inr a)), x1, x2, x3, x4, x5, x6, x7, x8] st M ↔ uX3_drink R 173 [some (.inr (.inr a)), x1, x2, x3, x4, x5, x6, x7, x8] (.inr (.inr a) :: st) M := zU_step dX3_drink_172 (Or.inl rfl)
theorem dX3_drink_173 : decode cX3_drink 173 = .ok (.getfield 25, 3) := by decide +kernel
theorem rX3_drink_173 {R : zP} {x0 x1 x2 x3 x4 x5 x6 x7 x8 : Option zV} {st : List zV} {M : zM} {r : Nat} : uX3_drink R 173 [x0, x1, x2, x3, x4, x5, x6, x7, x8] (.inr (.inr r) :: st) M ↔ zgetx fX3 25 r M (fun v => uX3_drink R 176 [x0, x1, x2, x3, x4, x5, x6, x7, x8] (v :: st) M) := zU_step dX3_drink_173 (Or.inl rfl)
theorem dX3_drink_176 : decode cX3_drink 176 = .ok (.if_icmp .le 10, 3) := by decide +kernel
theorem rX3_drink_176 {R : zP} {x0 x1 x2 x3 x4 x5 x6 x7 x8 : Option zV} {st : List zV} {M : zM} {a b : Int} : uX3_drink R 176 [x0, x1, x2, x3, x4, x5, x6, x7, x8] (.inl b :: .inl a :: st) M ↔ ((zIR a ∧ zIR b) ∧ if a ≤ b then uX3_drink R 186 [x0, x1, x2, x3, x4, x5, x6, x7, x8] st M else uX3_drink R 179 [x0, x1, x2, x3, x4, x5, x6, x7, x8] st M) := Iff.trans (zU_step dX3_drink_176 (Or.inl rfl)) ⟨fun h => ⟨⟨h.1.1, h.1.2.1⟩, (zite (c := a ≤ b)).mpr h.2⟩, fun h => ⟨⟨h.1.1, h.1.2, by decide⟩, (zite (c := a ≤ b)).mp h.2⟩⟩
theorem dX3_drink_179 : decode cX3_drink 179 = .ok (.aload_n 0, 1) := by decide +kernel
theorem rX3_drink_179 {R : zP} {x1 x2 x3 x4 x5 x6 x7 x8 : Option zV} {st : List zV} {M : zM} {a : Nat} : uX3_drink R 179 [some (.inr (.inr a)), x1, x2, x3, x4, x5, x6, x7, x8] st M ↔ uX3_drink R 180 [some (.inr (.inr a)), x1, x2, x3, x4, x5, x6, x7, x8] (.inr (.inr a) :: st) M := zU_step dX3_drink_179 (Or.inl rfl)
theorem dX3_drink_180 : decode cX3_drink 180 = .ok (.getfield 25, 3) := by decide +kernel
theorem rX3_drink_180 {R : zP} {x0 x1 x2 x3 x4 x5 x6 x7 x8 : Option zV} {st : List zV} {M : zM} {r : Nat} : uX3_drink R 180 [x0, x1, x2, x3, x4, x5, x6, x7, x8] (.inr (.inr r) :: st) M ↔ zgetx fX3 25 r M (fun v => uX3_drink R 183 [x0, x1, x2, x3, x4, x5, x6, x7, x8] (v :: st) M) := zU_step dX3_drink_180 (Or.inl rfl)
theorem dX3_drink_183 : decode cX3_drink 183 = .ok (.goto 23, 3) := by decide +kernel
theorem rX3_drink_183 {R : zP} {x0 x1 x2 x3 x4 x5 x6 x7 x8 : Option zV} {st : List zV} {M : zM} : uX3_drink R 183 [x0, x1, x2, x3, x4, x5, x6, x7, x8] st M ↔ uX3_drink R 206 [x0, x1, x2, x3, x4, x5, x6, x7, x8] st M := Iff.trans (zU_step dX3_drink_183 (Or.inl rfl)) ⟨fun h => h.2, fun h => ⟨by decide, h⟩⟩
theorem dX3_drink_186 : decode cX3_drink 186 = .ok (.iload 8, 2) := by decide +kernel
theorem rX3_drink_186 {R : zP} {x0 x1 x2 x3 x4 x5 x6 x7 : Option zV} {st : List zV} {M : zM} {a : Int} : uX3_drink R 186 [x0, x1, x2, x3, x4, x5, x6, x7, some (.inl a)] st M ↔ uX3_drink R 188 [x0, x1, x2, x3, x4, x5, x6, x7, some (.inl a)] (.inl a :: st) M := zU_step dX3_drink_186 (Or.inl rfl)
theorem dX3_drink_188 : decode cX3_drink 188 = .ok (.aload_n 0, 1) := by decide +kernel
theorem rX3_drink_188 {R : zP} {x1 x2 x3 x4 x5 x6 x7 x8 : Option zV} {st : List zV} {M : zM} {a : Nat} : uX3_drink R 188 [some (.inr (.inr a)), x1, x2, x3, x4, x5, x6, x7, x8] st M ↔ uX3_drink R 189 [some (.inr (.inr a)), x1, x2, x3, x4, x5, x6, x7, x8] (.inr (.inr a) :: st) M := zU_step dX3_drink_188 (Or.inl rfl)
theorem dX3_drink_189 : decode cX3_drink 189 = .ok (.getfield 25, 3) := by decide +kernel
theorem rX3_drink_189 {R : zP} {x0 x1 x2 x3 x4 x5 x6 x7 x8 : Option zV} {st : List zV} {M : zM} {r : Nat} : uX3_drink R 189 [x0, x1, x2, x3, x4, x5, x6, x7, x8] (.inr (.inr r) :: st) M ↔ zgetx fX3 25 r M (fun v => uX3_drink R 192 [x0, x1, x2, x3, x4, x5, x6, x7, x8] (v :: st) M) := zU_step dX3_drink_189 (Or.inl rfl)
theorem dX3_drink_192 : decode cX3_drink 192 = .ok (.ineg, 1) := by decide +kernel
theorem rX3_drink_192 {R : zP} {x0 x1 x2 x3 x4 x5 x6 x7 x8 : Option zV} {st : List zV} {M : zM} {a : Int} : uX3_drink R 192 [x0, x1, x2, x3, x4, x5, x6, x7, x8] (.inl a :: st) M ↔ uX3_drink R 193 [x0, x1, x2, x3, x4, x5, x6, x7, x8] (.inl (-a) :: st) M := zU_step dX3_drink_192 (Or.inl rfl)
theorem dX3_drink_193 : decode cX3_drink 193 = .ok (.if_icmp .ge 11, 3) := by decide +kernel
theorem rX3_drink_193 {R : zP} {x0 x1 x2 x3 x4 x5 x6 x7 x8 : Option zV} {st : List zV} {M : zM} {a b : Int} : uX3_drink R 193 [x0, x1, x2, x3, x4, x5, x6, x7, x8] (.inl b :: .inl a :: st) M ↔ ((zIR a ∧ zIR b) ∧ if b ≤ a then uX3_drink R 204 [x0, x1, x2, x3, x4, x5, x6, x7, x8] st M else uX3_drink R 196 [x0, x1, x2, x3, x4, x5, x6, x7, x8] st M) := Iff.trans (zU_step dX3_drink_193 (Or.inl rfl)) ⟨fun h => ⟨⟨h.1.1, h.1.2.1⟩, (zite (c := b ≤ a)).mpr h.2⟩, fun h => ⟨⟨h.1.1, h.1.2, by decide⟩, (zite (c := b ≤ a)).mp h.2⟩⟩
theorem dX3_drink_196 : decode cX3_drink 196 = .ok (.aload_n 0, 1) := by decide +kernel
theorem rX3_drink_196 {R : zP} {x1 x2 x3 x4 x5 x6 x7 x8 : Option zV} {st : List zV} {M : zM} {a : Nat} : uX3_drink R 196 [some (.inr (.inr a)), x1, x2, x3, x4, x5, x6, x7, x8] st M ↔ uX3_drink R 197 [some (.inr (.inr a)), x1, x2, x3, x4, x5, x6, x7, x8] (.inr (.inr a) :: st) M := zU_step dX3_drink_196 (Or.inl rfl)
theorem dX3_drink_197 : decode cX3_drink 197 = .ok (.getfield 25, 3) := by decide +kernel
theorem rX3_drink_197 {R : zP} {x0 x1 x2 x3 x4 x5 x6 x7 x8 : Option zV} {st : List zV} {M : zM} {r : Nat} : uX3_drink R 197 [x0, x1, x2, x3, x4, x5, x6, x7, x8] (.inr (.inr r) :: st) M ↔ zgetx fX3 25 r M (fun v => uX3_drink R 200 [x0, x1, x2, x3, x4, x5, x6, x7, x8] (v :: st) M) := zU_step dX3_drink_197 (Or.inl rfl)
theorem dX3_drink_200 : decode cX3_drink 200 = .ok (.ineg, 1) := by decide +kernel
theorem rX3_drink_200 {R : zP} {x0 x1 x2 x3 x4 x5 x6 x7 x8 : Option zV} {st : List zV} {M : zM} {a : Int} : uX3_drink R 200 [x0, x1, x2, x3, x4, x5, x6, x7, x8] (.inl a :: st) M ↔ uX3_drink R 201 [x0, x1, x2, x3, x4, x5, x6, x7, x8] (.inl (-a) :: st) M := zU_step dX3_drink_200 (Or.inl rfl)
theorem dX3_drink_201 : decode cX3_drink 201 = .ok (.goto 5, 3) := by decide +kernel
theorem rX3_drink_201 {R : zP} {x0 x1 x2 x3 x4 x5 x6 x7 x8 : Option zV} {st : List zV} {M : zM} : uX3_drink R 201 [x0, x1, x2, x3, x4, x5, x6, x7, x8] st M ↔ uX3_drink R 206 [x0, x1, x2, x3, x4, x5, x6, x7, x8] st M := Iff.trans (zU_step dX3_drink_201 (Or.inl rfl)) ⟨fun h => h.2, fun h => ⟨by decide, h⟩⟩
theorem dX3_drink_204 : decode cX3_drink 204 = .ok (.iload 8, 2) := by decide +kernel
theorem rX3_drink_204 {R : zP} {x0 x1 x2 x3 x4 x5 x6 x7 : Option zV} {st : List zV} {M : zM} {a : Int} : uX3_drink R 204 [x0, x1, x2, x3, x4, x5, x6, x7, some (.inl a)] st M ↔ uX3_drink R 206 [x0, x1, x2, x3, x4, x5, x6, x7, some (.inl a)] (.inl a :: st) M := zU_step dX3_drink_204 (Or.inl rfl)
theorem dX3_drink_206 : decode cX3_drink 206 = .ok (.iadd, 1) := by decide +kernel
theorem rX3_drink_206 {R : zP} {x0 x1 x2 x3 x4 x5 x6 x7 x8 : Option zV} {st : List zV} {M : zM} {a b : Int} : uX3_drink R 206 [x0, x1, x2, x3, x4, x5, x6, x7, x8] (.inl b :: .inl a :: st) M ↔ uX3_drink R 207 [x0, x1, x2, x3, x4, x5, x6, x7, x8] (.inl (a + b) :: st) M := zU_step dX3_drink_206 (Or.inl rfl)
theorem dX3_drink_207 : decode cX3_drink 207 = .ok (.iastore, 1) := by decide +kernel
theorem rX3_drink_207 {R : zP} {x0 x1 x2 x3 x4 x5 x6 x7 x8 : Option zV} {st : List zV} {M : zM} {i v : Int} {r : Nat} : uX3_drink R 207 [x0, x1, x2, x3, x4, x5, x6, x7, x8] (.inl v :: .inl i :: .inr (.inr r) :: st) M ↔ zwrite 0 r i (uX3_drink R 208 [x0, x1, x2, x3, x4, x5, x6, x7, x8] st (zup M r i v)) := zU_step dX3_drink_207 (Or.inl rfl)
theorem dX3_drink_208 : decode cX3_drink 208 = .ok (.iinc 6 1, 3) := by decide +kernel
theorem rX3_drink_208 {R : zP} {x0 x1 x2 x3 x4 x7 x8 : Option zV} {st : List zV} {M : zM} {a : Int} {y : Int} : uX3_drink R 208 [x0, x1, x2, x3, x4, some (.inl y), some (.inl a), x7, x8] st M ↔ uX3_drink R 211 [x0, x1, x2, x3, x4, some (.inl y), some (.inl (a + (1))), x7, x8] st M := Iff.trans (zU_step dX3_drink_208 (Or.inl rfl)) ⟨fun h => h.2, fun h => ⟨show 6 < 9 by decide, h⟩⟩
theorem rX3_drink_208z {R : zP} {x0 x1 x2 x3 x4 x5 x7 x8 : Option zV} {st : List zV} {M : zM} {a : Int} : uX3_drink R 208 [x0, x1, x2, x3, x4, x5, some (.inl a), x7, x8] st M ↔ uX3_drink R 211 [x0, x1, x2, x3, x4, zkeep x5, some (.inl (a + (1))), x7, x8] st M := Iff.trans (zU_step dX3_drink_208 (Or.inl rfl)) ⟨fun h => h.2, fun h => ⟨show 6 < 9 by decide, h⟩⟩
theorem dX3_drink_211 : decode cX3_drink 211 = .ok (.goto (-170), 3) := by decide +kernel
theorem rX3_drink_211 {R : zP} {x0 x1 x2 x3 x4 x5 x6 x7 x8 : Option zV} {st : List zV} {M : zM} : uX3_drink R 211 [x0, x1, x2, x3, x4, x5, x6, x7, x8] st M ↔ uX3_drink R 41 [x0, x1, x2, x3, x4, x5, x6, x7, x8] st M := Iff.trans (zU_step dX3_drink_211 (Or.inl rfl)) ⟨fun h => h.2, fun h => ⟨by decide, h⟩⟩
theorem dX3_drink_214 : decode cX3_drink 214 = .ok (.aload_n 0, 1) := by decide +kernel
theorem rX3_drink_214 {R : zP} {x1 x2 x3 x4 x5 x6 x7 x8 : Option zV} {st : List zV} {M : zM} {a : Nat} : uX3_drink R 214 [some (.inr (.inr a)), x1, x2, x3, x4, x5, x6, x7, x8] st M ↔ uX3_drink R 215 [some (.inr (.inr a)), x1, x2, x3, x4, x5, x6, x7, x8] (.inr (.inr a) :: st) M := zU_step dX3_drink_214 (Or.inl rfl)
theorem dX3_drink_215 : decode cX3_drink 215 = .ok (.getfield 28, 3) := by decide +kernel
theorem rX3_drink_215 {R : zP} {x0 x1 x2 x3 x4 x5 x6 x7 x8 : Option zV} {st : List zV} {M : zM} {r : Nat} : uX3_drink R 215 [x0, x1, x2, x3, x4, x5, x6, x7, x8] (.inr (.inr r) :: st) M ↔ zgetx fX3 28 r M (fun v => uX3_drink R 218 [x0, x1, x2, x3, x4, x5, x6, x7, x8] (v :: st) M) := zU_step dX3_drink_215 (Or.inl rfl)
theorem dX3_drink_218 : decode cX3_drink 218 = .ok (.iload 5, 2) := by decide +kernel
theorem rX3_drink_218 {R : zP} {x0 x1 x2 x3 x4 x6 x7 x8 : Option zV} {st : List zV} {M : zM} {a : Int} : uX3_drink R 218 [x0, x1, x2, x3, x4, some (.inl a), x6, x7, x8] st M ↔ uX3_drink R 220 [x0, x1, x2, x3, x4, some (.inl a), x6, x7, x8] (.inl a :: st) M := zU_step dX3_drink_218 (Or.inl rfl)
theorem dX3_drink_220 : decode cX3_drink 220 = .ok (.if_icmp .ne 22, 3) := by decide +kernel
theorem rX3_drink_220 {R : zP} {x0 x1 x2 x3 x4 x5 x6 x7 x8 : Option zV} {st : List zV} {M : zM} {a b : Int} : uX3_drink R 220 [x0, x1, x2, x3, x4, x5, x6, x7, x8] (.inl b :: .inl a :: st) M ↔ ((zIR a ∧ zIR b) ∧ if a ≠ b then uX3_drink R 242 [x0, x1, x2, x3, x4, x5, x6, x7, x8] st M else uX3_drink R 223 [x0, x1, x2, x3, x4, x5, x6, x7, x8] st M) := Iff.trans (zU_step dX3_drink_220 (Or.inl rfl)) ⟨fun h => ⟨⟨h.1.1, h.1.2.1⟩, (zite (c := a ≠ b)).mpr h.2⟩, fun h => ⟨⟨h.1.1, h.1.2, by decide⟩, (zite (c := a ≠ b)).mp h.2⟩⟩
theorem dX3_drink_223 : decode cX3_drink 223 = .ok (.aload_n 0, 1) := by decide +kernel
theorem rX3_drink_223 {R : zP} {x1 x2 x3 x4 x5 x6 x7 x8 : Option zV} {st : List zV} {M : zM} {a : Nat} : uX3_drink R 223 [some (.inr (.inr a)), x1, x2, x3, x4, x5, x6, x7, x8] st M ↔ uX3_drink R 224 [some (.inr (.inr a)), x1, x2, x3, x4, x5, x6, x7, x8] (.inr (.inr a) :: st) M := zU_step dX3_drink_223 (Or.inl rfl)
theorem dX3_drink_224 : decode cX3_drink 224 = .ok (.getfield 21, 3) := by decide +kernel
theorem rX3_drink_224 {R : zP} {x0 x1 x2 x3 x4 x5 x6 x7 x8 : Option zV} {st : List zV} {M : zM} {r : Nat} : uX3_drink R 224 [x0, x1, x2, x3, x4, x5, x6, x7, x8] (.inr (.inr r) :: st) M ↔ zgetx fX3 21 r M (fun v => uX3_drink R 227 [x0, x1, x2, x3, x4, x5, x6, x7, x8] (v :: st) M) := zU_step dX3_drink_224 (Or.inl rfl)
theorem dX3_drink_227 : decode cX3_drink 227 = .ok (.bipush 9, 2) := by decide +kernel
theorem rX3_drink_227 {R : zP} {x0 x1 x2 x3 x4 x5 x6 x7 x8 : Option zV} {st : List zV} {M : zM} : uX3_drink R 227 [x0, x1, x2, x3, x4, x5, x6, x7, x8] st M ↔ uX3_drink R 229 [x0, x1, x2, x3, x4, x5, x6, x7, x8] (.inl (9) :: st) M := Iff.trans (zU_step dX3_drink_227 (Or.inl rfl)) ⟨fun h => h.2, fun h => ⟨by decide, h⟩⟩
theorem dX3_drink_229 : decode cX3_drink 229 = .ok (.if_icmp .ge 13, 3) := by decide +kernel
theorem rX3_drink_229 {R : zP} {x0 x1 x2 x3 x4 x5 x6 x7 x8 : Option zV} {st : List zV} {M : zM} {a b : Int} : uX3_drink R 229 [x0, x1, x2, x3, x4, x5, x6, x7, x8] (.inl b :: .inl a :: st) M ↔ ((zIR a ∧ zIR b) ∧ if b ≤ a then uX3_drink R 242 [x0, x1, x2, x3, x4, x5, x6, x7, x8] st M else uX3_drink R 232 [x0, x1, x2, x3, x4, x5, x6, x7, x8] st M) := Iff.trans (zU_step dX3_drink_229 (Or.inl rfl)) ⟨fun h => ⟨⟨h.1.1, h.1.2.1⟩, (zite (c := b ≤ a)).mpr h.2⟩, fun h => ⟨⟨h.1.1, h.1.2, by decide⟩, (zite (c := b ≤ a)).mp h.2⟩⟩
theorem dX3_drink_232 : decode cX3_drink 232 = .ok (.aload_n 0, 1) := by decide +kernel
theorem rX3_drink_232 {R : zP} {x1 x2 x3 x4 x5 x6 x7 x8 : Option zV} {st : List zV} {M : zM} {a : Nat} : uX3_drink R 232 [some (.inr (.inr a)), x1, x2, x3, x4, x5, x6, x7, x8] st M ↔ uX3_drink R 233 [some (.inr (.inr a)), x1, x2, x3, x4, x5, x6, x7, x8] (.inr (.inr a) :: st) M := zU_step dX3_drink_232 (Or.inl rfl)
theorem dX3_drink_233 : decode cX3_drink 233 = .ok (.dup, 1) := by decide +kernel
theorem rX3_drink_233 {R : zP} {x0 x1 x2 x3 x4 x5 x6 x7 x8 : Option zV} {st : List zV} {M : zM} {a : Nat} : uX3_drink R 233 [x0, x1, x2, x3, x4, x5, x6, x7, x8] (.inr (.inr a) :: st) M ↔ uX3_drink R 234 [x0, x1, x2, x3, x4, x5, x6, x7, x8] (.inr (.inr a) :: .inr (.inr a) :: st) M := zU_step dX3_drink_233 (Or.inl rfl)
theorem dX3_drink_234 : decode cX3_drink 234 = .ok (.getfield 21, 3) := by decide +kernel
theorem rX3_drink_234 {R : zP} {x0 x1 x2 x3 x4 x5 x6 x7 x8 : Option zV} {st : List zV} {M : zM} {r : Nat} : uX3_drink R 234 [x0, x1, x2, x3, x4, x5, x6, x7, x8] (.inr (.inr r) :: st) M ↔ zgetx fX3 21 r M (fun v => uX3_drink R 237 [x0, x1, x2, x3, x4, x5, x6, x7, x8] (v :: st) M) := zU_step dX3_drink_234 (Or.inl rfl)
theorem dX3_drink_237 : decode cX3_drink 237 = .ok (.iconst 1, 1) := by decide +kernel
theorem rX3_drink_237 {R : zP} {x0 x1 x2 x3 x4 x5 x6 x7 x8 : Option zV} {st : List zV} {M : zM} : uX3_drink R 237 [x0, x1, x2, x3, x4, x5, x6, x7, x8] st M ↔ uX3_drink R 238 [x0, x1, x2, x3, x4, x5, x6, x7, x8] (.inl (1) :: st) M := zU_step dX3_drink_237 (Or.inl rfl)
theorem dX3_drink_238 : decode cX3_drink 238 = .ok (.iadd, 1) := by decide +kernel
theorem rX3_drink_238 {R : zP} {x0 x1 x2 x3 x4 x5 x6 x7 x8 : Option zV} {st : List zV} {M : zM} {a b : Int} : uX3_drink R 238 [x0, x1, x2, x3, x4, x5, x6, x7, x8] (.inl b :: .inl a :: st) M ↔ uX3_drink R 239 [x0, x1, x2, x3, x4, x5, x6, x7, x8] (.inl (a + b) :: st) M := zU_step dX3_drink_238 (Or.inl rfl)
theorem dX3_drink_239 : decode cX3_drink 239 = .ok (.putfield 21, 3) := by decide +kernel
theorem rX3_drink_239 {R : zP} {x0 x1 x2 x3 x4 x5 x6 x7 x8 : Option zV} {st : List zV} {M : zM} {r : Nat} {v : zV} : uX3_drink R 239 [x0, x1, x2, x3, x4, x5, x6, x7, x8] (v :: .inr (.inr r) :: st) M ↔ zputx fX3 21 r M v (fun M => uX3_drink R 242 [x0, x1, x2, x3, x4, x5, x6, x7, x8] st M) := zU_step dX3_drink_239 (Or.inl rfl)
theorem dX3_drink_242 : decode cX3_drink 242 = .ok (.return_, 1) := by decide +kernel
theorem rX3_drink_242 {R : zP} {x0 x1 x2 x3 x4 x5 x6 x7 x8 : Option zV} {M : zM} : uX3_drink R 242 [x0, x1, x2, x3, x4, x5, x6, x7, x8] [] M ↔ R none M := Iff.trans (zU_step dX3_drink_242 (Or.inl rfl)) ⟨fun h => h.2.2, fun h => ⟨rfl, rfl, h⟩⟩
theorem eX3_drink {R : zP} {M : zM} {a0 : Nat} {p0 : Nat} {p1 : Int} : tX3_drink [.inr (.inr a0), .inr (.inr p0), .inl p1] M R ↔ uX3_drink R 0 [some (.inr (.inr a0)), some (.inr (.inr p0)), some (.inl p1), none, none, none, none, none, none] [] M := ⟨fun h => h.2, fun h => ⟨show 3 ≤ 9 by decide, h⟩⟩
def uX3_speaks (R : zP) : zK := zU fX3 vX3_speaks cX3_speaks R
theorem dX3_speaks_0 : decode cX3_speaks 0 = .ok (.aload_n 0, 1) := by decide +kernel
theorem rX3_speaks_0 {R : zP} {x1 x2 : Option zV} {st : List zV} {M : zM} {a : Nat} : uX3_speaks R 0 [some (.inr (.inr a)), x1, x2] st M ↔ uX3_speaks R 1 [some (.inr (.inr a)), x1, x2] (.inr (.inr a) :: st) M := zU_step dX3_speaks_0 (Or.inl rfl)
theorem dX3_speaks_1 : decode cX3_speaks 1 = .ok (.getfield 15, 3) := by decide +kernel
theorem rX3_speaks_1 {R : zP} {x0 x1 x2 : Option zV} {st : List zV} {M : zM} {r : Nat} : uX3_speaks R 1 [x0, x1, x2] (.inr (.inr r) :: st) M ↔ zgetx fX3 15 r M (fun v => uX3_speaks R 4 [x0, x1, x2] (v :: st) M) := zU_step dX3_speaks_1 (Or.inl rfl)
theorem dX3_speaks_4 : decode cX3_speaks 4 = .ok (.iload_n 1, 1) := by decide +kernel
theorem rX3_speaks_4 {R : zP} {x0 x2 : Option zV} {st : List zV} {M : zM} {a : Int} : uX3_speaks R 4 [x0, some (.inl a), x2] st M ↔ uX3_speaks R 5 [x0, some (.inl a), x2] (.inl a :: st) M := zU_step dX3_speaks_4 (Or.inl rfl)
theorem dX3_speaks_5 : decode cX3_speaks 5 = .ok (.iaload, 1) := by decide +kernel
theorem rX3_speaks_5 {R : zP} {x0 x1 x2 : Option zV} {st : List zV} {M : zM} {i : Int} {r : Nat} : uX3_speaks R 5 [x0, x1, x2] (.inl i :: .inr (.inr r) :: st) M ↔ zread fX3 0 r M i (fun v => uX3_speaks R 6 [x0, x1, x2] (.inl v :: st) M) := zU_step dX3_speaks_5 (Or.inl rfl)
theorem dX3_speaks_6 : decode cX3_speaks 6 = .ok (.iload_n 2, 1) := by decide +kernel
theorem rX3_speaks_6 {R : zP} {x0 x1 : Option zV} {st : List zV} {M : zM} {a : Int} : uX3_speaks R 6 [x0, x1, some (.inl a)] st M ↔ uX3_speaks R 7 [x0, x1, some (.inl a)] (.inl a :: st) M := zU_step dX3_speaks_6 (Or.inl rfl)
theorem dX3_speaks_7 : decode cX3_speaks 7 = .ok (.if_icmp .gt 17, 3) := by decide +kernel
theorem rX3_speaks_7 {R : zP} {x0 x1 x2 : Option zV} {st : List zV} {M : zM} {a b : Int} : uX3_speaks R 7 [x0, x1, x2] (.inl b :: .inl a :: st) M ↔ ((zIR a ∧ zIR b) ∧ if b < a then uX3_speaks R 24 [x0, x1, x2] st M else uX3_speaks R 10 [x0, x1, x2] st M) := Iff.trans (zU_step dX3_speaks_7 (Or.inl rfl)) ⟨fun h => ⟨⟨h.1.1, h.1.2.1⟩, (zite (c := b < a)).mpr h.2⟩, fun h => ⟨⟨h.1.1, h.1.2, by decide⟩, (zite (c := b < a)).mp h.2⟩⟩
theorem dX3_speaks_10 : decode cX3_speaks 10 = .ok (.iload_n 2, 1) := by decide +kernel
theorem rX3_speaks_10 {R : zP} {x0 x1 : Option zV} {st : List zV} {M : zM} {a : Int} : uX3_speaks R 10 [x0, x1, some (.inl a)] st M ↔ uX3_speaks R 11 [x0, x1, some (.inl a)] (.inl a :: st) M := zU_step dX3_speaks_10 (Or.inl rfl)
theorem dX3_speaks_11 : decode cX3_speaks 11 = .ok (.aload_n 0, 1) := by decide +kernel
theorem rX3_speaks_11 {R : zP} {x1 x2 : Option zV} {st : List zV} {M : zM} {a : Nat} : uX3_speaks R 11 [some (.inr (.inr a)), x1, x2] st M ↔ uX3_speaks R 12 [some (.inr (.inr a)), x1, x2] (.inr (.inr a) :: st) M := zU_step dX3_speaks_11 (Or.inl rfl)
theorem dX3_speaks_12 : decode cX3_speaks 12 = .ok (.getfield 18, 3) := by decide +kernel
theorem rX3_speaks_12 {R : zP} {x0 x1 x2 : Option zV} {st : List zV} {M : zM} {r : Nat} : uX3_speaks R 12 [x0, x1, x2] (.inr (.inr r) :: st) M ↔ zgetx fX3 18 r M (fun v => uX3_speaks R 15 [x0, x1, x2] (v :: st) M) := zU_step dX3_speaks_12 (Or.inl rfl)
theorem dX3_speaks_15 : decode cX3_speaks 15 = .ok (.iload_n 1, 1) := by decide +kernel
theorem rX3_speaks_15 {R : zP} {x0 x2 : Option zV} {st : List zV} {M : zM} {a : Int} : uX3_speaks R 15 [x0, some (.inl a), x2] st M ↔ uX3_speaks R 16 [x0, some (.inl a), x2] (.inl a :: st) M := zU_step dX3_speaks_15 (Or.inl rfl)
theorem dX3_speaks_16 : decode cX3_speaks 16 = .ok (.iaload, 1) := by decide +kernel
theorem rX3_speaks_16 {R : zP} {x0 x1 x2 : Option zV} {st : List zV} {M : zM} {i : Int} {r : Nat} : uX3_speaks R 16 [x0, x1, x2] (.inl i :: .inr (.inr r) :: st) M ↔ zread fX3 0 r M i (fun v => uX3_speaks R 17 [x0, x1, x2] (.inl v :: st) M) := zU_step dX3_speaks_16 (Or.inl rfl)
theorem dX3_speaks_17 : decode cX3_speaks 17 = .ok (.if_icmp .gt 7, 3) := by decide +kernel
theorem rX3_speaks_17 {R : zP} {x0 x1 x2 : Option zV} {st : List zV} {M : zM} {a b : Int} : uX3_speaks R 17 [x0, x1, x2] (.inl b :: .inl a :: st) M ↔ ((zIR a ∧ zIR b) ∧ if b < a then uX3_speaks R 24 [x0, x1, x2] st M else uX3_speaks R 20 [x0, x1, x2] st M) := Iff.trans (zU_step dX3_speaks_17 (Or.inl rfl)) ⟨fun h => ⟨⟨h.1.1, h.1.2.1⟩, (zite (c := b < a)).mpr h.2⟩, fun h => ⟨⟨h.1.1, h.1.2, by decide⟩, (zite (c := b < a)).mp h.2⟩⟩
theorem dX3_speaks_20 : decode cX3_speaks 20 = .ok (.iconst 1, 1) := by decide +kernel
theorem rX3_speaks_20 {R : zP} {x0 x1 x2 : Option zV} {st : List zV} {M : zM} : uX3_speaks R 20 [x0, x1, x2] st M ↔ uX3_speaks R 21 [x0, x1, x2] (.inl (1) :: st) M := zU_step dX3_speaks_20 (Or.inl rfl)
theorem dX3_speaks_21 : decode cX3_speaks 21 = .ok (.goto 4, 3) := by decide +kernel
theorem rX3_speaks_21 {R : zP} {x0 x1 x2 : Option zV} {st : List zV} {M : zM} : uX3_speaks R 21 [x0, x1, x2] st M ↔ uX3_speaks R 25 [x0, x1, x2] st M := Iff.trans (zU_step dX3_speaks_21 (Or.inl rfl)) ⟨fun h => h.2, fun h => ⟨by decide, h⟩⟩
theorem dX3_speaks_24 : decode cX3_speaks 24 = .ok (.iconst 0, 1) := by decide +kernel
theorem rX3_speaks_24 {R : zP} {x0 x1 x2 : Option zV} {st : List zV} {M : zM} : uX3_speaks R 24 [x0, x1, x2] st M ↔ uX3_speaks R 25 [x0, x1, x2] (.inl (0) :: st) M := zU_step dX3_speaks_24 (Or.inl rfl)
theorem dX3_speaks_25 : decode cX3_speaks 25 = .ok (.ireturn, 1) := by decide +kernel
theorem rX3_speaks_25 {R : zP} {x0 x1 x2 : Option zV} {M : zM} {a : Int} : uX3_speaks R 25 [x0, x1, x2] [.inl a] M ↔ ((a = 0 ∨ a = 1) ∧ R (some (.inl a)) M) := Iff.trans (zU_step dX3_speaks_25 (Or.inl rfl)) ⟨fun h => ⟨zret2 rfl h.2.1, h.2.2⟩, fun h => ⟨rfl, Or.inr (Or.inl ⟨rfl, h.1⟩), h.2⟩⟩
theorem eX3_speaks {R : zP} {M : zM} {a0 : Nat} {p0 : Int} {p1 : Int} : tX3_speaks [.inr (.inr a0), .inl p0, .inl p1] M R ↔ uX3_speaks R 0 [some (.inr (.inr a0)), some (.inl p0), some (.inl p1)] [] M := ⟨fun h => h.2, fun h => ⟨show 3 ≤ 3 by decide, h⟩⟩
def uX3_questionOfAllSides (R : zP) : zK := zU fX3 vX3_questionOfAllSides cX3_questionOfAllSides R
theorem dX3_questionOfAllSides_0 : decode cX3_questionOfAllSides 0 = .ok (.iconst 0, 1) := by decide +kernel
theorem rX3_questionOfAllSides_0 {R : zP} {x0 x1 : Option zV} {st : List zV} {M : zM} : uX3_questionOfAllSides R 0 [x0, x1] st M ↔ uX3_questionOfAllSides R 1 [x0, x1] (.inl (0) :: st) M := zU_step dX3_questionOfAllSides_0 (Or.inl rfl)
theorem dX3_questionOfAllSides_1 : decode cX3_questionOfAllSides 1 = .ok (.istore_n 1, 1) := by decide +kernel
theorem rX3_questionOfAllSides_1 {R : zP} {x1 : Option zV} {st : List zV} {M : zM} {a : Int} {y : Nat} : uX3_questionOfAllSides R 1 [some (.inr (.inr y)), x1] (.inl a :: st) M ↔ uX3_questionOfAllSides R 2 [some (.inr (.inr y)), some (.inl a)] st M := Iff.trans (zU_step dX3_questionOfAllSides_1 (Or.inl rfl)) ⟨fun h => h.2, fun h => ⟨show 1 < 2 by decide, h⟩⟩
theorem rX3_questionOfAllSides_1z {R : zP} {x0 x1 : Option zV} {st : List zV} {M : zM} {a : Int} : uX3_questionOfAllSides R 1 [x0, x1] (.inl a :: st) M ↔ uX3_questionOfAllSides R 2 [zkeep x0, some (.inl a)] st M := Iff.trans (zU_step dX3_questionOfAllSides_1 (Or.inl rfl)) ⟨fun h => h.2, fun h => ⟨show 1 < 2 by decide, h⟩⟩
theorem dX3_questionOfAllSides_2 : decode cX3_questionOfAllSides 2 = .ok (.iload_n 1, 1) := by decide +kernel
theorem rX3_questionOfAllSides_2 {R : zP} {x0 : Option zV} {st : List zV} {M : zM} {a : Int} : uX3_questionOfAllSides R 2 [x0, some (.inl a)] st M ↔ uX3_questionOfAllSides R 3 [x0, some (.inl a)] (.inl a :: st) M := zU_step dX3_questionOfAllSides_2 (Or.inl rfl)
theorem dX3_questionOfAllSides_3 : decode cX3_questionOfAllSides 3 = .ok (.iconst 4, 1) := by decide +kernel
theorem rX3_questionOfAllSides_3 {R : zP} {x0 x1 : Option zV} {st : List zV} {M : zM} : uX3_questionOfAllSides R 3 [x0, x1] st M ↔ uX3_questionOfAllSides R 4 [x0, x1] (.inl (4) :: st) M := zU_step dX3_questionOfAllSides_3 (Or.inl rfl)
theorem dX3_questionOfAllSides_4 : decode cX3_questionOfAllSides 4 = .ok (.if_icmp .ge 31, 3) := by decide +kernel
theorem rX3_questionOfAllSides_4 {R : zP} {x0 x1 : Option zV} {st : List zV} {M : zM} {a b : Int} : uX3_questionOfAllSides R 4 [x0, x1] (.inl b :: .inl a :: st) M ↔ ((zIR a ∧ zIR b) ∧ if b ≤ a then uX3_questionOfAllSides R 35 [x0, x1] st M else uX3_questionOfAllSides R 7 [x0, x1] st M) := Iff.trans (zU_step dX3_questionOfAllSides_4 (Or.inl rfl)) ⟨fun h => ⟨⟨h.1.1, h.1.2.1⟩, (zite (c := b ≤ a)).mpr h.2⟩, fun h => ⟨⟨h.1.1, h.1.2, by decide⟩, (zite (c := b ≤ a)).mp h.2⟩⟩
theorem dX3_questionOfAllSides_7 : decode cX3_questionOfAllSides 7 = .ok (.aload_n 0, 1) := by decide +kernel
theorem rX3_questionOfAllSides_7 {R : zP} {x1 : Option zV} {st : List zV} {M : zM} {a : Nat} : uX3_questionOfAllSides R 7 [some (.inr (.inr a)), x1] st M ↔ uX3_questionOfAllSides R 8 [some (.inr (.inr a)), x1] (.inr (.inr a) :: st) M := zU_step dX3_questionOfAllSides_7 (Or.inl rfl)
theorem dX3_questionOfAllSides_8 : decode cX3_questionOfAllSides 8 = .ok (.getfield 15, 3) := by decide +kernel
theorem rX3_questionOfAllSides_8 {R : zP} {x0 x1 : Option zV} {st : List zV} {M : zM} {r : Nat} : uX3_questionOfAllSides R 8 [x0, x1] (.inr (.inr r) :: st) M ↔ zgetx fX3 15 r M (fun v => uX3_questionOfAllSides R 11 [x0, x1] (v :: st) M) := zU_step dX3_questionOfAllSides_8 (Or.inl rfl)
theorem dX3_questionOfAllSides_11 : decode cX3_questionOfAllSides 11 = .ok (.iload_n 1, 1) := by decide +kernel
theorem rX3_questionOfAllSides_11 {R : zP} {x0 : Option zV} {st : List zV} {M : zM} {a : Int} : uX3_questionOfAllSides R 11 [x0, some (.inl a)] st M ↔ uX3_questionOfAllSides R 12 [x0, some (.inl a)] (.inl a :: st) M := zU_step dX3_questionOfAllSides_11 (Or.inl rfl)
theorem dX3_questionOfAllSides_12 : decode cX3_questionOfAllSides 12 = .ok (.iaload, 1) := by decide +kernel
theorem rX3_questionOfAllSides_12 {R : zP} {x0 x1 : Option zV} {st : List zV} {M : zM} {i : Int} {r : Nat} : uX3_questionOfAllSides R 12 [x0, x1] (.inl i :: .inr (.inr r) :: st) M ↔ zread fX3 0 r M i (fun v => uX3_questionOfAllSides R 13 [x0, x1] (.inl v :: st) M) := zU_step dX3_questionOfAllSides_12 (Or.inl rfl)
theorem dX3_questionOfAllSides_13 : decode cX3_questionOfAllSides 13 = .ok (.ifCond .ne 16, 3) := by decide +kernel
theorem rX3_questionOfAllSides_13 {R : zP} {x0 x1 : Option zV} {st : List zV} {M : zM} {a : Int} : uX3_questionOfAllSides R 13 [x0, x1] (.inl a :: st) M ↔ (zIR a ∧ if a ≠ 0 then uX3_questionOfAllSides R 29 [x0, x1] st M else uX3_questionOfAllSides R 16 [x0, x1] st M) := Iff.trans (zU_step dX3_questionOfAllSides_13 (Or.inl rfl)) ⟨fun h => ⟨h.1.1, (zite (c := a ≠ 0)).mpr h.2⟩, fun h => ⟨⟨h.1, by decide⟩, (zite (c := a ≠ 0)).mp h.2⟩⟩
theorem dX3_questionOfAllSides_16 : decode cX3_questionOfAllSides 16 = .ok (.aload_n 0, 1) := by decide +kernel
theorem rX3_questionOfAllSides_16 {R : zP} {x1 : Option zV} {st : List zV} {M : zM} {a : Nat} : uX3_questionOfAllSides R 16 [some (.inr (.inr a)), x1] st M ↔ uX3_questionOfAllSides R 17 [some (.inr (.inr a)), x1] (.inr (.inr a) :: st) M := zU_step dX3_questionOfAllSides_16 (Or.inl rfl)
theorem dX3_questionOfAllSides_17 : decode cX3_questionOfAllSides 17 = .ok (.getfield 18, 3) := by decide +kernel
theorem rX3_questionOfAllSides_17 {R : zP} {x0 x1 : Option zV} {st : List zV} {M : zM} {r : Nat} : uX3_questionOfAllSides R 17 [x0, x1] (.inr (.inr r) :: st) M ↔ zgetx fX3 18 r M (fun v => uX3_questionOfAllSides R 20 [x0, x1] (v :: st) M) := zU_step dX3_questionOfAllSides_17 (Or.inl rfl)
theorem dX3_questionOfAllSides_20 : decode cX3_questionOfAllSides 20 = .ok (.iload_n 1, 1) := by decide +kernel
theorem rX3_questionOfAllSides_20 {R : zP} {x0 : Option zV} {st : List zV} {M : zM} {a : Int} : uX3_questionOfAllSides R 20 [x0, some (.inl a)] st M ↔ uX3_questionOfAllSides R 21 [x0, some (.inl a)] (.inl a :: st) M := zU_step dX3_questionOfAllSides_20 (Or.inl rfl)
theorem dX3_questionOfAllSides_21 : decode cX3_questionOfAllSides 21 = .ok (.iaload, 1) := by decide +kernel
theorem rX3_questionOfAllSides_21 {R : zP} {x0 x1 : Option zV} {st : List zV} {M : zM} {i : Int} {r : Nat} : uX3_questionOfAllSides R 21 [x0, x1] (.inl i :: .inr (.inr r) :: st) M ↔ zread fX3 0 r M i (fun v => uX3_questionOfAllSides R 22 [x0, x1] (.inl v :: st) M) := zU_step dX3_questionOfAllSides_21 (Or.inl rfl)
theorem dX3_questionOfAllSides_22 : decode cX3_questionOfAllSides 22 = .ok (.bipush 9, 2) := by decide +kernel
theorem rX3_questionOfAllSides_22 {R : zP} {x0 x1 : Option zV} {st : List zV} {M : zM} : uX3_questionOfAllSides R 22 [x0, x1] st M ↔ uX3_questionOfAllSides R 24 [x0, x1] (.inl (9) :: st) M := Iff.trans (zU_step dX3_questionOfAllSides_22 (Or.inl rfl)) ⟨fun h => h.2, fun h => ⟨by decide, h⟩⟩
theorem dX3_questionOfAllSides_24 : decode cX3_questionOfAllSides 24 = .ok (.if_icmp .ne 5, 3) := by decide +kernel
theorem rX3_questionOfAllSides_24 {R : zP} {x0 x1 : Option zV} {st : List zV} {M : zM} {a b : Int} : uX3_questionOfAllSides R 24 [x0, x1] (.inl b :: .inl a :: st) M ↔ ((zIR a ∧ zIR b) ∧ if a ≠ b then uX3_questionOfAllSides R 29 [x0, x1] st M else uX3_questionOfAllSides R 27 [x0, x1] st M) := Iff.trans (zU_step dX3_questionOfAllSides_24 (Or.inl rfl)) ⟨fun h => ⟨⟨h.1.1, h.1.2.1⟩, (zite (c := a ≠ b)).mpr h.2⟩, fun h => ⟨⟨h.1.1, h.1.2, by decide⟩, (zite (c := a ≠ b)).mp h.2⟩⟩
theorem dX3_questionOfAllSides_27 : decode cX3_questionOfAllSides 27 = .ok (.iload_n 1, 1) := by decide +kernel
theorem rX3_questionOfAllSides_27 {R : zP} {x0 : Option zV} {st : List zV} {M : zM} {a : Int} : uX3_questionOfAllSides R 27 [x0, some (.inl a)] st M ↔ uX3_questionOfAllSides R 28 [x0, some (.inl a)] (.inl a :: st) M := zU_step dX3_questionOfAllSides_27 (Or.inl rfl)
theorem dX3_questionOfAllSides_28 : decode cX3_questionOfAllSides 28 = .ok (.ireturn, 1) := by decide +kernel
theorem rX3_questionOfAllSides_28 {R : zP} {x0 x1 : Option zV} {M : zM} {a : Int} : uX3_questionOfAllSides R 28 [x0, x1] [.inl a] M ↔ R (some (.inl a)) M := Iff.trans (zU_step dX3_questionOfAllSides_28 (Or.inl rfl)) ⟨fun h => h.2.2, fun h => ⟨rfl, Or.inl rfl, h⟩⟩
theorem dX3_questionOfAllSides_29 : decode cX3_questionOfAllSides 29 = .ok (.iinc 1 1, 3) := by decide +kernel
theorem rX3_questionOfAllSides_29 {R : zP} {st : List zV} {M : zM} {a : Int} {y : Nat} : uX3_questionOfAllSides R 29 [some (.inr (.inr y)), some (.inl a)] st M ↔ uX3_questionOfAllSides R 32 [some (.inr (.inr y)), some (.inl (a + (1)))] st M := Iff.trans (zU_step dX3_questionOfAllSides_29 (Or.inl rfl)) ⟨fun h => h.2, fun h => ⟨show 1 < 2 by decide, h⟩⟩
theorem rX3_questionOfAllSides_29z {R : zP} {x0 : Option zV} {st : List zV} {M : zM} {a : Int} : uX3_questionOfAllSides R 29 [x0, some (.inl a)] st M ↔ uX3_questionOfAllSides R 32 [zkeep x0, some (.inl (a + (1)))] st M := Iff.trans (zU_step dX3_questionOfAllSides_29 (Or.inl rfl)) ⟨fun h => h.2, fun h => ⟨show 1 < 2 by decide, h⟩⟩
theorem dX3_questionOfAllSides_32 : decode cX3_questionOfAllSides 32 = .ok (.goto (-30), 3) := by decide +kernel
theorem rX3_questionOfAllSides_32 {R : zP} {x0 x1 : Option zV} {st : List zV} {M : zM} : uX3_questionOfAllSides R 32 [x0, x1] st M ↔ uX3_questionOfAllSides R 2 [x0, x1] st M := Iff.trans (zU_step dX3_questionOfAllSides_32 (Or.inl rfl)) ⟨fun h => h.2, fun h => ⟨by decide, h⟩⟩
theorem dX3_questionOfAllSides_35 : decode cX3_questionOfAllSides 35 = .ok (.iconst (-1), 1) := by decide +kernel
theorem rX3_questionOfAllSides_35 {R : zP} {x0 x1 : Option zV} {st : List zV} {M : zM} : uX3_questionOfAllSides R 35 [x0, x1] st M ↔ uX3_questionOfAllSides R 36 [x0, x1] (.inl (-1) :: st) M := zU_step dX3_questionOfAllSides_35 (Or.inl rfl)
theorem dX3_questionOfAllSides_36 : decode cX3_questionOfAllSides 36 = .ok (.ireturn, 1) := by decide +kernel
theorem rX3_questionOfAllSides_36 {R : zP} {x0 x1 : Option zV} {M : zM} {a : Int} : uX3_questionOfAllSides R 36 [x0, x1] [.inl a] M ↔ R (some (.inl a)) M := Iff.trans (zU_step dX3_questionOfAllSides_36 (Or.inl rfl)) ⟨fun h => h.2.2, fun h => ⟨rfl, Or.inl rfl, h⟩⟩
theorem eX3_questionOfAllSides {R : zP} {M : zM} {a0 : Nat} : tX3_questionOfAllSides [.inr (.inr a0)] M R ↔ uX3_questionOfAllSides R 0 [some (.inr (.inr a0)), none] [] M := ⟨fun h => h.2, fun h => ⟨show 1 ≤ 2 by decide, h⟩⟩
def uX3_knows (R : zP) : zK := zU fX3 vX3_knows cX3_knows R
theorem dX3_knows_0 : decode cX3_knows 0 = .ok (.iconst 0, 1) := by decide +kernel
theorem rX3_knows_0 {R : zP} {x0 x1 x2 x3 : Option zV} {st : List zV} {M : zM} : uX3_knows R 0 [x0, x1, x2, x3] st M ↔ uX3_knows R 1 [x0, x1, x2, x3] (.inl (0) :: st) M := zU_step dX3_knows_0 (Or.inl rfl)
theorem dX3_knows_1 : decode cX3_knows 1 = .ok (.istore_n 3, 1) := by decide +kernel
theorem rX3_knows_1 {R : zP} {x0 x1 x3 : Option zV} {st : List zV} {M : zM} {a : Int} {y : Int} : uX3_knows R 1 [x0, x1, some (.inl y), x3] (.inl a :: st) M ↔ uX3_knows R 2 [x0, x1, some (.inl y), some (.inl a)] st M := Iff.trans (zU_step dX3_knows_1 (Or.inl rfl)) ⟨fun h => h.2, fun h => ⟨show 3 < 4 by decide, h⟩⟩
theorem rX3_knows_1z {R : zP} {x0 x1 x2 x3 : Option zV} {st : List zV} {M : zM} {a : Int} : uX3_knows R 1 [x0, x1, x2, x3] (.inl a :: st) M ↔ uX3_knows R 2 [x0, x1, zkeep x2, some (.inl a)] st M := Iff.trans (zU_step dX3_knows_1 (Or.inl rfl)) ⟨fun h => h.2, fun h => ⟨show 3 < 4 by decide, h⟩⟩
theorem dX3_knows_2 : decode cX3_knows 2 = .ok (.iload_n 3, 1) := by decide +kernel
theorem rX3_knows_2 {R : zP} {x0 x1 x2 : Option zV} {st : List zV} {M : zM} {a : Int} : uX3_knows R 2 [x0, x1, x2, some (.inl a)] st M ↔ uX3_knows R 3 [x0, x1, x2, some (.inl a)] (.inl a :: st) M := zU_step dX3_knows_2 (Or.inl rfl)
theorem dX3_knows_3 : decode cX3_knows 3 = .ok (.iconst 4, 1) := by decide +kernel
theorem rX3_knows_3 {R : zP} {x0 x1 x2 x3 : Option zV} {st : List zV} {M : zM} : uX3_knows R 3 [x0, x1, x2, x3] st M ↔ uX3_knows R 4 [x0, x1, x2, x3] (.inl (4) :: st) M := zU_step dX3_knows_3 (Or.inl rfl)
theorem dX3_knows_4 : decode cX3_knows 4 = .ok (.if_icmp .ge 37, 3) := by decide +kernel
theorem rX3_knows_4 {R : zP} {x0 x1 x2 x3 : Option zV} {st : List zV} {M : zM} {a b : Int} : uX3_knows R 4 [x0, x1, x2, x3] (.inl b :: .inl a :: st) M ↔ ((zIR a ∧ zIR b) ∧ if b ≤ a then uX3_knows R 41 [x0, x1, x2, x3] st M else uX3_knows R 7 [x0, x1, x2, x3] st M) := Iff.trans (zU_step dX3_knows_4 (Or.inl rfl)) ⟨fun h => ⟨⟨h.1.1, h.1.2.1⟩, (zite (c := b ≤ a)).mpr h.2⟩, fun h => ⟨⟨h.1.1, h.1.2, by decide⟩, (zite (c := b ≤ a)).mp h.2⟩⟩
theorem dX3_knows_7 : decode cX3_knows 7 = .ok (.aload_n 0, 1) := by decide +kernel
theorem rX3_knows_7 {R : zP} {x1 x2 x3 : Option zV} {st : List zV} {M : zM} {a : Nat} : uX3_knows R 7 [some (.inr (.inr a)), x1, x2, x3] st M ↔ uX3_knows R 8 [some (.inr (.inr a)), x1, x2, x3] (.inr (.inr a) :: st) M := zU_step dX3_knows_7 (Or.inl rfl)
theorem dX3_knows_8 : decode cX3_knows 8 = .ok (.getfield 9, 3) := by decide +kernel
theorem rX3_knows_8 {R : zP} {x0 x1 x2 x3 : Option zV} {st : List zV} {M : zM} {r : Nat} : uX3_knows R 8 [x0, x1, x2, x3] (.inr (.inr r) :: st) M ↔ zgetx fX3 9 r M (fun v => uX3_knows R 11 [x0, x1, x2, x3] (v :: st) M) := zU_step dX3_knows_8 (Or.inl rfl)
theorem dX3_knows_11 : decode cX3_knows 11 = .ok (.iload_n 3, 1) := by decide +kernel
theorem rX3_knows_11 {R : zP} {x0 x1 x2 : Option zV} {st : List zV} {M : zM} {a : Int} : uX3_knows R 11 [x0, x1, x2, some (.inl a)] st M ↔ uX3_knows R 12 [x0, x1, x2, some (.inl a)] (.inl a :: st) M := zU_step dX3_knows_11 (Or.inl rfl)
theorem dX3_knows_12 : decode cX3_knows 12 = .ok (.iaload, 1) := by decide +kernel
theorem rX3_knows_12 {R : zP} {x0 x1 x2 x3 : Option zV} {st : List zV} {M : zM} {i : Int} {r : Nat} : uX3_knows R 12 [x0, x1, x2, x3] (.inl i :: .inr (.inr r) :: st) M ↔ zread fX3 0 r M i (fun v => uX3_knows R 13 [x0, x1, x2, x3] (.inl v :: st) M) := zU_step dX3_knows_12 (Or.inl rfl)
theorem dX3_knows_13 : decode cX3_knows 13 = .ok (.aload_n 1, 1) := by decide +kernel
theorem rX3_knows_13 {R : zP} {x0 x2 x3 : Option zV} {st : List zV} {M : zM} {a : Nat} : uX3_knows R 13 [x0, some (.inr (.inr a)), x2, x3] st M ↔ uX3_knows R 14 [x0, some (.inr (.inr a)), x2, x3] (.inr (.inr a) :: st) M := zU_step dX3_knows_13 (Or.inl rfl)
theorem dX3_knows_14 : decode cX3_knows 14 = .ok (.getfield 31, 3) := by decide +kernel
theorem rX3_knows_14 {R : zP} {x0 x1 x2 x3 : Option zV} {st : List zV} {M : zM} {r : Nat} : uX3_knows R 14 [x0, x1, x2, x3] (.inr (.inr r) :: st) M ↔ zgetx fX3 31 r M (fun v => uX3_knows R 17 [x0, x1, x2, x3] (v :: st) M) := zU_step dX3_knows_14 (Or.inl rfl)
theorem dX3_knows_17 : decode cX3_knows 17 = .ok (.iload_n 2, 1) := by decide +kernel
theorem rX3_knows_17 {R : zP} {x0 x1 x3 : Option zV} {st : List zV} {M : zM} {a : Int} : uX3_knows R 17 [x0, x1, some (.inl a), x3] st M ↔ uX3_knows R 18 [x0, x1, some (.inl a), x3] (.inl a :: st) M := zU_step dX3_knows_17 (Or.inl rfl)
theorem dX3_knows_18 : decode cX3_knows 18 = .ok (.iconst 5, 1) := by decide +kernel
theorem rX3_knows_18 {R : zP} {x0 x1 x2 x3 : Option zV} {st : List zV} {M : zM} : uX3_knows R 18 [x0, x1, x2, x3] st M ↔ uX3_knows R 19 [x0, x1, x2, x3] (.inl (5) :: st) M := zU_step dX3_knows_18 (Or.inl rfl)
theorem dX3_knows_19 : decode cX3_knows 19 = .ok (.imul, 1) := by decide +kernel
theorem rX3_knows_19 {R : zP} {x0 x1 x2 x3 : Option zV} {st : List zV} {M : zM} {a b : Int} : uX3_knows R 19 [x0, x1, x2, x3] (.inl b :: .inl a :: st) M ↔ uX3_knows R 20 [x0, x1, x2, x3] (.inl (a * b) :: st) M := zU_step dX3_knows_19 (Or.inl rfl)
theorem dX3_knows_20 : decode cX3_knows 20 = .ok (.iconst 1, 1) := by decide +kernel
theorem rX3_knows_20 {R : zP} {x0 x1 x2 x3 : Option zV} {st : List zV} {M : zM} : uX3_knows R 20 [x0, x1, x2, x3] st M ↔ uX3_knows R 21 [x0, x1, x2, x3] (.inl (1) :: st) M := zU_step dX3_knows_20 (Or.inl rfl)
theorem dX3_knows_21 : decode cX3_knows 21 = .ok (.iadd, 1) := by decide +kernel
theorem rX3_knows_21 {R : zP} {x0 x1 x2 x3 : Option zV} {st : List zV} {M : zM} {a b : Int} : uX3_knows R 21 [x0, x1, x2, x3] (.inl b :: .inl a :: st) M ↔ uX3_knows R 22 [x0, x1, x2, x3] (.inl (a + b) :: st) M := zU_step dX3_knows_21 (Or.inl rfl)
theorem dX3_knows_22 : decode cX3_knows 22 = .ok (.iload_n 3, 1) := by decide +kernel
theorem rX3_knows_22 {R : zP} {x0 x1 x2 : Option zV} {st : List zV} {M : zM} {a : Int} : uX3_knows R 22 [x0, x1, x2, some (.inl a)] st M ↔ uX3_knows R 23 [x0, x1, x2, some (.inl a)] (.inl a :: st) M := zU_step dX3_knows_22 (Or.inl rfl)
theorem dX3_knows_23 : decode cX3_knows 23 = .ok (.iadd, 1) := by decide +kernel
theorem rX3_knows_23 {R : zP} {x0 x1 x2 x3 : Option zV} {st : List zV} {M : zM} {a b : Int} : uX3_knows R 23 [x0, x1, x2, x3] (.inl b :: .inl a :: st) M ↔ uX3_knows R 24 [x0, x1, x2, x3] (.inl (a + b) :: st) M := zU_step dX3_knows_23 (Or.inl rfl)
theorem dX3_knows_24 : decode cX3_knows 24 = .ok (.iaload, 1) := by decide +kernel
theorem rX3_knows_24 {R : zP} {x0 x1 x2 x3 : Option zV} {st : List zV} {M : zM} {i : Int} {r : Nat} : uX3_knows R 24 [x0, x1, x2, x3] (.inl i :: .inr (.inr r) :: st) M ↔ zread fX3 0 r M i (fun v => uX3_knows R 25 [x0, x1, x2, x3] (.inl v :: st) M) := zU_step dX3_knows_24 (Or.inl rfl)
theorem dX3_knows_25 : decode cX3_knows 25 = .ok (.isub, 1) := by decide +kernel
theorem rX3_knows_25 {R : zP} {x0 x1 x2 x3 : Option zV} {st : List zV} {M : zM} {a b : Int} : uX3_knows R 25 [x0, x1, x2, x3] (.inl b :: .inl a :: st) M ↔ uX3_knows R 26 [x0, x1, x2, x3] (.inl (a - b) :: st) M := zU_step dX3_knows_25 (Or.inl rfl)
theorem dX3_knows_26 : decode cX3_knows 26 = .ok (.invokestatic 53, 3) := by decide +kernel
theorem rX3_knows_26 {R : zP} {x0 x1 x2 x3 : Option zV} {st : List zV} {M : zM} {a0 : zV} : uX3_knows R 26 [x0, x1, x2, x3] (a0 :: st) M ↔ (st.length ≤ 4 ∧ zcv zabsT [a0] M (fun v M => uX3_knows R 29 [x0, x1, x2, x3] (v :: st) M)) := Iff.trans (zU_step dX3_knows_26 (Or.inl rfl)) ⟨fun h => ⟨h.2.1, zcv_of h.2.2⟩, fun h => ⟨rfl, h.1, zcv_to h.2⟩⟩
theorem dX3_knows_29 : decode cX3_knows 29 = .ok (.iconst 2, 1) := by decide +kernel
theorem rX3_knows_29 {R : zP} {x0 x1 x2 x3 : Option zV} {st : List zV} {M : zM} : uX3_knows R 29 [x0, x1, x2, x3] st M ↔ uX3_knows R 30 [x0, x1, x2, x3] (.inl (2) :: st) M := zU_step dX3_knows_29 (Or.inl rfl)
theorem dX3_knows_30 : decode cX3_knows 30 = .ok (.if_icmp .le 5, 3) := by decide +kernel
theorem rX3_knows_30 {R : zP} {x0 x1 x2 x3 : Option zV} {st : List zV} {M : zM} {a b : Int} : uX3_knows R 30 [x0, x1, x2, x3] (.inl b :: .inl a :: st) M ↔ ((zIR a ∧ zIR b) ∧ if a ≤ b then uX3_knows R 35 [x0, x1, x2, x3] st M else uX3_knows R 33 [x0, x1, x2, x3] st M) := Iff.trans (zU_step dX3_knows_30 (Or.inl rfl)) ⟨fun h => ⟨⟨h.1.1, h.1.2.1⟩, (zite (c := a ≤ b)).mpr h.2⟩, fun h => ⟨⟨h.1.1, h.1.2, by decide⟩, (zite (c := a ≤ b)).mp h.2⟩⟩
theorem dX3_knows_33 : decode cX3_knows 33 = .ok (.iconst 0, 1) := by decide +kernel
theorem rX3_knows_33 {R : zP} {x0 x1 x2 x3 : Option zV} {st : List zV} {M : zM} : uX3_knows R 33 [x0, x1, x2, x3] st M ↔ uX3_knows R 34 [x0, x1, x2, x3] (.inl (0) :: st) M := zU_step dX3_knows_33 (Or.inl rfl)
theorem dX3_knows_34 : decode cX3_knows 34 = .ok (.ireturn, 1) := by decide +kernel
theorem rX3_knows_34 {R : zP} {x0 x1 x2 x3 : Option zV} {M : zM} {a : Int} : uX3_knows R 34 [x0, x1, x2, x3] [.inl a] M ↔ ((a = 0 ∨ a = 1) ∧ R (some (.inl a)) M) := Iff.trans (zU_step dX3_knows_34 (Or.inl rfl)) ⟨fun h => ⟨zret2 rfl h.2.1, h.2.2⟩, fun h => ⟨rfl, Or.inr (Or.inl ⟨rfl, h.1⟩), h.2⟩⟩
theorem dX3_knows_35 : decode cX3_knows 35 = .ok (.iinc 3 1, 3) := by decide +kernel
theorem rX3_knows_35 {R : zP} {x0 x1 : Option zV} {st : List zV} {M : zM} {a : Int} {y : Int} : uX3_knows R 35 [x0, x1, some (.inl y), some (.inl a)] st M ↔ uX3_knows R 38 [x0, x1, some (.inl y), some (.inl (a + (1)))] st M := Iff.trans (zU_step dX3_knows_35 (Or.inl rfl)) ⟨fun h => h.2, fun h => ⟨show 3 < 4 by decide, h⟩⟩
theorem rX3_knows_35z {R : zP} {x0 x1 x2 : Option zV} {st : List zV} {M : zM} {a : Int} : uX3_knows R 35 [x0, x1, x2, some (.inl a)] st M ↔ uX3_knows R 38 [x0, x1, zkeep x2, some (.inl (a + (1)))] st M := Iff.trans (zU_step dX3_knows_35 (Or.inl rfl)) ⟨fun h => h.2, fun h => ⟨show 3 < 4 by decide, h⟩⟩
theorem dX3_knows_38 : decode cX3_knows 38 = .ok (.goto (-36), 3) := by decide +kernel
theorem rX3_knows_38 {R : zP} {x0 x1 x2 x3 : Option zV} {st : List zV} {M : zM} : uX3_knows R 38 [x0, x1, x2, x3] st M ↔ uX3_knows R 2 [x0, x1, x2, x3] st M := Iff.trans (zU_step dX3_knows_38 (Or.inl rfl)) ⟨fun h => h.2, fun h => ⟨by decide, h⟩⟩
theorem dX3_knows_41 : decode cX3_knows 41 = .ok (.iconst 1, 1) := by decide +kernel
theorem rX3_knows_41 {R : zP} {x0 x1 x2 x3 : Option zV} {st : List zV} {M : zM} : uX3_knows R 41 [x0, x1, x2, x3] st M ↔ uX3_knows R 42 [x0, x1, x2, x3] (.inl (1) :: st) M := zU_step dX3_knows_41 (Or.inl rfl)
theorem dX3_knows_42 : decode cX3_knows 42 = .ok (.ireturn, 1) := by decide +kernel
theorem rX3_knows_42 {R : zP} {x0 x1 x2 x3 : Option zV} {M : zM} {a : Int} : uX3_knows R 42 [x0, x1, x2, x3] [.inl a] M ↔ ((a = 0 ∨ a = 1) ∧ R (some (.inl a)) M) := Iff.trans (zU_step dX3_knows_42 (Or.inl rfl)) ⟨fun h => ⟨zret2 rfl h.2.1, h.2.2⟩, fun h => ⟨rfl, Or.inr (Or.inl ⟨rfl, h.1⟩), h.2⟩⟩
theorem eX3_knows {R : zP} {M : zM} {a0 : Nat} {p0 : Nat} {p1 : Int} : tX3_knows [.inr (.inr a0), .inr (.inr p0), .inl p1] M R ↔ uX3_knows R 0 [some (.inr (.inr a0)), some (.inr (.inr p0)), some (.inl p1), none] [] M := ⟨fun h => h.2, fun h => ⟨show 3 ≤ 4 by decide, h⟩⟩
def uX4_add (R : zP) : zK := zU fX4 vX4_add cX4_add R
theorem dX4_add_0 : decode cX4_add 0 = .ok (.aload_n 0, 1) := by decide +kernel
theorem rX4_add_0 {R : zP} {x1 x2 x3 x4 : Option zV} {st : List zV} {M : zM} {a : Nat} : uX4_add R 0 [some (.inr (.inr a)), x1, x2, x3, x4] st M ↔ uX4_add R 1 [some (.inr (.inr a)), x1, x2, x3, x4] (.inr (.inr a) :: st) M := zU_step dX4_add_0 (Or.inl rfl)
theorem dX4_add_1 : decode cX4_add 1 = .ok (.getfield 24, 3) := by decide +kernel
theorem rX4_add_1 {R : zP} {x0 x1 x2 x3 x4 : Option zV} {st : List zV} {M : zM} {r : Nat} : uX4_add R 1 [x0, x1, x2, x3, x4] (.inr (.inr r) :: st) M ↔ zgetx fX4 24 r M (fun v => uX4_add R 4 [x0, x1, x2, x3, x4] (v :: st) M) := zU_step dX4_add_1 (Or.inl rfl)
theorem dX4_add_4 : decode cX4_add 4 = .ok (.bipush 8, 2) := by decide +kernel
theorem rX4_add_4 {R : zP} {x0 x1 x2 x3 x4 : Option zV} {st : List zV} {M : zM} : uX4_add R 4 [x0, x1, x2, x3, x4] st M ↔ uX4_add R 6 [x0, x1, x2, x3, x4] (.inl (8) :: st) M := Iff.trans (zU_step dX4_add_4 (Or.inl rfl)) ⟨fun h => h.2, fun h => ⟨by decide, h⟩⟩
theorem dX4_add_6 : decode cX4_add 6 = .ok (.if_icmp .lt 6, 3) := by decide +kernel
theorem rX4_add_6 {R : zP} {x0 x1 x2 x3 x4 : Option zV} {st : List zV} {M : zM} {a b : Int} : uX4_add R 6 [x0, x1, x2, x3, x4] (.inl b :: .inl a :: st) M ↔ ((zIR a ∧ zIR b) ∧ if a < b then uX4_add R 12 [x0, x1, x2, x3, x4] st M else uX4_add R 9 [x0, x1, x2, x3, x4] st M) := Iff.trans (zU_step dX4_add_6 (Or.inl rfl)) ⟨fun h => ⟨⟨h.1.1, h.1.2.1⟩, (zite (c := a < b)).mpr h.2⟩, fun h => ⟨⟨h.1.1, h.1.2, by decide⟩, (zite (c := a < b)).mp h.2⟩⟩
theorem dX4_add_9 : decode cX4_add 9 = .ok (.bipush (-4), 2) := by decide +kernel
theorem rX4_add_9 {R : zP} {x0 x1 x2 x3 x4 : Option zV} {st : List zV} {M : zM} : uX4_add R 9 [x0, x1, x2, x3, x4] st M ↔ uX4_add R 11 [x0, x1, x2, x3, x4] (.inl (-4) :: st) M := Iff.trans (zU_step dX4_add_9 (Or.inl rfl)) ⟨fun h => h.2, fun h => ⟨by decide, h⟩⟩
theorem dX4_add_11 : decode cX4_add 11 = .ok (.ireturn, 1) := by decide +kernel
theorem rX4_add_11 {R : zP} {x0 x1 x2 x3 x4 : Option zV} {M : zM} {a : Int} : uX4_add R 11 [x0, x1, x2, x3, x4] [.inl a] M ↔ R (some (.inl a)) M := Iff.trans (zU_step dX4_add_11 (Or.inl rfl)) ⟨fun h => h.2.2, fun h => ⟨rfl, Or.inl rfl, h⟩⟩
theorem dX4_add_12 : decode cX4_add 12 = .ok (.aload_n 0, 1) := by decide +kernel
theorem rX4_add_12 {R : zP} {x1 x2 x3 x4 : Option zV} {st : List zV} {M : zM} {a : Nat} : uX4_add R 12 [some (.inr (.inr a)), x1, x2, x3, x4] st M ↔ uX4_add R 13 [some (.inr (.inr a)), x1, x2, x3, x4] (.inr (.inr a) :: st) M := zU_step dX4_add_12 (Or.inl rfl)
theorem dX4_add_13 : decode cX4_add 13 = .ok (.getfield 9, 3) := by decide +kernel
theorem rX4_add_13 {R : zP} {x0 x1 x2 x3 x4 : Option zV} {st : List zV} {M : zM} {r : Nat} : uX4_add R 13 [x0, x1, x2, x3, x4] (.inr (.inr r) :: st) M ↔ zgetx fX4 9 r M (fun v => uX4_add R 16 [x0, x1, x2, x3, x4] (v :: st) M) := zU_step dX4_add_13 (Or.inl rfl)
theorem dX4_add_16 : decode cX4_add 16 = .ok (.aload_n 0, 1) := by decide +kernel
theorem rX4_add_16 {R : zP} {x1 x2 x3 x4 : Option zV} {st : List zV} {M : zM} {a : Nat} : uX4_add R 16 [some (.inr (.inr a)), x1, x2, x3, x4] st M ↔ uX4_add R 17 [some (.inr (.inr a)), x1, x2, x3, x4] (.inr (.inr a) :: st) M := zU_step dX4_add_16 (Or.inl rfl)
theorem dX4_add_17 : decode cX4_add 17 = .ok (.getfield 24, 3) := by decide +kernel
theorem rX4_add_17 {R : zP} {x0 x1 x2 x3 x4 : Option zV} {st : List zV} {M : zM} {r : Nat} : uX4_add R 17 [x0, x1, x2, x3, x4] (.inr (.inr r) :: st) M ↔ zgetx fX4 24 r M (fun v => uX4_add R 20 [x0, x1, x2, x3, x4] (v :: st) M) := zU_step dX4_add_17 (Or.inl rfl)
theorem dX4_add_20 : decode cX4_add 20 = .ok (.iload_n 1, 1) := by decide +kernel
theorem rX4_add_20 {R : zP} {x0 x2 x3 x4 : Option zV} {st : List zV} {M : zM} {a : Int} : uX4_add R 20 [x0, some (.inl a), x2, x3, x4] st M ↔ uX4_add R 21 [x0, some (.inl a), x2, x3, x4] (.inl a :: st) M := zU_step dX4_add_20 (Or.inl rfl)
theorem dX4_add_21 : decode cX4_add 21 = .ok (.iastore, 1) := by decide +kernel
theorem rX4_add_21 {R : zP} {x0 x1 x2 x3 x4 : Option zV} {st : List zV} {M : zM} {i v : Int} {r : Nat} : uX4_add R 21 [x0, x1, x2, x3, x4] (.inl v :: .inl i :: .inr (.inr r) :: st) M ↔ zwrite 0 r i (uX4_add R 22 [x0, x1, x2, x3, x4] st (zup M r i v)) := zU_step dX4_add_21 (Or.inl rfl)
theorem dX4_add_22 : decode cX4_add 22 = .ok (.aload_n 0, 1) := by decide +kernel
theorem rX4_add_22 {R : zP} {x1 x2 x3 x4 : Option zV} {st : List zV} {M : zM} {a : Nat} : uX4_add R 22 [some (.inr (.inr a)), x1, x2, x3, x4] st M ↔ uX4_add R 23 [some (.inr (.inr a)), x1, x2, x3, x4] (.inr (.inr a) :: st) M := zU_step dX4_add_22 (Or.inl rfl)
theorem dX4_add_23 : decode cX4_add 23 = .ok (.getfield 15, 3) := by decide +kernel
theorem rX4_add_23 {R : zP} {x0 x1 x2 x3 x4 : Option zV} {st : List zV} {M : zM} {r : Nat} : uX4_add R 23 [x0, x1, x2, x3, x4] (.inr (.inr r) :: st) M ↔ zgetx fX4 15 r M (fun v => uX4_add R 26 [x0, x1, x2, x3, x4] (v :: st) M) := zU_step dX4_add_23 (Or.inl rfl)
theorem dX4_add_26 : decode cX4_add 26 = .ok (.aload_n 0, 1) := by decide +kernel
theorem rX4_add_26 {R : zP} {x1 x2 x3 x4 : Option zV} {st : List zV} {M : zM} {a : Nat} : uX4_add R 26 [some (.inr (.inr a)), x1, x2, x3, x4] st M ↔ uX4_add R 27 [some (.inr (.inr a)), x1, x2, x3, x4] (.inr (.inr a) :: st) M := zU_step dX4_add_26 (Or.inl rfl)
theorem dX4_add_27 : decode cX4_add 27 = .ok (.getfield 24, 3) := by decide +kernel
theorem rX4_add_27 {R : zP} {x0 x1 x2 x3 x4 : Option zV} {st : List zV} {M : zM} {r : Nat} : uX4_add R 27 [x0, x1, x2, x3, x4] (.inr (.inr r) :: st) M ↔ zgetx fX4 24 r M (fun v => uX4_add R 30 [x0, x1, x2, x3, x4] (v :: st) M) := zU_step dX4_add_27 (Or.inl rfl)
theorem dX4_add_30 : decode cX4_add 30 = .ok (.iload_n 2, 1) := by decide +kernel
theorem rX4_add_30 {R : zP} {x0 x1 x3 x4 : Option zV} {st : List zV} {M : zM} {a : Int} : uX4_add R 30 [x0, x1, some (.inl a), x3, x4] st M ↔ uX4_add R 31 [x0, x1, some (.inl a), x3, x4] (.inl a :: st) M := zU_step dX4_add_30 (Or.inl rfl)
theorem dX4_add_31 : decode cX4_add 31 = .ok (.iastore, 1) := by decide +kernel
theorem rX4_add_31 {R : zP} {x0 x1 x2 x3 x4 : Option zV} {st : List zV} {M : zM} {i v : Int} {r : Nat} : uX4_add R 31 [x0, x1, x2, x3, x4] (.inl v :: .inl i :: .inr (.inr r) :: st) M ↔ zwrite 0 r i (uX4_add R 32 [x0, x1, x2, x3, x4] st (zup M r i v)) := zU_step dX4_add_31 (Or.inl rfl)
theorem dX4_add_32 : decode cX4_add 32 = .ok (.aload_n 0, 1) := by decide +kernel
theorem rX4_add_32 {R : zP} {x1 x2 x3 x4 : Option zV} {st : List zV} {M : zM} {a : Nat} : uX4_add R 32 [some (.inr (.inr a)), x1, x2, x3, x4] st M ↔ uX4_add R 33 [some (.inr (.inr a)), x1, x2, x3, x4] (.inr (.inr a) :: st) M := zU_step dX4_add_32 (Or.inl rfl)
theorem dX4_add_33 : decode cX4_add 33 = .ok (.getfield 18, 3) := by decide +kernel
theorem rX4_add_33 {R : zP} {x0 x1 x2 x3 x4 : Option zV} {st : List zV} {M : zM} {r : Nat} : uX4_add R 33 [x0, x1, x2, x3, x4] (.inr (.inr r) :: st) M ↔ zgetx fX4 18 r M (fun v => uX4_add R 36 [x0, x1, x2, x3, x4] (v :: st) M) := zU_step dX4_add_33 (Or.inl rfl)
theorem dX4_add_36 : decode cX4_add 36 = .ok (.aload_n 0, 1) := by decide +kernel
theorem rX4_add_36 {R : zP} {x1 x2 x3 x4 : Option zV} {st : List zV} {M : zM} {a : Nat} : uX4_add R 36 [some (.inr (.inr a)), x1, x2, x3, x4] st M ↔ uX4_add R 37 [some (.inr (.inr a)), x1, x2, x3, x4] (.inr (.inr a) :: st) M := zU_step dX4_add_36 (Or.inl rfl)
theorem dX4_add_37 : decode cX4_add 37 = .ok (.getfield 24, 3) := by decide +kernel
theorem rX4_add_37 {R : zP} {x0 x1 x2 x3 x4 : Option zV} {st : List zV} {M : zM} {r : Nat} : uX4_add R 37 [x0, x1, x2, x3, x4] (.inr (.inr r) :: st) M ↔ zgetx fX4 24 r M (fun v => uX4_add R 40 [x0, x1, x2, x3, x4] (v :: st) M) := zU_step dX4_add_37 (Or.inl rfl)
theorem dX4_add_40 : decode cX4_add 40 = .ok (.iload_n 3, 1) := by decide +kernel
theorem rX4_add_40 {R : zP} {x0 x1 x2 x4 : Option zV} {st : List zV} {M : zM} {a : Int} : uX4_add R 40 [x0, x1, x2, some (.inl a), x4] st M ↔ uX4_add R 41 [x0, x1, x2, some (.inl a), x4] (.inl a :: st) M := zU_step dX4_add_40 (Or.inl rfl)
theorem dX4_add_41 : decode cX4_add 41 = .ok (.iastore, 1) := by decide +kernel
theorem rX4_add_41 {R : zP} {x0 x1 x2 x3 x4 : Option zV} {st : List zV} {M : zM} {i v : Int} {r : Nat} : uX4_add R 41 [x0, x1, x2, x3, x4] (.inl v :: .inl i :: .inr (.inr r) :: st) M ↔ zwrite 0 r i (uX4_add R 42 [x0, x1, x2, x3, x4] st (zup M r i v)) := zU_step dX4_add_41 (Or.inl rfl)
theorem dX4_add_42 : decode cX4_add 42 = .ok (.aload_n 0, 1) := by decide +kernel
theorem rX4_add_42 {R : zP} {x1 x2 x3 x4 : Option zV} {st : List zV} {M : zM} {a : Nat} : uX4_add R 42 [some (.inr (.inr a)), x1, x2, x3, x4] st M ↔ uX4_add R 43 [some (.inr (.inr a)), x1, x2, x3, x4] (.inr (.inr a) :: st) M := zU_step dX4_add_42 (Or.inl rfl)
theorem dX4_add_43 : decode cX4_add 43 = .ok (.getfield 24, 3) := by decide +kernel
theorem rX4_add_43 {R : zP} {x0 x1 x2 x3 x4 : Option zV} {st : List zV} {M : zM} {r : Nat} : uX4_add R 43 [x0, x1, x2, x3, x4] (.inr (.inr r) :: st) M ↔ zgetx fX4 24 r M (fun v => uX4_add R 46 [x0, x1, x2, x3, x4] (v :: st) M) := zU_step dX4_add_43 (Or.inl rfl)
theorem dX4_add_46 : decode cX4_add 46 = .ok (.istore 4, 2) := by decide +kernel
theorem rX4_add_46 {R : zP} {x0 x1 x2 x4 : Option zV} {st : List zV} {M : zM} {a : Int} {y : Int} : uX4_add R 46 [x0, x1, x2, some (.inl y), x4] (.inl a :: st) M ↔ uX4_add R 48 [x0, x1, x2, some (.inl y), some (.inl a)] st M := Iff.trans (zU_step dX4_add_46 (Or.inl rfl)) ⟨fun h => h.2, fun h => ⟨show 4 < 5 by decide, h⟩⟩
theorem rX4_add_46z {R : zP} {x0 x1 x2 x3 x4 : Option zV} {st : List zV} {M : zM} {a : Int} : uX4_add R 46 [x0, x1, x2, x3, x4] (.inl a :: st) M ↔ uX4_add R 48 [x0, x1, x2, zkeep x3, some (.inl a)] st M := Iff.trans (zU_step dX4_add_46 (Or.inl rfl)) ⟨fun h => h.2, fun h => ⟨show 4 < 5 by decide, h⟩⟩
theorem dX4_add_48 : decode cX4_add 48 = .ok (.iload 4, 2) := by decide +kernel
theorem rX4_add_48 {R : zP} {x0 x1 x2 x3 : Option zV} {st : List zV} {M : zM} {a : Int} : uX4_add R 48 [x0, x1, x2, x3, some (.inl a)] st M ↔ uX4_add R 50 [x0, x1, x2, x3, some (.inl a)] (.inl a :: st) M := zU_step dX4_add_48 (Or.inl rfl)
theorem dX4_add_50 : decode cX4_add 50 = .ok (.ifCond .le 43, 3) := by decide +kernel
theorem rX4_add_50 {R : zP} {x0 x1 x2 x3 x4 : Option zV} {st : List zV} {M : zM} {a : Int} : uX4_add R 50 [x0, x1, x2, x3, x4] (.inl a :: st) M ↔ (zIR a ∧ if a ≤ 0 then uX4_add R 93 [x0, x1, x2, x3, x4] st M else uX4_add R 53 [x0, x1, x2, x3, x4] st M) := Iff.trans (zU_step dX4_add_50 (Or.inl rfl)) ⟨fun h => ⟨h.1.1, (zite (c := a ≤ 0)).mpr h.2⟩, fun h => ⟨⟨h.1, by decide⟩, (zite (c := a ≤ 0)).mp h.2⟩⟩
theorem dX4_add_53 : decode cX4_add 53 = .ok (.aload_n 0, 1) := by decide +kernel
theorem rX4_add_53 {R : zP} {x1 x2 x3 x4 : Option zV} {st : List zV} {M : zM} {a : Nat} : uX4_add R 53 [some (.inr (.inr a)), x1, x2, x3, x4] st M ↔ uX4_add R 54 [some (.inr (.inr a)), x1, x2, x3, x4] (.inr (.inr a) :: st) M := zU_step dX4_add_53 (Or.inl rfl)
theorem dX4_add_54 : decode cX4_add 54 = .ok (.getfield 9, 3) := by decide +kernel
theorem rX4_add_54 {R : zP} {x0 x1 x2 x3 x4 : Option zV} {st : List zV} {M : zM} {r : Nat} : uX4_add R 54 [x0, x1, x2, x3, x4] (.inr (.inr r) :: st) M ↔ zgetx fX4 9 r M (fun v => uX4_add R 57 [x0, x1, x2, x3, x4] (v :: st) M) := zU_step dX4_add_54 (Or.inl rfl)
theorem dX4_add_57 : decode cX4_add 57 = .ok (.aload_n 0, 1) := by decide +kernel
theorem rX4_add_57 {R : zP} {x1 x2 x3 x4 : Option zV} {st : List zV} {M : zM} {a : Nat} : uX4_add R 57 [some (.inr (.inr a)), x1, x2, x3, x4] st M ↔ uX4_add R 58 [some (.inr (.inr a)), x1, x2, x3, x4] (.inr (.inr a) :: st) M := zU_step dX4_add_57 (Or.inl rfl)
theorem dX4_add_58 : decode cX4_add 58 = .ok (.getfield 21, 3) := by decide +kernel
theorem rX4_add_58 {R : zP} {x0 x1 x2 x3 x4 : Option zV} {st : List zV} {M : zM} {r : Nat} : uX4_add R 58 [x0, x1, x2, x3, x4] (.inr (.inr r) :: st) M ↔ zgetx fX4 21 r M (fun v => uX4_add R 61 [x0, x1, x2, x3, x4] (v :: st) M) := zU_step dX4_add_58 (Or.inl rfl)
theorem dX4_add_61 : decode cX4_add 61 = .ok (.iload 4, 2) := by decide +kernel
theorem rX4_add_61 {R : zP} {x0 x1 x2 x3 : Option zV} {st : List zV} {M : zM} {a : Int} : uX4_add R 61 [x0, x1, x2, x3, some (.inl a)] st M ↔ uX4_add R 63 [x0, x1, x2, x3, some (.inl a)] (.inl a :: st) M := zU_step dX4_add_61 (Or.inl rfl)
theorem dX4_add_63 : decode cX4_add 63 = .ok (.iconst 1, 1) := by decide +kernel
theorem rX4_add_63 {R : zP} {x0 x1 x2 x3 x4 : Option zV} {st : List zV} {M : zM} : uX4_add R 63 [x0, x1, x2, x3, x4] st M ↔ uX4_add R 64 [x0, x1, x2, x3, x4] (.inl (1) :: st) M := zU_step dX4_add_63 (Or.inl rfl)
theorem dX4_add_64 : decode cX4_add 64 = .ok (.isub, 1) := by decide +kernel
theorem rX4_add_64 {R : zP} {x0 x1 x2 x3 x4 : Option zV} {st : List zV} {M : zM} {a b : Int} : uX4_add R 64 [x0, x1, x2, x3, x4] (.inl b :: .inl a :: st) M ↔ uX4_add R 65 [x0, x1, x2, x3, x4] (.inl (a - b) :: st) M := zU_step dX4_add_64 (Or.inl rfl)
theorem dX4_add_65 : decode cX4_add 65 = .ok (.iaload, 1) := by decide +kernel
theorem rX4_add_65 {R : zP} {x0 x1 x2 x3 x4 : Option zV} {st : List zV} {M : zM} {i : Int} {r : Nat} : uX4_add R 65 [x0, x1, x2, x3, x4] (.inl i :: .inr (.inr r) :: st) M ↔ zread fX4 0 r M i (fun v => uX4_add R 66 [x0, x1, x2, x3, x4] (.inl v :: st) M) := zU_step dX4_add_65 (Or.inl rfl)
theorem dX4_add_66 : decode cX4_add 66 = .ok (.iaload, 1) := by decide +kernel
theorem rX4_add_66 {R : zP} {x0 x1 x2 x3 x4 : Option zV} {st : List zV} {M : zM} {i : Int} {r : Nat} : uX4_add R 66 [x0, x1, x2, x3, x4] (.inl i :: .inr (.inr r) :: st) M ↔ zread fX4 0 r M i (fun v => uX4_add R 67 [x0, x1, x2, x3, x4] (.inl v :: st) M) := zU_step dX4_add_66 (Or.inl rfl)
theorem dX4_add_67 : decode cX4_add 67 = .ok (.iload_n 1, 1) := by decide +kernel
theorem rX4_add_67 {R : zP} {x0 x2 x3 x4 : Option zV} {st : List zV} {M : zM} {a : Int} : uX4_add R 67 [x0, some (.inl a), x2, x3, x4] st M ↔ uX4_add R 68 [x0, some (.inl a), x2, x3, x4] (.inl a :: st) M := zU_step dX4_add_67 (Or.inl rfl)
theorem dX4_add_68 : decode cX4_add 68 = .ok (.if_icmp .le 25, 3) := by decide +kernel
theorem rX4_add_68 {R : zP} {x0 x1 x2 x3 x4 : Option zV} {st : List zV} {M : zM} {a b : Int} : uX4_add R 68 [x0, x1, x2, x3, x4] (.inl b :: .inl a :: st) M ↔ ((zIR a ∧ zIR b) ∧ if a ≤ b then uX4_add R 93 [x0, x1, x2, x3, x4] st M else uX4_add R 71 [x0, x1, x2, x3, x4] st M) := Iff.trans (zU_step dX4_add_68 (Or.inl rfl)) ⟨fun h => ⟨⟨h.1.1, h.1.2.1⟩, (zite (c := a ≤ b)).mpr h.2⟩, fun h => ⟨⟨h.1.1, h.1.2, by decide⟩, (zite (c := a ≤ b)).mp h.2⟩⟩
theorem dX4_add_71 : decode cX4_add 71 = .ok (.aload_n 0, 1) := by decide +kernel
theorem rX4_add_71 {R : zP} {x1 x2 x3 x4 : Option zV} {st : List zV} {M : zM} {a : Nat} : uX4_add R 71 [some (.inr (.inr a)), x1, x2, x3, x4] st M ↔ uX4_add R 72 [some (.inr (.inr a)), x1, x2, x3, x4] (.inr (.inr a) :: st) M := zU_step dX4_add_71 (Or.inl rfl)
theorem dX4_add_72 : decode cX4_add 72 = .ok (.getfield 21, 3) := by decide +kernel
theorem rX4_add_72 {R : zP} {x0 x1 x2 x3 x4 : Option zV} {st : List zV} {M : zM} {r : Nat} : uX4_add R 72 [x0, x1, x2, x3, x4] (.inr (.inr r) :: st) M ↔ zgetx fX4 21 r M (fun v => uX4_add R 75 [x0, x1, x2, x3, x4] (v :: st) M) := zU_step dX4_add_72 (Or.inl rfl)
theorem dX4_add_75 : decode cX4_add 75 = .ok (.iload 4, 2) := by decide +kernel
theorem rX4_add_75 {R : zP} {x0 x1 x2 x3 : Option zV} {st : List zV} {M : zM} {a : Int} : uX4_add R 75 [x0, x1, x2, x3, some (.inl a)] st M ↔ uX4_add R 77 [x0, x1, x2, x3, some (.inl a)] (.inl a :: st) M := zU_step dX4_add_75 (Or.inl rfl)
theorem dX4_add_77 : decode cX4_add 77 = .ok (.aload_n 0, 1) := by decide +kernel
theorem rX4_add_77 {R : zP} {x1 x2 x3 x4 : Option zV} {st : List zV} {M : zM} {a : Nat} : uX4_add R 77 [some (.inr (.inr a)), x1, x2, x3, x4] st M ↔ uX4_add R 78 [some (.inr (.inr a)), x1, x2, x3, x4] (.inr (.inr a) :: st) M := zU_step dX4_add_77 (Or.inl rfl)
theorem dX4_add_78 : decode cX4_add 78 = .ok (.getfield 21, 3) := by decide +kernel
theorem rX4_add_78 {R : zP} {x0 x1 x2 x3 x4 : Option zV} {st : List zV} {M : zM} {r : Nat} : uX4_add R 78 [x0, x1, x2, x3, x4] (.inr (.inr r) :: st) M ↔ zgetx fX4 21 r M (fun v => uX4_add R 81 [x0, x1, x2, x3, x4] (v :: st) M) := zU_step dX4_add_78 (Or.inl rfl)
theorem dX4_add_81 : decode cX4_add 81 = .ok (.iload 4, 2) := by decide +kernel
theorem rX4_add_81 {R : zP} {x0 x1 x2 x3 : Option zV} {st : List zV} {M : zM} {a : Int} : uX4_add R 81 [x0, x1, x2, x3, some (.inl a)] st M ↔ uX4_add R 83 [x0, x1, x2, x3, some (.inl a)] (.inl a :: st) M := zU_step dX4_add_81 (Or.inl rfl)
theorem dX4_add_83 : decode cX4_add 83 = .ok (.iconst 1, 1) := by decide +kernel
theorem rX4_add_83 {R : zP} {x0 x1 x2 x3 x4 : Option zV} {st : List zV} {M : zM} : uX4_add R 83 [x0, x1, x2, x3, x4] st M ↔ uX4_add R 84 [x0, x1, x2, x3, x4] (.inl (1) :: st) M := zU_step dX4_add_83 (Or.inl rfl)
theorem dX4_add_84 : decode cX4_add 84 = .ok (.isub, 1) := by decide +kernel
theorem rX4_add_84 {R : zP} {x0 x1 x2 x3 x4 : Option zV} {st : List zV} {M : zM} {a b : Int} : uX4_add R 84 [x0, x1, x2, x3, x4] (.inl b :: .inl a :: st) M ↔ uX4_add R 85 [x0, x1, x2, x3, x4] (.inl (a - b) :: st) M := zU_step dX4_add_84 (Or.inl rfl)
theorem dX4_add_85 : decode cX4_add 85 = .ok (.iaload, 1) := by decide +kernel
theorem rX4_add_85 {R : zP} {x0 x1 x2 x3 x4 : Option zV} {st : List zV} {M : zM} {i : Int} {r : Nat} : uX4_add R 85 [x0, x1, x2, x3, x4] (.inl i :: .inr (.inr r) :: st) M ↔ zread fX4 0 r M i (fun v => uX4_add R 86 [x0, x1, x2, x3, x4] (.inl v :: st) M) := zU_step dX4_add_85 (Or.inl rfl)
theorem dX4_add_86 : decode cX4_add 86 = .ok (.iastore, 1) := by decide +kernel
theorem rX4_add_86 {R : zP} {x0 x1 x2 x3 x4 : Option zV} {st : List zV} {M : zM} {i v : Int} {r : Nat} : uX4_add R 86 [x0, x1, x2, x3, x4] (.inl v :: .inl i :: .inr (.inr r) :: st) M ↔ zwrite 0 r i (uX4_add R 87 [x0, x1, x2, x3, x4] st (zup M r i v)) := zU_step dX4_add_86 (Or.inl rfl)
theorem dX4_add_87 : decode cX4_add 87 = .ok (.iinc 4 (-1), 3) := by decide +kernel
theorem rX4_add_87 {R : zP} {x0 x1 x2 : Option zV} {st : List zV} {M : zM} {a : Int} {y : Int} : uX4_add R 87 [x0, x1, x2, some (.inl y), some (.inl a)] st M ↔ uX4_add R 90 [x0, x1, x2, some (.inl y), some (.inl (a + (-1)))] st M := Iff.trans (zU_step dX4_add_87 (Or.inl rfl)) ⟨fun h => h.2, fun h => ⟨show 4 < 5 by decide, h⟩⟩
theorem rX4_add_87z {R : zP} {x0 x1 x2 x3 : Option zV} {st : List zV} {M : zM} {a : Int} : uX4_add R 87 [x0, x1, x2, x3, some (.inl a)] st M ↔ uX4_add R 90 [x0, x1, x2, zkeep x3, some (.inl (a + (-1)))] st M := Iff.trans (zU_step dX4_add_87 (Or.inl rfl)) ⟨fun h => h.2, fun h => ⟨show 4 < 5 by decide, h⟩⟩
theorem dX4_add_90 : decode cX4_add 90 = .ok (.goto (-42), 3) := by decide +kernel
theorem rX4_add_90 {R : zP} {x0 x1 x2 x3 x4 : Option zV} {st : List zV} {M : zM} : uX4_add R 90 [x0, x1, x2, x3, x4] st M ↔ uX4_add R 48 [x0, x1, x2, x3, x4] st M := Iff.trans (zU_step dX4_add_90 (Or.inl rfl)) ⟨fun h => h.2, fun h => ⟨by decide, h⟩⟩
theorem dX4_add_93 : decode cX4_add 93 = .ok (.aload_n 0, 1) := by decide +kernel
theorem rX4_add_93 {R : zP} {x1 x2 x3 x4 : Option zV} {st : List zV} {M : zM} {a : Nat} : uX4_add R 93 [some (.inr (.inr a)), x1, x2, x3, x4] st M ↔ uX4_add R 94 [some (.inr (.inr a)), x1, x2, x3, x4] (.inr (.inr a) :: st) M := zU_step dX4_add_93 (Or.inl rfl)
theorem dX4_add_94 : decode cX4_add 94 = .ok (.getfield 21, 3) := by decide +kernel
theorem rX4_add_94 {R : zP} {x0 x1 x2 x3 x4 : Option zV} {st : List zV} {M : zM} {r : Nat} : uX4_add R 94 [x0, x1, x2, x3, x4] (.inr (.inr r) :: st) M ↔ zgetx fX4 21 r M (fun v => uX4_add R 97 [x0, x1, x2, x3, x4] (v :: st) M) := zU_step dX4_add_94 (Or.inl rfl)
theorem dX4_add_97 : decode cX4_add 97 = .ok (.iload 4, 2) := by decide +kernel
theorem rX4_add_97 {R : zP} {x0 x1 x2 x3 : Option zV} {st : List zV} {M : zM} {a : Int} : uX4_add R 97 [x0, x1, x2, x3, some (.inl a)] st M ↔ uX4_add R 99 [x0, x1, x2, x3, some (.inl a)] (.inl a :: st) M := zU_step dX4_add_97 (Or.inl rfl)
theorem dX4_add_99 : decode cX4_add 99 = .ok (.aload_n 0, 1) := by decide +kernel
theorem rX4_add_99 {R : zP} {x1 x2 x3 x4 : Option zV} {st : List zV} {M : zM} {a : Nat} : uX4_add R 99 [some (.inr (.inr a)), x1, x2, x3, x4] st M ↔ uX4_add R 100 [some (.inr (.inr a)), x1, x2, x3, x4] (.inr (.inr a) :: st) M := zU_step dX4_add_99 (Or.inl rfl)
theorem dX4_add_100 : decode cX4_add 100 = .ok (.getfield 24, 3) := by decide +kernel
theorem rX4_add_100 {R : zP} {x0 x1 x2 x3 x4 : Option zV} {st : List zV} {M : zM} {r : Nat} : uX4_add R 100 [x0, x1, x2, x3, x4] (.inr (.inr r) :: st) M ↔ zgetx fX4 24 r M (fun v => uX4_add R 103 [x0, x1, x2, x3, x4] (v :: st) M) := zU_step dX4_add_100 (Or.inl rfl)
theorem dX4_add_103 : decode cX4_add 103 = .ok (.iastore, 1) := by decide +kernel
theorem rX4_add_103 {R : zP} {x0 x1 x2 x3 x4 : Option zV} {st : List zV} {M : zM} {i v : Int} {r : Nat} : uX4_add R 103 [x0, x1, x2, x3, x4] (.inl v :: .inl i :: .inr (.inr r) :: st) M ↔ zwrite 0 r i (uX4_add R 104 [x0, x1, x2, x3, x4] st (zup M r i v)) := zU_step dX4_add_103 (Or.inl rfl)
theorem dX4_add_104 : decode cX4_add 104 = .ok (.aload_n 0, 1) := by decide +kernel
theorem rX4_add_104 {R : zP} {x1 x2 x3 x4 : Option zV} {st : List zV} {M : zM} {a : Nat} : uX4_add R 104 [some (.inr (.inr a)), x1, x2, x3, x4] st M ↔ uX4_add R 105 [some (.inr (.inr a)), x1, x2, x3, x4] (.inr (.inr a) :: st) M := zU_step dX4_add_104 (Or.inl rfl)
theorem dX4_add_105 : decode cX4_add 105 = .ok (.dup, 1) := by decide +kernel
theorem rX4_add_105 {R : zP} {x0 x1 x2 x3 x4 : Option zV} {st : List zV} {M : zM} {a : Nat} : uX4_add R 105 [x0, x1, x2, x3, x4] (.inr (.inr a) :: st) M ↔ uX4_add R 106 [x0, x1, x2, x3, x4] (.inr (.inr a) :: .inr (.inr a) :: st) M := zU_step dX4_add_105 (Or.inl rfl)
theorem dX4_add_106 : decode cX4_add 106 = .ok (.getfield 24, 3) := by decide +kernel
theorem rX4_add_106 {R : zP} {x0 x1 x2 x3 x4 : Option zV} {st : List zV} {M : zM} {r : Nat} : uX4_add R 106 [x0, x1, x2, x3, x4] (.inr (.inr r) :: st) M ↔ zgetx fX4 24 r M (fun v => uX4_add R 109 [x0, x1, x2, x3, x4] (v :: st) M) := zU_step dX4_add_106 (Or.inl rfl)
theorem dX4_add_109 : decode cX4_add 109 = .ok (.iconst 1, 1) := by decide +kernel
theorem rX4_add_109 {R : zP} {x0 x1 x2 x3 x4 : Option zV} {st : List zV} {M : zM} : uX4_add R 109 [x0, x1, x2, x3, x4] st M ↔ uX4_add R 110 [x0, x1, x2, x3, x4] (.inl (1) :: st) M := zU_step dX4_add_109 (Or.inl rfl)
theorem dX4_add_110 : decode cX4_add 110 = .ok (.iadd, 1) := by decide +kernel
theorem rX4_add_110 {R : zP} {x0 x1 x2 x3 x4 : Option zV} {st : List zV} {M : zM} {a b : Int} : uX4_add R 110 [x0, x1, x2, x3, x4] (.inl b :: .inl a :: st) M ↔ uX4_add R 111 [x0, x1, x2, x3, x4] (.inl (a + b) :: st) M := zU_step dX4_add_110 (Or.inl rfl)
theorem dX4_add_111 : decode cX4_add 111 = .ok (.putfield 24, 3) := by decide +kernel
theorem rX4_add_111 {R : zP} {x0 x1 x2 x3 x4 : Option zV} {st : List zV} {M : zM} {r : Nat} {v : zV} : uX4_add R 111 [x0, x1, x2, x3, x4] (v :: .inr (.inr r) :: st) M ↔ zputx fX4 24 r M v (fun M => uX4_add R 114 [x0, x1, x2, x3, x4] st M) := zU_step dX4_add_111 (Or.inl rfl)
theorem dX4_add_114 : decode cX4_add 114 = .ok (.aload_n 0, 1) := by decide +kernel
theorem rX4_add_114 {R : zP} {x1 x2 x3 x4 : Option zV} {st : List zV} {M : zM} {a : Nat} : uX4_add R 114 [some (.inr (.inr a)), x1, x2, x3, x4] st M ↔ uX4_add R 115 [some (.inr (.inr a)), x1, x2, x3, x4] (.inr (.inr a) :: st) M := zU_step dX4_add_114 (Or.inl rfl)
theorem dX4_add_115 : decode cX4_add 115 = .ok (.getfield 24, 3) := by decide +kernel
theorem rX4_add_115 {R : zP} {x0 x1 x2 x3 x4 : Option zV} {st : List zV} {M : zM} {r : Nat} : uX4_add R 115 [x0, x1, x2, x3, x4] (.inr (.inr r) :: st) M ↔ zgetx fX4 24 r M (fun v => uX4_add R 118 [x0, x1, x2, x3, x4] (v :: st) M) := zU_step dX4_add_115 (Or.inl rfl)
theorem dX4_add_118 : decode cX4_add 118 = .ok (.ireturn, 1) := by decide +kernel
theorem rX4_add_118 {R : zP} {x0 x1 x2 x3 x4 : Option zV} {M : zM} {a : Int} : uX4_add R 118 [x0, x1, x2, x3, x4] [.inl a] M ↔ R (some (.inl a)) M := Iff.trans (zU_step dX4_add_118 (Or.inl rfl)) ⟨fun h => h.2.2, fun h => ⟨rfl, Or.inl rfl, h⟩⟩
theorem eX4_add {R : zP} {M : zM} {a0 : Nat} {p0 : Int} {p1 : Int} {p2 : Int} : tX4_add [.inr (.inr a0), .inl p0, .inl p1, .inl p2] M R ↔ uX4_add R 0 [some (.inr (.inr a0)), some (.inl p0), some (.inl p1), some (.inl p2), none] [] M := ⟨fun h => h.2, fun h => ⟨show 4 ≤ 5 by decide, h⟩⟩
def uX4_dropLast (R : zP) : zK := zU fX4 vX4_dropLast cX4_dropLast R
theorem dX4_dropLast_0 : decode cX4_dropLast 0 = .ok (.aload_n 0, 1) := by decide +kernel
theorem rX4_dropLast_0 {R : zP} {x1 x2 : Option zV} {st : List zV} {M : zM} {a : Nat} : uX4_dropLast R 0 [some (.inr (.inr a)), x1, x2] st M ↔ uX4_dropLast R 1 [some (.inr (.inr a)), x1, x2] (.inr (.inr a) :: st) M := zU_step dX4_dropLast_0 (Or.inl rfl)
theorem dX4_dropLast_1 : decode cX4_dropLast 1 = .ok (.getfield 24, 3) := by decide +kernel
theorem rX4_dropLast_1 {R : zP} {x0 x1 x2 : Option zV} {st : List zV} {M : zM} {r : Nat} : uX4_dropLast R 1 [x0, x1, x2] (.inr (.inr r) :: st) M ↔ zgetx fX4 24 r M (fun v => uX4_dropLast R 4 [x0, x1, x2] (v :: st) M) := zU_step dX4_dropLast_1 (Or.inl rfl)
theorem dX4_dropLast_4 : decode cX4_dropLast 4 = .ok (.ifCond .ne 6, 3) := by decide +kernel
theorem rX4_dropLast_4 {R : zP} {x0 x1 x2 : Option zV} {st : List zV} {M : zM} {a : Int} : uX4_dropLast R 4 [x0, x1, x2] (.inl a :: st) M ↔ (zIR a ∧ if a ≠ 0 then uX4_dropLast R 10 [x0, x1, x2] st M else uX4_dropLast R 7 [x0, x1, x2] st M) := Iff.trans (zU_step dX4_dropLast_4 (Or.inl rfl)) ⟨fun h => ⟨h.1.1, (zite (c := a ≠ 0)).mpr h.2⟩, fun h => ⟨⟨h.1, by decide⟩, (zite (c := a ≠ 0)).mp h.2⟩⟩
theorem dX4_dropLast_7 : decode cX4_dropLast 7 = .ok (.bipush (-3), 2) := by decide +kernel
theorem rX4_dropLast_7 {R : zP} {x0 x1 x2 : Option zV} {st : List zV} {M : zM} : uX4_dropLast R 7 [x0, x1, x2] st M ↔ uX4_dropLast R 9 [x0, x1, x2] (.inl (-3) :: st) M := Iff.trans (zU_step dX4_dropLast_7 (Or.inl rfl)) ⟨fun h => h.2, fun h => ⟨by decide, h⟩⟩
theorem dX4_dropLast_9 : decode cX4_dropLast 9 = .ok (.ireturn, 1) := by decide +kernel
theorem rX4_dropLast_9 {R : zP} {x0 x1 x2 : Option zV} {M : zM} {a : Int} : uX4_dropLast R 9 [x0, x1, x2] [.inl a] M ↔ R (some (.inl a)) M := Iff.trans (zU_step dX4_dropLast_9 (Or.inl rfl)) ⟨fun h => h.2.2, fun h => ⟨rfl, Or.inl rfl, h⟩⟩
theorem dX4_dropLast_10 : decode cX4_dropLast 10 = .ok (.iconst 0, 1) := by decide +kernel
theorem rX4_dropLast_10 {R : zP} {x0 x1 x2 : Option zV} {st : List zV} {M : zM} : uX4_dropLast R 10 [x0, x1, x2] st M ↔ uX4_dropLast R 11 [x0, x1, x2] (.inl (0) :: st) M := zU_step dX4_dropLast_10 (Or.inl rfl)
theorem dX4_dropLast_11 : decode cX4_dropLast 11 = .ok (.istore_n 1, 1) := by decide +kernel
theorem rX4_dropLast_11 {R : zP} {x1 x2 : Option zV} {st : List zV} {M : zM} {a : Int} {y : Nat} : uX4_dropLast R 11 [some (.inr (.inr y)), x1, x2] (.inl a :: st) M ↔ uX4_dropLast R 12 [some (.inr (.inr y)), some (.inl a), x2] st M := Iff.trans (zU_step dX4_dropLast_11 (Or.inl rfl)) ⟨fun h => h.2, fun h => ⟨show 1 < 3 by decide, h⟩⟩
theorem rX4_dropLast_11z {R : zP} {x0 x1 x2 : Option zV} {st : List zV} {M : zM} {a : Int} : uX4_dropLast R 11 [x0, x1, x2] (.inl a :: st) M ↔ uX4_dropLast R 12 [zkeep x0, some (.inl a), x2] st M := Iff.trans (zU_step dX4_dropLast_11 (Or.inl rfl)) ⟨fun h => h.2, fun h => ⟨show 1 < 3 by decide, h⟩⟩
theorem dX4_dropLast_12 : decode cX4_dropLast 12 = .ok (.iconst 0, 1) := by decide +kernel
theorem rX4_dropLast_12 {R : zP} {x0 x1 x2 : Option zV} {st : List zV} {M : zM} : uX4_dropLast R 12 [x0, x1, x2] st M ↔ uX4_dropLast R 13 [x0, x1, x2] (.inl (0) :: st) M := zU_step dX4_dropLast_12 (Or.inl rfl)
theorem dX4_dropLast_13 : decode cX4_dropLast 13 = .ok (.istore_n 2, 1) := by decide +kernel
theorem rX4_dropLast_13 {R : zP} {x0 x2 : Option zV} {st : List zV} {M : zM} {a : Int} {y : Int} : uX4_dropLast R 13 [x0, some (.inl y), x2] (.inl a :: st) M ↔ uX4_dropLast R 14 [x0, some (.inl y), some (.inl a)] st M := Iff.trans (zU_step dX4_dropLast_13 (Or.inl rfl)) ⟨fun h => h.2, fun h => ⟨show 2 < 3 by decide, h⟩⟩
theorem rX4_dropLast_13z {R : zP} {x0 x1 x2 : Option zV} {st : List zV} {M : zM} {a : Int} : uX4_dropLast R 13 [x0, x1, x2] (.inl a :: st) M ↔ uX4_dropLast R 14 [x0, zkeep x1, some (.inl a)] st M := Iff.trans (zU_step dX4_dropLast_13 (Or.inl rfl)) ⟨fun h => h.2, fun h => ⟨show 2 < 3 by decide, h⟩⟩
theorem dX4_dropLast_14 : decode cX4_dropLast 14 = .ok (.iload_n 2, 1) := by decide +kernel
theorem rX4_dropLast_14 {R : zP} {x0 x1 : Option zV} {st : List zV} {M : zM} {a : Int} : uX4_dropLast R 14 [x0, x1, some (.inl a)] st M ↔ uX4_dropLast R 15 [x0, x1, some (.inl a)] (.inl a :: st) M := zU_step dX4_dropLast_14 (Or.inl rfl)
theorem dX4_dropLast_15 : decode cX4_dropLast 15 = .ok (.aload_n 0, 1) := by decide +kernel
theorem rX4_dropLast_15 {R : zP} {x1 x2 : Option zV} {st : List zV} {M : zM} {a : Nat} : uX4_dropLast R 15 [some (.inr (.inr a)), x1, x2] st M ↔ uX4_dropLast R 16 [some (.inr (.inr a)), x1, x2] (.inr (.inr a) :: st) M := zU_step dX4_dropLast_15 (Or.inl rfl)
theorem dX4_dropLast_16 : decode cX4_dropLast 16 = .ok (.getfield 24, 3) := by decide +kernel
theorem rX4_dropLast_16 {R : zP} {x0 x1 x2 : Option zV} {st : List zV} {M : zM} {r : Nat} : uX4_dropLast R 16 [x0, x1, x2] (.inr (.inr r) :: st) M ↔ zgetx fX4 24 r M (fun v => uX4_dropLast R 19 [x0, x1, x2] (v :: st) M) := zU_step dX4_dropLast_16 (Or.inl rfl)
theorem dX4_dropLast_19 : decode cX4_dropLast 19 = .ok (.if_icmp .ge 39, 3) := by decide +kernel
theorem rX4_dropLast_19 {R : zP} {x0 x1 x2 : Option zV} {st : List zV} {M : zM} {a b : Int} : uX4_dropLast R 19 [x0, x1, x2] (.inl b :: .inl a :: st) M ↔ ((zIR a ∧ zIR b) ∧ if b ≤ a then uX4_dropLast R 58 [x0, x1, x2] st M else uX4_dropLast R 22 [x0, x1, x2] st M) := Iff.trans (zU_step dX4_dropLast_19 (Or.inl rfl)) ⟨fun h => ⟨⟨h.1.1, h.1.2.1⟩, (zite (c := b ≤ a)).mpr h.2⟩, fun h => ⟨⟨h.1.1, h.1.2, by decide⟩, (zite (c := b ≤ a)).mp h.2⟩⟩
theorem dX4_dropLast_22 : decode cX4_dropLast 22 = .ok (.aload_n 0, 1) := by decide +kernel
theorem rX4_dropLast_22 {R : zP} {x1 x2 : Option zV} {st : List zV} {M : zM} {a : Nat} : uX4_dropLast R 22 [some (.inr (.inr a)), x1, x2] st M ↔ uX4_dropLast R 23 [some (.inr (.inr a)), x1, x2] (.inr (.inr a) :: st) M := zU_step dX4_dropLast_22 (Or.inl rfl)
theorem dX4_dropLast_23 : decode cX4_dropLast 23 = .ok (.getfield 21, 3) := by decide +kernel
theorem rX4_dropLast_23 {R : zP} {x0 x1 x2 : Option zV} {st : List zV} {M : zM} {r : Nat} : uX4_dropLast R 23 [x0, x1, x2] (.inr (.inr r) :: st) M ↔ zgetx fX4 21 r M (fun v => uX4_dropLast R 26 [x0, x1, x2] (v :: st) M) := zU_step dX4_dropLast_23 (Or.inl rfl)
theorem dX4_dropLast_26 : decode cX4_dropLast 26 = .ok (.iload_n 2, 1) := by decide +kernel
theorem rX4_dropLast_26 {R : zP} {x0 x1 : Option zV} {st : List zV} {M : zM} {a : Int} : uX4_dropLast R 26 [x0, x1, some (.inl a)] st M ↔ uX4_dropLast R 27 [x0, x1, some (.inl a)] (.inl a :: st) M := zU_step dX4_dropLast_26 (Or.inl rfl)
theorem dX4_dropLast_27 : decode cX4_dropLast 27 = .ok (.iaload, 1) := by decide +kernel
theorem rX4_dropLast_27 {R : zP} {x0 x1 x2 : Option zV} {st : List zV} {M : zM} {i : Int} {r : Nat} : uX4_dropLast R 27 [x0, x1, x2] (.inl i :: .inr (.inr r) :: st) M ↔ zread fX4 0 r M i (fun v => uX4_dropLast R 28 [x0, x1, x2] (.inl v :: st) M) := zU_step dX4_dropLast_27 (Or.inl rfl)
theorem dX4_dropLast_28 : decode cX4_dropLast 28 = .ok (.aload_n 0, 1) := by decide +kernel
theorem rX4_dropLast_28 {R : zP} {x1 x2 : Option zV} {st : List zV} {M : zM} {a : Nat} : uX4_dropLast R 28 [some (.inr (.inr a)), x1, x2] st M ↔ uX4_dropLast R 29 [some (.inr (.inr a)), x1, x2] (.inr (.inr a) :: st) M := zU_step dX4_dropLast_28 (Or.inl rfl)
theorem dX4_dropLast_29 : decode cX4_dropLast 29 = .ok (.getfield 24, 3) := by decide +kernel
theorem rX4_dropLast_29 {R : zP} {x0 x1 x2 : Option zV} {st : List zV} {M : zM} {r : Nat} : uX4_dropLast R 29 [x0, x1, x2] (.inr (.inr r) :: st) M ↔ zgetx fX4 24 r M (fun v => uX4_dropLast R 32 [x0, x1, x2] (v :: st) M) := zU_step dX4_dropLast_29 (Or.inl rfl)
theorem dX4_dropLast_32 : decode cX4_dropLast 32 = .ok (.iconst 1, 1) := by decide +kernel
theorem rX4_dropLast_32 {R : zP} {x0 x1 x2 : Option zV} {st : List zV} {M : zM} : uX4_dropLast R 32 [x0, x1, x2] st M ↔ uX4_dropLast R 33 [x0, x1, x2] (.inl (1) :: st) M := zU_step dX4_dropLast_32 (Or.inl rfl)
theorem dX4_dropLast_33 : decode cX4_dropLast 33 = .ok (.isub, 1) := by decide +kernel
theorem rX4_dropLast_33 {R : zP} {x0 x1 x2 : Option zV} {st : List zV} {M : zM} {a b : Int} : uX4_dropLast R 33 [x0, x1, x2] (.inl b :: .inl a :: st) M ↔ uX4_dropLast R 34 [x0, x1, x2] (.inl (a - b) :: st) M := zU_step dX4_dropLast_33 (Or.inl rfl)
theorem dX4_dropLast_34 : decode cX4_dropLast 34 = .ok (.if_icmp .eq 18, 3) := by decide +kernel
theorem rX4_dropLast_34 {R : zP} {x0 x1 x2 : Option zV} {st : List zV} {M : zM} {a b : Int} : uX4_dropLast R 34 [x0, x1, x2] (.inl b :: .inl a :: st) M ↔ ((zIR a ∧ zIR b) ∧ if a = b then uX4_dropLast R 52 [x0, x1, x2] st M else uX4_dropLast R 37 [x0, x1, x2] st M) := Iff.trans (zU_step dX4_dropLast_34 (Or.inl rfl)) ⟨fun h => ⟨⟨h.1.1, h.1.2.1⟩, (zite (c := a = b)).mpr h.2⟩, fun h => ⟨⟨h.1.1, h.1.2, by decide⟩, (zite (c := a = b)).mp h.2⟩⟩
theorem dX4_dropLast_37 : decode cX4_dropLast 37 = .ok (.aload_n 0, 1) := by decide +kernel
theorem rX4_dropLast_37 {R : zP} {x1 x2 : Option zV} {st : List zV} {M : zM} {a : Nat} : uX4_dropLast R 37 [some (.inr (.inr a)), x1, x2] st M ↔ uX4_dropLast R 38 [some (.inr (.inr a)), x1, x2] (.inr (.inr a) :: st) M := zU_step dX4_dropLast_37 (Or.inl rfl)
theorem dX4_dropLast_38 : decode cX4_dropLast 38 = .ok (.getfield 21, 3) := by decide +kernel
theorem rX4_dropLast_38 {R : zP} {x0 x1 x2 : Option zV} {st : List zV} {M : zM} {r : Nat} : uX4_dropLast R 38 [x0, x1, x2] (.inr (.inr r) :: st) M ↔ zgetx fX4 21 r M (fun v => uX4_dropLast R 41 [x0, x1, x2] (v :: st) M) := zU_step dX4_dropLast_38 (Or.inl rfl)
theorem dX4_dropLast_41 : decode cX4_dropLast 41 = .ok (.iload_n 1, 1) := by decide +kernel
theorem rX4_dropLast_41 {R : zP} {x0 x2 : Option zV} {st : List zV} {M : zM} {a : Int} : uX4_dropLast R 41 [x0, some (.inl a), x2] st M ↔ uX4_dropLast R 42 [x0, some (.inl a), x2] (.inl a :: st) M := zU_step dX4_dropLast_41 (Or.inl rfl)
theorem dX4_dropLast_42 : decode cX4_dropLast 42 = .ok (.aload_n 0, 1) := by decide +kernel
theorem rX4_dropLast_42 {R : zP} {x1 x2 : Option zV} {st : List zV} {M : zM} {a : Nat} : uX4_dropLast R 42 [some (.inr (.inr a)), x1, x2] st M ↔ uX4_dropLast R 43 [some (.inr (.inr a)), x1, x2] (.inr (.inr a) :: st) M := zU_step dX4_dropLast_42 (Or.inl rfl)
theorem dX4_dropLast_43 : decode cX4_dropLast 43 = .ok (.getfield 21, 3) := by decide +kernel
theorem rX4_dropLast_43 {R : zP} {x0 x1 x2 : Option zV} {st : List zV} {M : zM} {r : Nat} : uX4_dropLast R 43 [x0, x1, x2] (.inr (.inr r) :: st) M ↔ zgetx fX4 21 r M (fun v => uX4_dropLast R 46 [x0, x1, x2] (v :: st) M) := zU_step dX4_dropLast_43 (Or.inl rfl)
theorem dX4_dropLast_46 : decode cX4_dropLast 46 = .ok (.iload_n 2, 1) := by decide +kernel
theorem rX4_dropLast_46 {R : zP} {x0 x1 : Option zV} {st : List zV} {M : zM} {a : Int} : uX4_dropLast R 46 [x0, x1, some (.inl a)] st M ↔ uX4_dropLast R 47 [x0, x1, some (.inl a)] (.inl a :: st) M := zU_step dX4_dropLast_46 (Or.inl rfl)
theorem dX4_dropLast_47 : decode cX4_dropLast 47 = .ok (.iaload, 1) := by decide +kernel
theorem rX4_dropLast_47 {R : zP} {x0 x1 x2 : Option zV} {st : List zV} {M : zM} {i : Int} {r : Nat} : uX4_dropLast R 47 [x0, x1, x2] (.inl i :: .inr (.inr r) :: st) M ↔ zread fX4 0 r M i (fun v => uX4_dropLast R 48 [x0, x1, x2] (.inl v :: st) M) := zU_step dX4_dropLast_47 (Or.inl rfl)
theorem dX4_dropLast_48 : decode cX4_dropLast 48 = .ok (.iastore, 1) := by decide +kernel
theorem rX4_dropLast_48 {R : zP} {x0 x1 x2 : Option zV} {st : List zV} {M : zM} {i v : Int} {r : Nat} : uX4_dropLast R 48 [x0, x1, x2] (.inl v :: .inl i :: .inr (.inr r) :: st) M ↔ zwrite 0 r i (uX4_dropLast R 49 [x0, x1, x2] st (zup M r i v)) := zU_step dX4_dropLast_48 (Or.inl rfl)
theorem dX4_dropLast_49 : decode cX4_dropLast 49 = .ok (.iinc 1 1, 3) := by decide +kernel
theorem rX4_dropLast_49 {R : zP} {x2 : Option zV} {st : List zV} {M : zM} {a : Int} {y : Nat} : uX4_dropLast R 49 [some (.inr (.inr y)), some (.inl a), x2] st M ↔ uX4_dropLast R 52 [some (.inr (.inr y)), some (.inl (a + (1))), x2] st M := Iff.trans (zU_step dX4_dropLast_49 (Or.inl rfl)) ⟨fun h => h.2, fun h => ⟨show 1 < 3 by decide, h⟩⟩
theorem rX4_dropLast_49z {R : zP} {x0 x2 : Option zV} {st : List zV} {M : zM} {a : Int} : uX4_dropLast R 49 [x0, some (.inl a), x2] st M ↔ uX4_dropLast R 52 [zkeep x0, some (.inl (a + (1))), x2] st M := Iff.trans (zU_step dX4_dropLast_49 (Or.inl rfl)) ⟨fun h => h.2, fun h => ⟨show 1 < 3 by decide, h⟩⟩
theorem dX4_dropLast_52 : decode cX4_dropLast 52 = .ok (.iinc 2 1, 3) := by decide +kernel
theorem rX4_dropLast_52 {R : zP} {x0 : Option zV} {st : List zV} {M : zM} {a : Int} {y : Int} : uX4_dropLast R 52 [x0, some (.inl y), some (.inl a)] st M ↔ uX4_dropLast R 55 [x0, some (.inl y), some (.inl (a + (1)))] st M := Iff.trans (zU_step dX4_dropLast_52 (Or.inl rfl)) ⟨fun h => h.2, fun h => ⟨show 2 < 3 by decide, h⟩⟩
theorem rX4_dropLast_52z {R : zP} {x0 x1 : Option zV} {st : List zV} {M : zM} {a : Int} : uX4_dropLast R 52 [x0, x1, some (.inl a)] st M ↔ uX4_dropLast R 55 [x0, zkeep x1, some (.inl (a + (1)))] st M := Iff.trans (zU_step dX4_dropLast_52 (Or.inl rfl)) ⟨fun h => h.2, fun h => ⟨show 2 < 3 by decide, h⟩⟩
theorem dX4_dropLast_55 : decode cX4_dropLast 55 = .ok (.goto (-41), 3) := by decide +kernel
theorem rX4_dropLast_55 {R : zP} {x0 x1 x2 : Option zV} {st : List zV} {M : zM} : uX4_dropLast R 55 [x0, x1, x2] st M ↔ uX4_dropLast R 14 [x0, x1, x2] st M := Iff.trans (zU_step dX4_dropLast_55 (Or.inl rfl)) ⟨fun h => h.2, fun h => ⟨by decide, h⟩⟩
theorem dX4_dropLast_58 : decode cX4_dropLast 58 = .ok (.aload_n 0, 1) := by decide +kernel
theorem rX4_dropLast_58 {R : zP} {x1 x2 : Option zV} {st : List zV} {M : zM} {a : Nat} : uX4_dropLast R 58 [some (.inr (.inr a)), x1, x2] st M ↔ uX4_dropLast R 59 [some (.inr (.inr a)), x1, x2] (.inr (.inr a) :: st) M := zU_step dX4_dropLast_58 (Or.inl rfl)
theorem dX4_dropLast_59 : decode cX4_dropLast 59 = .ok (.dup, 1) := by decide +kernel
theorem rX4_dropLast_59 {R : zP} {x0 x1 x2 : Option zV} {st : List zV} {M : zM} {a : Nat} : uX4_dropLast R 59 [x0, x1, x2] (.inr (.inr a) :: st) M ↔ uX4_dropLast R 60 [x0, x1, x2] (.inr (.inr a) :: .inr (.inr a) :: st) M := zU_step dX4_dropLast_59 (Or.inl rfl)
theorem dX4_dropLast_60 : decode cX4_dropLast 60 = .ok (.getfield 24, 3) := by decide +kernel
theorem rX4_dropLast_60 {R : zP} {x0 x1 x2 : Option zV} {st : List zV} {M : zM} {r : Nat} : uX4_dropLast R 60 [x0, x1, x2] (.inr (.inr r) :: st) M ↔ zgetx fX4 24 r M (fun v => uX4_dropLast R 63 [x0, x1, x2] (v :: st) M) := zU_step dX4_dropLast_60 (Or.inl rfl)
theorem dX4_dropLast_63 : decode cX4_dropLast 63 = .ok (.iconst 1, 1) := by decide +kernel
theorem rX4_dropLast_63 {R : zP} {x0 x1 x2 : Option zV} {st : List zV} {M : zM} : uX4_dropLast R 63 [x0, x1, x2] st M ↔ uX4_dropLast R 64 [x0, x1, x2] (.inl (1) :: st) M := zU_step dX4_dropLast_63 (Or.inl rfl)
theorem dX4_dropLast_64 : decode cX4_dropLast 64 = .ok (.isub, 1) := by decide +kernel
theorem rX4_dropLast_64 {R : zP} {x0 x1 x2 : Option zV} {st : List zV} {M : zM} {a b : Int} : uX4_dropLast R 64 [x0, x1, x2] (.inl b :: .inl a :: st) M ↔ uX4_dropLast R 65 [x0, x1, x2] (.inl (a - b) :: st) M := zU_step dX4_dropLast_64 (Or.inl rfl)
theorem dX4_dropLast_65 : decode cX4_dropLast 65 = .ok (.putfield 24, 3) := by decide +kernel
theorem rX4_dropLast_65 {R : zP} {x0 x1 x2 : Option zV} {st : List zV} {M : zM} {r : Nat} {v : zV} : uX4_dropLast R 65 [x0, x1, x2] (v :: .inr (.inr r) :: st) M ↔ zputx fX4 24 r M v (fun M => uX4_dropLast R 68 [x0, x1, x2] st M) := zU_step dX4_dropLast_65 (Or.inl rfl)
theorem dX4_dropLast_68 : decode cX4_dropLast 68 = .ok (.aload_n 0, 1) := by decide +kernel
theorem rX4_dropLast_68 {R : zP} {x1 x2 : Option zV} {st : List zV} {M : zM} {a : Nat} : uX4_dropLast R 68 [some (.inr (.inr a)), x1, x2] st M ↔ uX4_dropLast R 69 [some (.inr (.inr a)), x1, x2] (.inr (.inr a) :: st) M := zU_step dX4_dropLast_68 (Or.inl rfl)
theorem dX4_dropLast_69 : decode cX4_dropLast 69 = .ok (.getfield 24, 3) := by decide +kernel
theorem rX4_dropLast_69 {R : zP} {x0 x1 x2 : Option zV} {st : List zV} {M : zM} {r : Nat} : uX4_dropLast R 69 [x0, x1, x2] (.inr (.inr r) :: st) M ↔ zgetx fX4 24 r M (fun v => uX4_dropLast R 72 [x0, x1, x2] (v :: st) M) := zU_step dX4_dropLast_69 (Or.inl rfl)
theorem dX4_dropLast_72 : decode cX4_dropLast 72 = .ok (.ireturn, 1) := by decide +kernel
theorem rX4_dropLast_72 {R : zP} {x0 x1 x2 : Option zV} {M : zM} {a : Int} : uX4_dropLast R 72 [x0, x1, x2] [.inl a] M ↔ R (some (.inl a)) M := Iff.trans (zU_step dX4_dropLast_72 (Or.inl rfl)) ⟨fun h => h.2.2, fun h => ⟨rfl, Or.inl rfl, h⟩⟩
theorem eX4_dropLast {R : zP} {M : zM} {a0 : Nat} : tX4_dropLast [.inr (.inr a0)] M R ↔ uX4_dropLast R 0 [some (.inr (.inr a0)), none, none] [] M := ⟨fun h => h.2, fun h => ⟨show 1 ≤ 3 by decide, h⟩⟩
def uX4_feedsOf (R : zP) : zK := zU fX4 vX4_feedsOf cX4_feedsOf R
theorem dX4_feedsOf_0 : decode cX4_feedsOf 0 = .ok (.iconst 0, 1) := by decide +kernel
theorem rX4_feedsOf_0 {R : zP} {x0 x1 x2 x3 x4 : Option zV} {st : List zV} {M : zM} : uX4_feedsOf R 0 [x0, x1, x2, x3, x4] st M ↔ uX4_feedsOf R 1 [x0, x1, x2, x3, x4] (.inl (0) :: st) M := zU_step dX4_feedsOf_0 (Or.inl rfl)
theorem dX4_feedsOf_1 : decode cX4_feedsOf 1 = .ok (.istore_n 3, 1) := by decide +kernel
theorem rX4_feedsOf_1 {R : zP} {x0 x1 x3 x4 : Option zV} {st : List zV} {M : zM} {a : Int} {y : Int} : uX4_feedsOf R 1 [x0, x1, some (.inl y), x3, x4] (.inl a :: st) M ↔ uX4_feedsOf R 2 [x0, x1, some (.inl y), some (.inl a), x4] st M := Iff.trans (zU_step dX4_feedsOf_1 (Or.inl rfl)) ⟨fun h => h.2, fun h => ⟨show 3 < 5 by decide, h⟩⟩
theorem rX4_feedsOf_1z {R : zP} {x0 x1 x2 x3 x4 : Option zV} {st : List zV} {M : zM} {a : Int} : uX4_feedsOf R 1 [x0, x1, x2, x3, x4] (.inl a :: st) M ↔ uX4_feedsOf R 2 [x0, x1, zkeep x2, some (.inl a), x4] st M := Iff.trans (zU_step dX4_feedsOf_1 (Or.inl rfl)) ⟨fun h => h.2, fun h => ⟨show 3 < 5 by decide, h⟩⟩
theorem dX4_feedsOf_2 : decode cX4_feedsOf 2 = .ok (.iconst 0, 1) := by decide +kernel
theorem rX4_feedsOf_2 {R : zP} {x0 x1 x2 x3 x4 : Option zV} {st : List zV} {M : zM} : uX4_feedsOf R 2 [x0, x1, x2, x3, x4] st M ↔ uX4_feedsOf R 3 [x0, x1, x2, x3, x4] (.inl (0) :: st) M := zU_step dX4_feedsOf_2 (Or.inl rfl)
theorem dX4_feedsOf_3 : decode cX4_feedsOf 3 = .ok (.istore 4, 2) := by decide +kernel
theorem rX4_feedsOf_3 {R : zP} {x0 x1 x2 x4 : Option zV} {st : List zV} {M : zM} {a : Int} {y : Int} : uX4_feedsOf R 3 [x0, x1, x2, some (.inl y), x4] (.inl a :: st) M ↔ uX4_feedsOf R 5 [x0, x1, x2, some (.inl y), some (.inl a)] st M := Iff.trans (zU_step dX4_feedsOf_3 (Or.inl rfl)) ⟨fun h => h.2, fun h => ⟨show 4 < 5 by decide, h⟩⟩
theorem rX4_feedsOf_3z {R : zP} {x0 x1 x2 x3 x4 : Option zV} {st : List zV} {M : zM} {a : Int} : uX4_feedsOf R 3 [x0, x1, x2, x3, x4] (.inl a :: st) M ↔ uX4_feedsOf R 5 [x0, x1, x2, zkeep x3, some (.inl a)] st M := Iff.trans (zU_step dX4_feedsOf_3 (Or.inl rfl)) ⟨fun h => h.2, fun h => ⟨show 4 < 5 by decide, h⟩⟩
theorem dX4_feedsOf_5 : decode cX4_feedsOf 5 = .ok (.iload 4, 2) := by decide +kernel
theorem rX4_feedsOf_5 {R : zP} {x0 x1 x2 x3 : Option zV} {st : List zV} {M : zM} {a : Int} : uX4_feedsOf R 5 [x0, x1, x2, x3, some (.inl a)] st M ↔ uX4_feedsOf R 7 [x0, x1, x2, x3, some (.inl a)] (.inl a :: st) M := zU_step dX4_feedsOf_5 (Or.inl rfl)
theorem dX4_feedsOf_7 : decode cX4_feedsOf 7 = .ok (.aload_n 0, 1) := by decide +kernel
theorem rX4_feedsOf_7 {R : zP} {x1 x2 x3 x4 : Option zV} {st : List zV} {M : zM} {a : Nat} : uX4_feedsOf R 7 [some (.inr (.inr a)), x1, x2, x3, x4] st M ↔ uX4_feedsOf R 8 [some (.inr (.inr a)), x1, x2, x3, x4] (.inr (.inr a) :: st) M := zU_step dX4_feedsOf_7 (Or.inl rfl)
theorem dX4_feedsOf_8 : decode cX4_feedsOf 8 = .ok (.getfield 24, 3) := by decide +kernel
theorem rX4_feedsOf_8 {R : zP} {x0 x1 x2 x3 x4 : Option zV} {st : List zV} {M : zM} {r : Nat} : uX4_feedsOf R 8 [x0, x1, x2, x3, x4] (.inr (.inr r) :: st) M ↔ zgetx fX4 24 r M (fun v => uX4_feedsOf R 11 [x0, x1, x2, x3, x4] (v :: st) M) := zU_step dX4_feedsOf_8 (Or.inl rfl)
theorem dX4_feedsOf_11 : decode cX4_feedsOf 11 = .ok (.if_icmp .ge 38, 3) := by decide +kernel
theorem rX4_feedsOf_11 {R : zP} {x0 x1 x2 x3 x4 : Option zV} {st : List zV} {M : zM} {a b : Int} : uX4_feedsOf R 11 [x0, x1, x2, x3, x4] (.inl b :: .inl a :: st) M ↔ ((zIR a ∧ zIR b) ∧ if b ≤ a then uX4_feedsOf R 49 [x0, x1, x2, x3, x4] st M else uX4_feedsOf R 14 [x0, x1, x2, x3, x4] st M) := Iff.trans (zU_step dX4_feedsOf_11 (Or.inl rfl)) ⟨fun h => ⟨⟨h.1.1, h.1.2.1⟩, (zite (c := b ≤ a)).mpr h.2⟩, fun h => ⟨⟨h.1.1, h.1.2, by decide⟩, (zite (c := b ≤ a)).mp h.2⟩⟩
theorem dX4_feedsOf_14 : decode cX4_feedsOf 14 = .ok (.aload_n 0, 1) := by decide +kernel
theorem rX4_feedsOf_14 {R : zP} {x1 x2 x3 x4 : Option zV} {st : List zV} {M : zM} {a : Nat} : uX4_feedsOf R 14 [some (.inr (.inr a)), x1, x2, x3, x4] st M ↔ uX4_feedsOf R 15 [some (.inr (.inr a)), x1, x2, x3, x4] (.inr (.inr a) :: st) M := zU_step dX4_feedsOf_14 (Or.inl rfl)
theorem dX4_feedsOf_15 : decode cX4_feedsOf 15 = .ok (.getfield 15, 3) := by decide +kernel
theorem rX4_feedsOf_15 {R : zP} {x0 x1 x2 x3 x4 : Option zV} {st : List zV} {M : zM} {r : Nat} : uX4_feedsOf R 15 [x0, x1, x2, x3, x4] (.inr (.inr r) :: st) M ↔ zgetx fX4 15 r M (fun v => uX4_feedsOf R 18 [x0, x1, x2, x3, x4] (v :: st) M) := zU_step dX4_feedsOf_15 (Or.inl rfl)
theorem dX4_feedsOf_18 : decode cX4_feedsOf 18 = .ok (.iload 4, 2) := by decide +kernel
theorem rX4_feedsOf_18 {R : zP} {x0 x1 x2 x3 : Option zV} {st : List zV} {M : zM} {a : Int} : uX4_feedsOf R 18 [x0, x1, x2, x3, some (.inl a)] st M ↔ uX4_feedsOf R 20 [x0, x1, x2, x3, some (.inl a)] (.inl a :: st) M := zU_step dX4_feedsOf_18 (Or.inl rfl)
theorem dX4_feedsOf_20 : decode cX4_feedsOf 20 = .ok (.iaload, 1) := by decide +kernel
theorem rX4_feedsOf_20 {R : zP} {x0 x1 x2 x3 x4 : Option zV} {st : List zV} {M : zM} {i : Int} {r : Nat} : uX4_feedsOf R 20 [x0, x1, x2, x3, x4] (.inl i :: .inr (.inr r) :: st) M ↔ zread fX4 0 r M i (fun v => uX4_feedsOf R 21 [x0, x1, x2, x3, x4] (.inl v :: st) M) := zU_step dX4_feedsOf_20 (Or.inl rfl)
theorem dX4_feedsOf_21 : decode cX4_feedsOf 21 = .ok (.iload_n 1, 1) := by decide +kernel
theorem rX4_feedsOf_21 {R : zP} {x0 x2 x3 x4 : Option zV} {st : List zV} {M : zM} {a : Int} : uX4_feedsOf R 21 [x0, some (.inl a), x2, x3, x4] st M ↔ uX4_feedsOf R 22 [x0, some (.inl a), x2, x3, x4] (.inl a :: st) M := zU_step dX4_feedsOf_21 (Or.inl rfl)
theorem dX4_feedsOf_22 : decode cX4_feedsOf 22 = .ok (.if_icmp .ne 21, 3) := by decide +kernel
theorem rX4_feedsOf_22 {R : zP} {x0 x1 x2 x3 x4 : Option zV} {st : List zV} {M : zM} {a b : Int} : uX4_feedsOf R 22 [x0, x1, x2, x3, x4] (.inl b :: .inl a :: st) M ↔ ((zIR a ∧ zIR b) ∧ if a ≠ b then uX4_feedsOf R 43 [x0, x1, x2, x3, x4] st M else uX4_feedsOf R 25 [x0, x1, x2, x3, x4] st M) := Iff.trans (zU_step dX4_feedsOf_22 (Or.inl rfl)) ⟨fun h => ⟨⟨h.1.1, h.1.2.1⟩, (zite (c := a ≠ b)).mpr h.2⟩, fun h => ⟨⟨h.1.1, h.1.2, by decide⟩, (zite (c := a ≠ b)).mp h.2⟩⟩
theorem dX4_feedsOf_25 : decode cX4_feedsOf 25 = .ok (.aload_n 0, 1) := by decide +kernel
theorem rX4_feedsOf_25 {R : zP} {x1 x2 x3 x4 : Option zV} {st : List zV} {M : zM} {a : Nat} : uX4_feedsOf R 25 [some (.inr (.inr a)), x1, x2, x3, x4] st M ↔ uX4_feedsOf R 26 [some (.inr (.inr a)), x1, x2, x3, x4] (.inr (.inr a) :: st) M := zU_step dX4_feedsOf_25 (Or.inl rfl)
theorem dX4_feedsOf_26 : decode cX4_feedsOf 26 = .ok (.getfield 9, 3) := by decide +kernel
theorem rX4_feedsOf_26 {R : zP} {x0 x1 x2 x3 x4 : Option zV} {st : List zV} {M : zM} {r : Nat} : uX4_feedsOf R 26 [x0, x1, x2, x3, x4] (.inr (.inr r) :: st) M ↔ zgetx fX4 9 r M (fun v => uX4_feedsOf R 29 [x0, x1, x2, x3, x4] (v :: st) M) := zU_step dX4_feedsOf_26 (Or.inl rfl)
theorem dX4_feedsOf_29 : decode cX4_feedsOf 29 = .ok (.iload 4, 2) := by decide +kernel
theorem rX4_feedsOf_29 {R : zP} {x0 x1 x2 x3 : Option zV} {st : List zV} {M : zM} {a : Int} : uX4_feedsOf R 29 [x0, x1, x2, x3, some (.inl a)] st M ↔ uX4_feedsOf R 31 [x0, x1, x2, x3, some (.inl a)] (.inl a :: st) M := zU_step dX4_feedsOf_29 (Or.inl rfl)
theorem dX4_feedsOf_31 : decode cX4_feedsOf 31 = .ok (.iaload, 1) := by decide +kernel
theorem rX4_feedsOf_31 {R : zP} {x0 x1 x2 x3 x4 : Option zV} {st : List zV} {M : zM} {i : Int} {r : Nat} : uX4_feedsOf R 31 [x0, x1, x2, x3, x4] (.inl i :: .inr (.inr r) :: st) M ↔ zread fX4 0 r M i (fun v => uX4_feedsOf R 32 [x0, x1, x2, x3, x4] (.inl v :: st) M) := zU_step dX4_feedsOf_31 (Or.inl rfl)
theorem dX4_feedsOf_32 : decode cX4_feedsOf 32 = .ok (.iload_n 2, 1) := by decide +kernel
theorem rX4_feedsOf_32 {R : zP} {x0 x1 x3 x4 : Option zV} {st : List zV} {M : zM} {a : Int} : uX4_feedsOf R 32 [x0, x1, some (.inl a), x3, x4] st M ↔ uX4_feedsOf R 33 [x0, x1, some (.inl a), x3, x4] (.inl a :: st) M := zU_step dX4_feedsOf_32 (Or.inl rfl)
theorem dX4_feedsOf_33 : decode cX4_feedsOf 33 = .ok (.if_icmp .gt 10, 3) := by decide +kernel
theorem rX4_feedsOf_33 {R : zP} {x0 x1 x2 x3 x4 : Option zV} {st : List zV} {M : zM} {a b : Int} : uX4_feedsOf R 33 [x0, x1, x2, x3, x4] (.inl b :: .inl a :: st) M ↔ ((zIR a ∧ zIR b) ∧ if b < a then uX4_feedsOf R 43 [x0, x1, x2, x3, x4] st M else uX4_feedsOf R 36 [x0, x1, x2, x3, x4] st M) := Iff.trans (zU_step dX4_feedsOf_33 (Or.inl rfl)) ⟨fun h => ⟨⟨h.1.1, h.1.2.1⟩, (zite (c := b < a)).mpr h.2⟩, fun h => ⟨⟨h.1.1, h.1.2, by decide⟩, (zite (c := b < a)).mp h.2⟩⟩
theorem dX4_feedsOf_36 : decode cX4_feedsOf 36 = .ok (.iload_n 3, 1) := by decide +kernel
theorem rX4_feedsOf_36 {R : zP} {x0 x1 x2 x4 : Option zV} {st : List zV} {M : zM} {a : Int} : uX4_feedsOf R 36 [x0, x1, x2, some (.inl a), x4] st M ↔ uX4_feedsOf R 37 [x0, x1, x2, some (.inl a), x4] (.inl a :: st) M := zU_step dX4_feedsOf_36 (Or.inl rfl)
theorem dX4_feedsOf_37 : decode cX4_feedsOf 37 = .ok (.iconst 1, 1) := by decide +kernel
theorem rX4_feedsOf_37 {R : zP} {x0 x1 x2 x3 x4 : Option zV} {st : List zV} {M : zM} : uX4_feedsOf R 37 [x0, x1, x2, x3, x4] st M ↔ uX4_feedsOf R 38 [x0, x1, x2, x3, x4] (.inl (1) :: st) M := zU_step dX4_feedsOf_37 (Or.inl rfl)
theorem dX4_feedsOf_38 : decode cX4_feedsOf 38 = .ok (.iload 4, 2) := by decide +kernel
theorem rX4_feedsOf_38 {R : zP} {x0 x1 x2 x3 : Option zV} {st : List zV} {M : zM} {a : Int} : uX4_feedsOf R 38 [x0, x1, x2, x3, some (.inl a)] st M ↔ uX4_feedsOf R 40 [x0, x1, x2, x3, some (.inl a)] (.inl a :: st) M := zU_step dX4_feedsOf_38 (Or.inl rfl)
theorem dX4_feedsOf_40 : decode cX4_feedsOf 40 = .ok (.ishl, 1) := by decide +kernel
theorem rX4_feedsOf_40 {R : zP} {x0 x1 x2 x3 x4 : Option zV} {st : List zV} {M : zM} {a b : Int} : uX4_feedsOf R 40 [x0, x1, x2, x3, x4] (.inl b :: .inl a :: st) M ↔ uX4_feedsOf R 41 [x0, x1, x2, x3, x4] (.inl (zshl a b) :: st) M := zU_step dX4_feedsOf_40 (Or.inl rfl)
theorem dX4_feedsOf_41 : decode cX4_feedsOf 41 = .ok (.ior, 1) := by decide +kernel
theorem rX4_feedsOf_41 {R : zP} {x0 x1 x2 x3 x4 : Option zV} {st : List zV} {M : zM} {a b : Int} : uX4_feedsOf R 41 [x0, x1, x2, x3, x4] (.inl b :: .inl a :: st) M ↔ uX4_feedsOf R 42 [x0, x1, x2, x3, x4] (.inl (zor a b) :: st) M := zU_step dX4_feedsOf_41 (Or.inl rfl)
theorem dX4_feedsOf_42 : decode cX4_feedsOf 42 = .ok (.istore_n 3, 1) := by decide +kernel
theorem rX4_feedsOf_42 {R : zP} {x0 x1 x3 x4 : Option zV} {st : List zV} {M : zM} {a : Int} {y : Int} : uX4_feedsOf R 42 [x0, x1, some (.inl y), x3, x4] (.inl a :: st) M ↔ uX4_feedsOf R 43 [x0, x1, some (.inl y), some (.inl a), x4] st M := Iff.trans (zU_step dX4_feedsOf_42 (Or.inl rfl)) ⟨fun h => h.2, fun h => ⟨show 3 < 5 by decide, h⟩⟩
theorem rX4_feedsOf_42z {R : zP} {x0 x1 x2 x3 x4 : Option zV} {st : List zV} {M : zM} {a : Int} : uX4_feedsOf R 42 [x0, x1, x2, x3, x4] (.inl a :: st) M ↔ uX4_feedsOf R 43 [x0, x1, zkeep x2, some (.inl a), x4] st M := Iff.trans (zU_step dX4_feedsOf_42 (Or.inl rfl)) ⟨fun h => h.2, fun h => ⟨show 3 < 5 by decide, h⟩⟩
theorem dX4_feedsOf_43 : decode cX4_feedsOf 43 = .ok (.iinc 4 1, 3) := by decide +kernel
theorem rX4_feedsOf_43 {R : zP} {x0 x1 x2 : Option zV} {st : List zV} {M : zM} {a : Int} {y : Int} : uX4_feedsOf R 43 [x0, x1, x2, some (.inl y), some (.inl a)] st M ↔ uX4_feedsOf R 46 [x0, x1, x2, some (.inl y), some (.inl (a + (1)))] st M := Iff.trans (zU_step dX4_feedsOf_43 (Or.inl rfl)) ⟨fun h => h.2, fun h => ⟨show 4 < 5 by decide, h⟩⟩
theorem rX4_feedsOf_43z {R : zP} {x0 x1 x2 x3 : Option zV} {st : List zV} {M : zM} {a : Int} : uX4_feedsOf R 43 [x0, x1, x2, x3, some (.inl a)] st M ↔ uX4_feedsOf R 46 [x0, x1, x2, zkeep x3, some (.inl (a + (1)))] st M := Iff.trans (zU_step dX4_feedsOf_43 (Or.inl rfl)) ⟨fun h => h.2, fun h => ⟨show 4 < 5 by decide, h⟩⟩
theorem dX4_feedsOf_46 : decode cX4_feedsOf 46 = .ok (.goto (-41), 3) := by decide +kernel
theorem rX4_feedsOf_46 {R : zP} {x0 x1 x2 x3 x4 : Option zV} {st : List zV} {M : zM} : uX4_feedsOf R 46 [x0, x1, x2, x3, x4] st M ↔ uX4_feedsOf R 5 [x0, x1, x2, x3, x4] st M := Iff.trans (zU_step dX4_feedsOf_46 (Or.inl rfl)) ⟨fun h => h.2, fun h => ⟨by decide, h⟩⟩
theorem dX4_feedsOf_49 : decode cX4_feedsOf 49 = .ok (.iload_n 3, 1) := by decide +kernel
theorem rX4_feedsOf_49 {R : zP} {x0 x1 x2 x4 : Option zV} {st : List zV} {M : zM} {a : Int} : uX4_feedsOf R 49 [x0, x1, x2, some (.inl a), x4] st M ↔ uX4_feedsOf R 50 [x0, x1, x2, some (.inl a), x4] (.inl a :: st) M := zU_step dX4_feedsOf_49 (Or.inl rfl)
theorem dX4_feedsOf_50 : decode cX4_feedsOf 50 = .ok (.ireturn, 1) := by decide +kernel
theorem rX4_feedsOf_50 {R : zP} {x0 x1 x2 x3 x4 : Option zV} {M : zM} {a : Int} : uX4_feedsOf R 50 [x0, x1, x2, x3, x4] [.inl a] M ↔ R (some (.inl a)) M := Iff.trans (zU_step dX4_feedsOf_50 (Or.inl rfl)) ⟨fun h => h.2.2, fun h => ⟨rfl, Or.inl rfl, h⟩⟩
theorem eX4_feedsOf {R : zP} {M : zM} {a0 : Nat} {p0 : Int} {p1 : Int} : tX4_feedsOf [.inr (.inr a0), .inl p0, .inl p1] M R ↔ uX4_feedsOf R 0 [some (.inr (.inr a0)), some (.inl p0), some (.inl p1), none, none] [] M := ⟨fun h => h.2, fun h => ⟨show 3 ≤ 5 by decide, h⟩⟩
def uJ0_isLatin1_aae02 (R : zP) : zK := zU fJ0 vJ0_isLatin1_aae02 cJ0_isLatin1_aae02 R
theorem dJ0_isLatin1_aae02_0 : decode cJ0_isLatin1_aae02 0 = .ok (.getstatic 38, 3) := by decide +kernel
theorem rJ0_isLatin1_aae02_0 {R : zP} {x0 : Option zV} {st : List zV} {M : zM} : uJ0_isLatin1_aae02 R 0 [x0] st M ↔ zopt (zFs fJ0 38) (fun v => uJ0_isLatin1_aae02 R 3 [x0] (v :: st) M) := zU_step dJ0_isLatin1_aae02_0 (Or.inl rfl)
theorem dJ0_isLatin1_aae02_3 : decode cJ0_isLatin1_aae02 3 = .ok (.ifCond .eq 14, 3) := by decide +kernel
theorem rJ0_isLatin1_aae02_3 {R : zP} {x0 : Option zV} {st : List zV} {M : zM} {a : Int} : uJ0_isLatin1_aae02 R 3 [x0] (.inl a :: st) M ↔ (zIR a ∧ if a = 0 then uJ0_isLatin1_aae02 R 17 [x0] st M else uJ0_isLatin1_aae02 R 6 [x0] st M) := Iff.trans (zU_step dJ0_isLatin1_aae02_3 (Or.inl rfl)) ⟨fun h => ⟨h.1.1, (zite (c := a = 0)).mpr h.2⟩, fun h => ⟨⟨h.1, by decide⟩, (zite (c := a = 0)).mp h.2⟩⟩
theorem dJ0_isLatin1_aae02_6 : decode cJ0_isLatin1_aae02 6 = .ok (.aload_n 0, 1) := by decide +kernel
theorem rJ0_isLatin1_aae02_6 {R : zP} {st : List zV} {M : zM} {a : Nat} : uJ0_isLatin1_aae02 R 6 [some (.inr (.inr a))] st M ↔ uJ0_isLatin1_aae02 R 7 [some (.inr (.inr a))] (.inr (.inr a) :: st) M := zU_step dJ0_isLatin1_aae02_6 (Or.inl rfl)
theorem dJ0_isLatin1_aae02_7 : decode cJ0_isLatin1_aae02 7 = .ok (.getfield 15, 3) := by decide +kernel
theorem rJ0_isLatin1_aae02_7 {R : zP} {x0 : Option zV} {st : List zV} {M : zM} {r : Nat} : uJ0_isLatin1_aae02 R 7 [x0] (.inr (.inr r) :: st) M ↔ zgetx fJ0 15 r M (fun v => uJ0_isLatin1_aae02 R 10 [x0] (v :: st) M) := zU_step dJ0_isLatin1_aae02_7 (Or.inl rfl)
theorem dJ0_isLatin1_aae02_10 : decode cJ0_isLatin1_aae02 10 = .ok (.ifCond .ne 7, 3) := by decide +kernel
theorem rJ0_isLatin1_aae02_10 {R : zP} {x0 : Option zV} {st : List zV} {M : zM} {a : Int} : uJ0_isLatin1_aae02 R 10 [x0] (.inl a :: st) M ↔ (zIR a ∧ if a ≠ 0 then uJ0_isLatin1_aae02 R 17 [x0] st M else uJ0_isLatin1_aae02 R 13 [x0] st M) := Iff.trans (zU_step dJ0_isLatin1_aae02_10 (Or.inl rfl)) ⟨fun h => ⟨h.1.1, (zite (c := a ≠ 0)).mpr h.2⟩, fun h => ⟨⟨h.1, by decide⟩, (zite (c := a ≠ 0)).mp h.2⟩⟩
theorem dJ0_isLatin1_aae02_13 : decode cJ0_isLatin1_aae02 13 = .ok (.iconst 1, 1) := by decide +kernel
theorem rJ0_isLatin1_aae02_13 {R : zP} {x0 : Option zV} {st : List zV} {M : zM} : uJ0_isLatin1_aae02 R 13 [x0] st M ↔ uJ0_isLatin1_aae02 R 14 [x0] (.inl (1) :: st) M := zU_step dJ0_isLatin1_aae02_13 (Or.inl rfl)
theorem dJ0_isLatin1_aae02_14 : decode cJ0_isLatin1_aae02 14 = .ok (.goto 4, 3) := by decide +kernel
theorem rJ0_isLatin1_aae02_14 {R : zP} {x0 : Option zV} {st : List zV} {M : zM} : uJ0_isLatin1_aae02 R 14 [x0] st M ↔ uJ0_isLatin1_aae02 R 18 [x0] st M := Iff.trans (zU_step dJ0_isLatin1_aae02_14 (Or.inl rfl)) ⟨fun h => h.2, fun h => ⟨by decide, h⟩⟩
theorem dJ0_isLatin1_aae02_17 : decode cJ0_isLatin1_aae02 17 = .ok (.iconst 0, 1) := by decide +kernel
theorem rJ0_isLatin1_aae02_17 {R : zP} {x0 : Option zV} {st : List zV} {M : zM} : uJ0_isLatin1_aae02 R 17 [x0] st M ↔ uJ0_isLatin1_aae02 R 18 [x0] (.inl (0) :: st) M := zU_step dJ0_isLatin1_aae02_17 (Or.inl rfl)
theorem dJ0_isLatin1_aae02_18 : decode cJ0_isLatin1_aae02 18 = .ok (.ireturn, 1) := by decide +kernel
theorem rJ0_isLatin1_aae02_18 {R : zP} {x0 : Option zV} {M : zM} {a : Int} : uJ0_isLatin1_aae02 R 18 [x0] [.inl a] M ↔ ((a = 0 ∨ a = 1) ∧ R (some (.inl a)) M) := Iff.trans (zU_step dJ0_isLatin1_aae02_18 (Or.inl rfl)) ⟨fun h => ⟨zret2 rfl h.2.1, h.2.2⟩, fun h => ⟨rfl, Or.inr (Or.inl ⟨rfl, h.1⟩), h.2⟩⟩
theorem eJ0_isLatin1_aae02 {R : zP} {M : zM} {a0 : Nat} : tJ0_isLatin1_aae02 [.inr (.inr a0)] M R ↔ uJ0_isLatin1_aae02 R 0 [some (.inr (.inr a0))] [] M := ⟨fun h => h.2, fun h => ⟨show 1 ≤ 1 by decide, h⟩⟩
def uJ0_coder_7d493 (R : zP) : zK := zU fJ0 vJ0_coder_7d493 cJ0_coder_7d493 R
theorem dJ0_coder_7d493_0 : decode cJ0_coder_7d493 0 = .ok (.getstatic 38, 3) := by decide +kernel
theorem rJ0_coder_7d493_0 {R : zP} {x0 : Option zV} {st : List zV} {M : zM} : uJ0_coder_7d493 R 0 [x0] st M ↔ zopt (zFs fJ0 38) (fun v => uJ0_coder_7d493 R 3 [x0] (v :: st) M) := zU_step dJ0_coder_7d493_0 (Or.inl rfl)
theorem dJ0_coder_7d493_3 : decode cJ0_coder_7d493 3 = .ok (.ifCond .eq 10, 3) := by decide +kernel
theorem rJ0_coder_7d493_3 {R : zP} {x0 : Option zV} {st : List zV} {M : zM} {a : Int} : uJ0_coder_7d493 R 3 [x0] (.inl a :: st) M ↔ (zIR a ∧ if a = 0 then uJ0_coder_7d493 R 13 [x0] st M else uJ0_coder_7d493 R 6 [x0] st M) := Iff.trans (zU_step dJ0_coder_7d493_3 (Or.inl rfl)) ⟨fun h => ⟨h.1.1, (zite (c := a = 0)).mpr h.2⟩, fun h => ⟨⟨h.1, by decide⟩, (zite (c := a = 0)).mp h.2⟩⟩
theorem dJ0_coder_7d493_6 : decode cJ0_coder_7d493 6 = .ok (.aload_n 0, 1) := by decide +kernel
theorem rJ0_coder_7d493_6 {R : zP} {st : List zV} {M : zM} {a : Nat} : uJ0_coder_7d493 R 6 [some (.inr (.inr a))] st M ↔ uJ0_coder_7d493 R 7 [some (.inr (.inr a))] (.inr (.inr a) :: st) M := zU_step dJ0_coder_7d493_6 (Or.inl rfl)
theorem dJ0_coder_7d493_7 : decode cJ0_coder_7d493 7 = .ok (.getfield 15, 3) := by decide +kernel
theorem rJ0_coder_7d493_7 {R : zP} {x0 : Option zV} {st : List zV} {M : zM} {r : Nat} : uJ0_coder_7d493 R 7 [x0] (.inr (.inr r) :: st) M ↔ zgetx fJ0 15 r M (fun v => uJ0_coder_7d493 R 10 [x0] (v :: st) M) := zU_step dJ0_coder_7d493_7 (Or.inl rfl)
theorem dJ0_coder_7d493_10 : decode cJ0_coder_7d493 10 = .ok (.goto 4, 3) := by decide +kernel
theorem rJ0_coder_7d493_10 {R : zP} {x0 : Option zV} {st : List zV} {M : zM} : uJ0_coder_7d493 R 10 [x0] st M ↔ uJ0_coder_7d493 R 14 [x0] st M := Iff.trans (zU_step dJ0_coder_7d493_10 (Or.inl rfl)) ⟨fun h => h.2, fun h => ⟨by decide, h⟩⟩
theorem dJ0_coder_7d493_13 : decode cJ0_coder_7d493 13 = .ok (.iconst 1, 1) := by decide +kernel
theorem rJ0_coder_7d493_13 {R : zP} {x0 : Option zV} {st : List zV} {M : zM} : uJ0_coder_7d493 R 13 [x0] st M ↔ uJ0_coder_7d493 R 14 [x0] (.inl (1) :: st) M := zU_step dJ0_coder_7d493_13 (Or.inl rfl)
theorem dJ0_coder_7d493_14 : decode cJ0_coder_7d493 14 = .ok (.ireturn, 1) := by decide +kernel
theorem rJ0_coder_7d493_14 {R : zP} {x0 : Option zV} {M : zM} {a : Int} : uJ0_coder_7d493 R 14 [x0] [.inl a] M ↔ (a = 0 ∧ R (some (.inl a)) M) := Iff.trans (zU_step dJ0_coder_7d493_14 (Or.inl rfl)) ⟨fun h => ⟨zret5 rfl h.2.1, h.2.2⟩, fun h => ⟨rfl, Or.inr (Or.inr ⟨rfl, h.1⟩), h.2⟩⟩
theorem eJ0_coder_7d493 {R : zP} {M : zM} {a0 : Nat} : tJ0_coder_7d493 [.inr (.inr a0)] M R ↔ uJ0_coder_7d493 R 0 [some (.inr (.inr a0))] [] M := ⟨fun h => h.2, fun h => ⟨show 1 ≤ 1 by decide, h⟩⟩
def uJ0_length_8abf5 (R : zP) : zK := zU fJ0 vJ0_length_8abf5 cJ0_length_8abf5 R
theorem dJ0_length_8abf5_0 : decode cJ0_length_8abf5 0 = .ok (.aload_n 0, 1) := by decide +kernel
theorem rJ0_length_8abf5_0 {R : zP} {st : List zV} {M : zM} {a : Nat} : uJ0_length_8abf5 R 0 [some (.inr (.inr a))] st M ↔ uJ0_length_8abf5 R 1 [some (.inr (.inr a))] (.inr (.inr a) :: st) M := zU_step dJ0_length_8abf5_0 (Or.inl rfl)
theorem dJ0_length_8abf5_1 : decode cJ0_length_8abf5 1 = .ok (.getfield 9, 3) := by decide +kernel
theorem rJ0_length_8abf5_1 {R : zP} {x0 : Option zV} {st : List zV} {M : zM} {r : Nat} : uJ0_length_8abf5 R 1 [x0] (.inr (.inr r) :: st) M ↔ zgetx fJ0 9 r M (fun v => uJ0_length_8abf5 R 4 [x0] (v :: st) M) := zU_step dJ0_length_8abf5_1 (Or.inl rfl)
theorem dJ0_length_8abf5_4 : decode cJ0_length_8abf5 4 = .ok (.arraylength, 1) := by decide +kernel
theorem rJ0_length_8abf5_4 {R : zP} {x0 : Option zV} {st : List zV} {M : zM} {r : Nat} : uJ0_length_8abf5 R 4 [x0] (.inr (.inr r) :: st) M ↔ zlenof fJ0 r (fun v => uJ0_length_8abf5 R 5 [x0] (.inl v :: st) M) := zU_step dJ0_length_8abf5_4 (Or.inl rfl)
theorem dJ0_length_8abf5_5 : decode cJ0_length_8abf5 5 = .ok (.aload_n 0, 1) := by decide +kernel
theorem rJ0_length_8abf5_5 {R : zP} {st : List zV} {M : zM} {a : Nat} : uJ0_length_8abf5 R 5 [some (.inr (.inr a))] st M ↔ uJ0_length_8abf5 R 6 [some (.inr (.inr a))] (.inr (.inr a) :: st) M := zU_step dJ0_length_8abf5_5 (Or.inl rfl)
theorem dJ0_length_8abf5_6 : decode cJ0_length_8abf5 6 = .ok (.invokevirtual 335, 3) := by decide +kernel
theorem rJ0_length_8abf5_6 {R : zP} {x0 : Option zV} {st : List zV} {M : zM} {a0 : zV} : uJ0_length_8abf5 R 6 [x0] (a0 :: st) M ↔ (st.length ≤ 4 ∧ zcv (zv 99 tJ0_coder_7d493) [a0] M (fun v M => uJ0_length_8abf5 R 9 [x0] (v :: st) M)) := Iff.trans (zU_step dJ0_length_8abf5_6 (Or.inl rfl)) ⟨fun h => ⟨h.2.1, zcv_of h.2.2⟩, fun h => ⟨rfl, h.1, zcv_to h.2⟩⟩
theorem dJ0_length_8abf5_9 : decode cJ0_length_8abf5 9 = .ok (.ishr, 1) := by decide +kernel
theorem rJ0_length_8abf5_9 {R : zP} {x0 : Option zV} {st : List zV} {M : zM} {a b : Int} : uJ0_length_8abf5 R 9 [x0] (.inl b :: .inl a :: st) M ↔ uJ0_length_8abf5 R 10 [x0] (.inl (zshr a b) :: st) M := zU_step dJ0_length_8abf5_9 (Or.inl rfl)
theorem dJ0_length_8abf5_10 : decode cJ0_length_8abf5 10 = .ok (.ireturn, 1) := by decide +kernel
theorem rJ0_length_8abf5_10 {R : zP} {x0 : Option zV} {M : zM} {a : Int} : uJ0_length_8abf5 R 10 [x0] [.inl a] M ↔ R (some (.inl a)) M := Iff.trans (zU_step dJ0_length_8abf5_10 (Or.inl rfl)) ⟨fun h => h.2.2, fun h => ⟨rfl, Or.inl rfl, h⟩⟩
theorem eJ0_length_8abf5 {R : zP} {M : zM} {a0 : Nat} : tJ0_length_8abf5 [.inr (.inr a0)] M R ↔ uJ0_length_8abf5 R 0 [some (.inr (.inr a0))] [] M := ⟨fun h => h.2, fun h => ⟨show 1 ≤ 1 by decide, h⟩⟩
def uJ1_canEncode_9a6ad (R : zP) : zK := zU fJ1 vJ1_canEncode_9a6ad cJ1_canEncode_9a6ad R
theorem dJ1_canEncode_9a6ad_0 : decode cJ1_canEncode_9a6ad 0 = .ok (.iload_n 0, 1) := by decide +kernel
theorem rJ1_canEncode_9a6ad_0 {R : zP} {st : List zV} {M : zM} {a : Int} : uJ1_canEncode_9a6ad R 0 [some (.inl a)] st M ↔ uJ1_canEncode_9a6ad R 1 [some (.inl a)] (.inl a :: st) M := zU_step dJ1_canEncode_9a6ad_0 (Or.inl rfl)
theorem dJ1_canEncode_9a6ad_1 : decode cJ1_canEncode_9a6ad 1 = .ok (.ifCond .lt 14, 3) := by decide +kernel
theorem rJ1_canEncode_9a6ad_1 {R : zP} {x0 : Option zV} {st : List zV} {M : zM} {a : Int} : uJ1_canEncode_9a6ad R 1 [x0] (.inl a :: st) M ↔ (zIR a ∧ if a < 0 then uJ1_canEncode_9a6ad R 15 [x0] st M else uJ1_canEncode_9a6ad R 4 [x0] st M) := Iff.trans (zU_step dJ1_canEncode_9a6ad_1 (Or.inl rfl)) ⟨fun h => ⟨h.1.1, (zite (c := a < 0)).mpr h.2⟩, fun h => ⟨⟨h.1, by decide⟩, (zite (c := a < 0)).mp h.2⟩⟩
theorem dJ1_canEncode_9a6ad_4 : decode cJ1_canEncode_9a6ad 4 = .ok (.iload_n 0, 1) := by decide +kernel
theorem rJ1_canEncode_9a6ad_4 {R : zP} {st : List zV} {M : zM} {a : Int} : uJ1_canEncode_9a6ad R 4 [some (.inl a)] st M ↔ uJ1_canEncode_9a6ad R 5 [some (.inl a)] (.inl a :: st) M := zU_step dJ1_canEncode_9a6ad_4 (Or.inl rfl)
theorem dJ1_canEncode_9a6ad_5 : decode cJ1_canEncode_9a6ad 5 = .ok (.sipush 255, 3) := by decide +kernel
theorem rJ1_canEncode_9a6ad_5 {R : zP} {x0 : Option zV} {st : List zV} {M : zM} : uJ1_canEncode_9a6ad R 5 [x0] st M ↔ uJ1_canEncode_9a6ad R 8 [x0] (.inl (255) :: st) M := Iff.trans (zU_step dJ1_canEncode_9a6ad_5 (Or.inl rfl)) ⟨fun h => h.2, fun h => ⟨by decide, h⟩⟩
theorem dJ1_canEncode_9a6ad_8 : decode cJ1_canEncode_9a6ad 8 = .ok (.if_icmp .gt 7, 3) := by decide +kernel
theorem rJ1_canEncode_9a6ad_8 {R : zP} {x0 : Option zV} {st : List zV} {M : zM} {a b : Int} : uJ1_canEncode_9a6ad R 8 [x0] (.inl b :: .inl a :: st) M ↔ ((zIR a ∧ zIR b) ∧ if b < a then uJ1_canEncode_9a6ad R 15 [x0] st M else uJ1_canEncode_9a6ad R 11 [x0] st M) := Iff.trans (zU_step dJ1_canEncode_9a6ad_8 (Or.inl rfl)) ⟨fun h => ⟨⟨h.1.1, h.1.2.1⟩, (zite (c := b < a)).mpr h.2⟩, fun h => ⟨⟨h.1.1, h.1.2, by decide⟩, (zite (c := b < a)).mp h.2⟩⟩
theorem dJ1_canEncode_9a6ad_11 : decode cJ1_canEncode_9a6ad 11 = .ok (.iconst 1, 1) := by decide +kernel
theorem rJ1_canEncode_9a6ad_11 {R : zP} {x0 : Option zV} {st : List zV} {M : zM} : uJ1_canEncode_9a6ad R 11 [x0] st M ↔ uJ1_canEncode_9a6ad R 12 [x0] (.inl (1) :: st) M := zU_step dJ1_canEncode_9a6ad_11 (Or.inl rfl)
theorem dJ1_canEncode_9a6ad_12 : decode cJ1_canEncode_9a6ad 12 = .ok (.goto 4, 3) := by decide +kernel
theorem rJ1_canEncode_9a6ad_12 {R : zP} {x0 : Option zV} {st : List zV} {M : zM} : uJ1_canEncode_9a6ad R 12 [x0] st M ↔ uJ1_canEncode_9a6ad R 16 [x0] st M := Iff.trans (zU_step dJ1_canEncode_9a6ad_12 (Or.inl rfl)) ⟨fun h => h.2, fun h => ⟨by decide, h⟩⟩
theorem dJ1_canEncode_9a6ad_15 : decode cJ1_canEncode_9a6ad 15 = .ok (.iconst 0, 1) := by decide +kernel
theorem rJ1_canEncode_9a6ad_15 {R : zP} {x0 : Option zV} {st : List zV} {M : zM} : uJ1_canEncode_9a6ad R 15 [x0] st M ↔ uJ1_canEncode_9a6ad R 16 [x0] (.inl (0) :: st) M := zU_step dJ1_canEncode_9a6ad_15 (Or.inl rfl)
theorem dJ1_canEncode_9a6ad_16 : decode cJ1_canEncode_9a6ad 16 = .ok (.ireturn, 1) := by decide +kernel
theorem rJ1_canEncode_9a6ad_16 {R : zP} {x0 : Option zV} {M : zM} {a : Int} : uJ1_canEncode_9a6ad R 16 [x0] [.inl a] M ↔ ((a = 0 ∨ a = 1) ∧ R (some (.inl a)) M) := Iff.trans (zU_step dJ1_canEncode_9a6ad_16 (Or.inl rfl)) ⟨fun h => ⟨zret2 rfl h.2.1, h.2.2⟩, fun h => ⟨rfl, Or.inr (Or.inl ⟨rfl, h.1⟩), h.2⟩⟩
theorem eJ1_canEncode_9a6ad {R : zP} {M : zM} {p0 : Int} : tJ1_canEncode_9a6ad [.inl p0] M R ↔ uJ1_canEncode_9a6ad R 0 [some (.inl p0)] [] M := ⟨fun h => h.2, fun h => ⟨show 1 ≤ 1 by decide, h⟩⟩
def uJ1_indexOfChar_4cfef (R : zP) : zK := zU fJ1 vJ1_indexOfChar_4cfef cJ1_indexOfChar_4cfef R
theorem dJ1_indexOfChar_4cfef_0 : decode cJ1_indexOfChar_4cfef 0 = .ok (.iload_n 1, 1) := by decide +kernel
theorem rJ1_indexOfChar_4cfef_0 {R : zP} {x0 x2 x3 x4 x5 : Option zV} {st : List zV} {M : zM} {a : Int} : uJ1_indexOfChar_4cfef R 0 [x0, some (.inl a), x2, x3, x4, x5] st M ↔ uJ1_indexOfChar_4cfef R 1 [x0, some (.inl a), x2, x3, x4, x5] (.inl a :: st) M := zU_step dJ1_indexOfChar_4cfef_0 (Or.inl rfl)
theorem dJ1_indexOfChar_4cfef_1 : decode cJ1_indexOfChar_4cfef 1 = .ok (.i2b, 1) := by decide +kernel
theorem rJ1_indexOfChar_4cfef_1 {R : zP} {x0 x1 x2 x3 x4 x5 : Option zV} {st : List zV} {M : zM} {a : Int} : uJ1_indexOfChar_4cfef R 1 [x0, x1, x2, x3, x4, x5] (.inl a :: st) M ↔ uJ1_indexOfChar_4cfef R 2 [x0, x1, x2, x3, x4, x5] (.inl (zi2b a) :: st) M := zU_step dJ1_indexOfChar_4cfef_1 (Or.inl rfl)
theorem dJ1_indexOfChar_4cfef_2 : decode cJ1_indexOfChar_4cfef 2 = .ok (.istore 4, 2) := by decide +kernel
theorem rJ1_indexOfChar_4cfef_2 {R : zP} {x0 x1 x2 x4 x5 : Option zV} {st : List zV} {M : zM} {a : Int} {y : Int} : uJ1_indexOfChar_4cfef R 2 [x0, x1, x2, some (.inl y), x4, x5] (.inl a :: st) M ↔ uJ1_indexOfChar_4cfef R 4 [x0, x1, x2, some (.inl y), some (.inl a), x5] st M := Iff.trans (zU_step dJ1_indexOfChar_4cfef_2 (Or.inl rfl)) ⟨fun h => h.2, fun h => ⟨show 4 < 6 by decide, h⟩⟩
theorem rJ1_indexOfChar_4cfef_2z {R : zP} {x0 x1 x2 x3 x4 x5 : Option zV} {st : List zV} {M : zM} {a : Int} : uJ1_indexOfChar_4cfef R 2 [x0, x1, x2, x3, x4, x5] (.inl a :: st) M ↔ uJ1_indexOfChar_4cfef R 4 [x0, x1, x2, zkeep x3, some (.inl a), x5] st M := Iff.trans (zU_step dJ1_indexOfChar_4cfef_2 (Or.inl rfl)) ⟨fun h => h.2, fun h => ⟨show 4 < 6 by decide, h⟩⟩
theorem dJ1_indexOfChar_4cfef_4 : decode cJ1_indexOfChar_4cfef 4 = .ok (.iload_n 2, 1) := by decide +kernel
theorem rJ1_indexOfChar_4cfef_4 {R : zP} {x0 x1 x3 x4 x5 : Option zV} {st : List zV} {M : zM} {a : Int} : uJ1_indexOfChar_4cfef R 4 [x0, x1, some (.inl a), x3, x4, x5] st M ↔ uJ1_indexOfChar_4cfef R 5 [x0, x1, some (.inl a), x3, x4, x5] (.inl a :: st) M := zU_step dJ1_indexOfChar_4cfef_4 (Or.inl rfl)
theorem dJ1_indexOfChar_4cfef_5 : decode cJ1_indexOfChar_4cfef 5 = .ok (.istore 5, 2) := by decide +kernel
theorem rJ1_indexOfChar_4cfef_5 {R : zP} {x0 x1 x2 x3 x5 : Option zV} {st : List zV} {M : zM} {a : Int} {y : Int} : uJ1_indexOfChar_4cfef R 5 [x0, x1, x2, x3, some (.inl y), x5] (.inl a :: st) M ↔ uJ1_indexOfChar_4cfef R 7 [x0, x1, x2, x3, some (.inl y), some (.inl a)] st M := Iff.trans (zU_step dJ1_indexOfChar_4cfef_5 (Or.inl rfl)) ⟨fun h => h.2, fun h => ⟨show 5 < 6 by decide, h⟩⟩
theorem rJ1_indexOfChar_4cfef_5z {R : zP} {x0 x1 x2 x3 x4 x5 : Option zV} {st : List zV} {M : zM} {a : Int} : uJ1_indexOfChar_4cfef R 5 [x0, x1, x2, x3, x4, x5] (.inl a :: st) M ↔ uJ1_indexOfChar_4cfef R 7 [x0, x1, x2, x3, zkeep x4, some (.inl a)] st M := Iff.trans (zU_step dJ1_indexOfChar_4cfef_5 (Or.inl rfl)) ⟨fun h => h.2, fun h => ⟨show 5 < 6 by decide, h⟩⟩
theorem dJ1_indexOfChar_4cfef_7 : decode cJ1_indexOfChar_4cfef 7 = .ok (.iload 5, 2) := by decide +kernel
theorem rJ1_indexOfChar_4cfef_7 {R : zP} {x0 x1 x2 x3 x4 : Option zV} {st : List zV} {M : zM} {a : Int} : uJ1_indexOfChar_4cfef R 7 [x0, x1, x2, x3, x4, some (.inl a)] st M ↔ uJ1_indexOfChar_4cfef R 9 [x0, x1, x2, x3, x4, some (.inl a)] (.inl a :: st) M := zU_step dJ1_indexOfChar_4cfef_7 (Or.inl rfl)
theorem dJ1_indexOfChar_4cfef_9 : decode cJ1_indexOfChar_4cfef 9 = .ok (.iload_n 3, 1) := by decide +kernel
theorem rJ1_indexOfChar_4cfef_9 {R : zP} {x0 x1 x2 x4 x5 : Option zV} {st : List zV} {M : zM} {a : Int} : uJ1_indexOfChar_4cfef R 9 [x0, x1, x2, some (.inl a), x4, x5] st M ↔ uJ1_indexOfChar_4cfef R 10 [x0, x1, x2, some (.inl a), x4, x5] (.inl a :: st) M := zU_step dJ1_indexOfChar_4cfef_9 (Or.inl rfl)
theorem dJ1_indexOfChar_4cfef_10 : decode cJ1_indexOfChar_4cfef 10 = .ok (.if_icmp .ge 21, 3) := by decide +kernel
theorem rJ1_indexOfChar_4cfef_10 {R : zP} {x0 x1 x2 x3 x4 x5 : Option zV} {st : List zV} {M : zM} {a b : Int} : uJ1_indexOfChar_4cfef R 10 [x0, x1, x2, x3, x4, x5] (.inl b :: .inl a :: st) M ↔ ((zIR a ∧ zIR b) ∧ if b ≤ a then uJ1_indexOfChar_4cfef R 31 [x0, x1, x2, x3, x4, x5] st M else uJ1_indexOfChar_4cfef R 13 [x0, x1, x2, x3, x4, x5] st M) := Iff.trans (zU_step dJ1_indexOfChar_4cfef_10 (Or.inl rfl)) ⟨fun h => ⟨⟨h.1.1, h.1.2.1⟩, (zite (c := b ≤ a)).mpr h.2⟩, fun h => ⟨⟨h.1.1, h.1.2, by decide⟩, (zite (c := b ≤ a)).mp h.2⟩⟩
theorem dJ1_indexOfChar_4cfef_13 : decode cJ1_indexOfChar_4cfef 13 = .ok (.aload_n 0, 1) := by decide +kernel
theorem rJ1_indexOfChar_4cfef_13 {R : zP} {x1 x2 x3 x4 x5 : Option zV} {st : List zV} {M : zM} {a : Nat} : uJ1_indexOfChar_4cfef R 13 [some (.inr (.inr a)), x1, x2, x3, x4, x5] st M ↔ uJ1_indexOfChar_4cfef R 14 [some (.inr (.inr a)), x1, x2, x3, x4, x5] (.inr (.inr a) :: st) M := zU_step dJ1_indexOfChar_4cfef_13 (Or.inl rfl)
theorem dJ1_indexOfChar_4cfef_14 : decode cJ1_indexOfChar_4cfef 14 = .ok (.iload 5, 2) := by decide +kernel
theorem rJ1_indexOfChar_4cfef_14 {R : zP} {x0 x1 x2 x3 x4 : Option zV} {st : List zV} {M : zM} {a : Int} : uJ1_indexOfChar_4cfef R 14 [x0, x1, x2, x3, x4, some (.inl a)] st M ↔ uJ1_indexOfChar_4cfef R 16 [x0, x1, x2, x3, x4, some (.inl a)] (.inl a :: st) M := zU_step dJ1_indexOfChar_4cfef_14 (Or.inl rfl)
theorem dJ1_indexOfChar_4cfef_16 : decode cJ1_indexOfChar_4cfef 16 = .ok (.baload, 1) := by decide +kernel
theorem rJ1_indexOfChar_4cfef_16 {R : zP} {x0 x1 x2 x3 x4 x5 : Option zV} {st : List zV} {M : zM} {i : Int} {r : Nat} : uJ1_indexOfChar_4cfef R 16 [x0, x1, x2, x3, x4, x5] (.inl i :: .inr (.inr r) :: st) M ↔ zread fJ1 2 r M i (fun v => uJ1_indexOfChar_4cfef R 17 [x0, x1, x2, x3, x4, x5] (.inl v :: st) M) := zU_step dJ1_indexOfChar_4cfef_16 (Or.inl rfl)
theorem dJ1_indexOfChar_4cfef_17 : decode cJ1_indexOfChar_4cfef 17 = .ok (.iload 4, 2) := by decide +kernel
theorem rJ1_indexOfChar_4cfef_17 {R : zP} {x0 x1 x2 x3 x5 : Option zV} {st : List zV} {M : zM} {a : Int} : uJ1_indexOfChar_4cfef R 17 [x0, x1, x2, x3, some (.inl a), x5] st M ↔ uJ1_indexOfChar_4cfef R 19 [x0, x1, x2, x3, some (.inl a), x5] (.inl a :: st) M := zU_step dJ1_indexOfChar_4cfef_17 (Or.inl rfl)
theorem dJ1_indexOfChar_4cfef_19 : decode cJ1_indexOfChar_4cfef 19 = .ok (.if_icmp .ne 6, 3) := by decide +kernel
theorem rJ1_indexOfChar_4cfef_19 {R : zP} {x0 x1 x2 x3 x4 x5 : Option zV} {st : List zV} {M : zM} {a b : Int} : uJ1_indexOfChar_4cfef R 19 [x0, x1, x2, x3, x4, x5] (.inl b :: .inl a :: st) M ↔ ((zIR a ∧ zIR b) ∧ if a ≠ b then uJ1_indexOfChar_4cfef R 25 [x0, x1, x2, x3, x4, x5] st M else uJ1_indexOfChar_4cfef R 22 [x0, x1, x2, x3, x4, x5] st M) := Iff.trans (zU_step dJ1_indexOfChar_4cfef_19 (Or.inl rfl)) ⟨fun h => ⟨⟨h.1.1, h.1.2.1⟩, (zite (c := a ≠ b)).mpr h.2⟩, fun h => ⟨⟨h.1.1, h.1.2, by decide⟩, (zite (c := a ≠ b)).mp h.2⟩⟩
theorem dJ1_indexOfChar_4cfef_22 : decode cJ1_indexOfChar_4cfef 22 = .ok (.iload 5, 2) := by decide +kernel
theorem rJ1_indexOfChar_4cfef_22 {R : zP} {x0 x1 x2 x3 x4 : Option zV} {st : List zV} {M : zM} {a : Int} : uJ1_indexOfChar_4cfef R 22 [x0, x1, x2, x3, x4, some (.inl a)] st M ↔ uJ1_indexOfChar_4cfef R 24 [x0, x1, x2, x3, x4, some (.inl a)] (.inl a :: st) M := zU_step dJ1_indexOfChar_4cfef_22 (Or.inl rfl)
theorem dJ1_indexOfChar_4cfef_24 : decode cJ1_indexOfChar_4cfef 24 = .ok (.ireturn, 1) := by decide +kernel
theorem rJ1_indexOfChar_4cfef_24 {R : zP} {x0 x1 x2 x3 x4 x5 : Option zV} {M : zM} {a : Int} : uJ1_indexOfChar_4cfef R 24 [x0, x1, x2, x3, x4, x5] [.inl a] M ↔ R (some (.inl a)) M := Iff.trans (zU_step dJ1_indexOfChar_4cfef_24 (Or.inl rfl)) ⟨fun h => h.2.2, fun h => ⟨rfl, Or.inl rfl, h⟩⟩
theorem dJ1_indexOfChar_4cfef_25 : decode cJ1_indexOfChar_4cfef 25 = .ok (.iinc 5 1, 3) := by decide +kernel
theorem rJ1_indexOfChar_4cfef_25 {R : zP} {x0 x1 x2 x3 : Option zV} {st : List zV} {M : zM} {a : Int} {y : Int} : uJ1_indexOfChar_4cfef R 25 [x0, x1, x2, x3, some (.inl y), some (.inl a)] st M ↔ uJ1_indexOfChar_4cfef R 28 [x0, x1, x2, x3, some (.inl y), some (.inl (a + (1)))] st M := Iff.trans (zU_step dJ1_indexOfChar_4cfef_25 (Or.inl rfl)) ⟨fun h => h.2, fun h => ⟨show 5 < 6 by decide, h⟩⟩
theorem rJ1_indexOfChar_4cfef_25z {R : zP} {x0 x1 x2 x3 x4 : Option zV} {st : List zV} {M : zM} {a : Int} : uJ1_indexOfChar_4cfef R 25 [x0, x1, x2, x3, x4, some (.inl a)] st M ↔ uJ1_indexOfChar_4cfef R 28 [x0, x1, x2, x3, zkeep x4, some (.inl (a + (1)))] st M := Iff.trans (zU_step dJ1_indexOfChar_4cfef_25 (Or.inl rfl)) ⟨fun h => h.2, fun h => ⟨show 5 < 6 by decide, h⟩⟩
theorem dJ1_indexOfChar_4cfef_28 : decode cJ1_indexOfChar_4cfef 28 = .ok (.goto (-21), 3) := by decide +kernel
theorem rJ1_indexOfChar_4cfef_28 {R : zP} {x0 x1 x2 x3 x4 x5 : Option zV} {st : List zV} {M : zM} : uJ1_indexOfChar_4cfef R 28 [x0, x1, x2, x3, x4, x5] st M ↔ uJ1_indexOfChar_4cfef R 7 [x0, x1, x2, x3, x4, x5] st M := Iff.trans (zU_step dJ1_indexOfChar_4cfef_28 (Or.inl rfl)) ⟨fun h => h.2, fun h => ⟨by decide, h⟩⟩
theorem dJ1_indexOfChar_4cfef_31 : decode cJ1_indexOfChar_4cfef 31 = .ok (.iconst (-1), 1) := by decide +kernel
theorem rJ1_indexOfChar_4cfef_31 {R : zP} {x0 x1 x2 x3 x4 x5 : Option zV} {st : List zV} {M : zM} : uJ1_indexOfChar_4cfef R 31 [x0, x1, x2, x3, x4, x5] st M ↔ uJ1_indexOfChar_4cfef R 32 [x0, x1, x2, x3, x4, x5] (.inl (-1) :: st) M := zU_step dJ1_indexOfChar_4cfef_31 (Or.inl rfl)
theorem dJ1_indexOfChar_4cfef_32 : decode cJ1_indexOfChar_4cfef 32 = .ok (.ireturn, 1) := by decide +kernel
theorem rJ1_indexOfChar_4cfef_32 {R : zP} {x0 x1 x2 x3 x4 x5 : Option zV} {M : zM} {a : Int} : uJ1_indexOfChar_4cfef R 32 [x0, x1, x2, x3, x4, x5] [.inl a] M ↔ R (some (.inl a)) M := Iff.trans (zU_step dJ1_indexOfChar_4cfef_32 (Or.inl rfl)) ⟨fun h => h.2.2, fun h => ⟨rfl, Or.inl rfl, h⟩⟩
theorem eJ1_indexOfChar_4cfef {R : zP} {M : zM} {p0 : Nat} {p1 : Int} {p2 : Int} {p3 : Int} : tJ1_indexOfChar_4cfef [.inr (.inr p0), .inl p1, .inl p2, .inl p3] M R ↔ uJ1_indexOfChar_4cfef R 0 [some (.inr (.inr p0)), some (.inl p1), some (.inl p2), some (.inl p3), none, none] [] M := ⟨fun h => h.2, fun h => ⟨show 4 ≤ 6 by decide, h⟩⟩
def uJ1_indexOf_4cfef (R : zP) : zK := zU fJ1 vJ1_indexOf_4cfef cJ1_indexOf_4cfef R
theorem dJ1_indexOf_4cfef_0 : decode cJ1_indexOf_4cfef 0 = .ok (.iload_n 1, 1) := by decide +kernel
theorem rJ1_indexOf_4cfef_0 {R : zP} {x0 x2 x3 : Option zV} {st : List zV} {M : zM} {a : Int} : uJ1_indexOf_4cfef R 0 [x0, some (.inl a), x2, x3] st M ↔ uJ1_indexOf_4cfef R 1 [x0, some (.inl a), x2, x3] (.inl a :: st) M := zU_step dJ1_indexOf_4cfef_0 (Or.inl rfl)
theorem dJ1_indexOf_4cfef_1 : decode cJ1_indexOf_4cfef 1 = .ok (.invokestatic 88, 3) := by decide +kernel
theorem rJ1_indexOf_4cfef_1 {R : zP} {x0 x1 x2 x3 : Option zV} {st : List zV} {M : zM} {a0 : zV} : uJ1_indexOf_4cfef R 1 [x0, x1, x2, x3] (a0 :: st) M ↔ (st.length ≤ 4 ∧ zcv tJ1_canEncode_9a6ad [a0] M (fun v M => uJ1_indexOf_4cfef R 4 [x0, x1, x2, x3] (v :: st) M)) := Iff.trans (zU_step dJ1_indexOf_4cfef_1 (Or.inl rfl)) ⟨fun h => ⟨h.2.1, zcv_of h.2.2⟩, fun h => ⟨rfl, h.1, zcv_to h.2⟩⟩
theorem dJ1_indexOf_4cfef_4 : decode cJ1_indexOf_4cfef 4 = .ok (.ifCond .ne 5, 3) := by decide +kernel
theorem rJ1_indexOf_4cfef_4 {R : zP} {x0 x1 x2 x3 : Option zV} {st : List zV} {M : zM} {a : Int} : uJ1_indexOf_4cfef R 4 [x0, x1, x2, x3] (.inl a :: st) M ↔ (zIR a ∧ if a ≠ 0 then uJ1_indexOf_4cfef R 9 [x0, x1, x2, x3] st M else uJ1_indexOf_4cfef R 7 [x0, x1, x2, x3] st M) := Iff.trans (zU_step dJ1_indexOf_4cfef_4 (Or.inl rfl)) ⟨fun h => ⟨h.1.1, (zite (c := a ≠ 0)).mpr h.2⟩, fun h => ⟨⟨h.1, by decide⟩, (zite (c := a ≠ 0)).mp h.2⟩⟩
theorem dJ1_indexOf_4cfef_7 : decode cJ1_indexOf_4cfef 7 = .ok (.iconst (-1), 1) := by decide +kernel
theorem rJ1_indexOf_4cfef_7 {R : zP} {x0 x1 x2 x3 : Option zV} {st : List zV} {M : zM} : uJ1_indexOf_4cfef R 7 [x0, x1, x2, x3] st M ↔ uJ1_indexOf_4cfef R 8 [x0, x1, x2, x3] (.inl (-1) :: st) M := zU_step dJ1_indexOf_4cfef_7 (Or.inl rfl)
theorem dJ1_indexOf_4cfef_8 : decode cJ1_indexOf_4cfef 8 = .ok (.ireturn, 1) := by decide +kernel
theorem rJ1_indexOf_4cfef_8 {R : zP} {x0 x1 x2 x3 : Option zV} {M : zM} {a : Int} : uJ1_indexOf_4cfef R 8 [x0, x1, x2, x3] [.inl a] M ↔ R (some (.inl a)) M := Iff.trans (zU_step dJ1_indexOf_4cfef_8 (Or.inl rfl)) ⟨fun h => h.2.2, fun h => ⟨rfl, Or.inl rfl, h⟩⟩
theorem dJ1_indexOf_4cfef_9 : decode cJ1_indexOf_4cfef 9 = .ok (.iload_n 2, 1) := by decide +kernel
theorem rJ1_indexOf_4cfef_9 {R : zP} {x0 x1 x3 : Option zV} {st : List zV} {M : zM} {a : Int} : uJ1_indexOf_4cfef R 9 [x0, x1, some (.inl a), x3] st M ↔ uJ1_indexOf_4cfef R 10 [x0, x1, some (.inl a), x3] (.inl a :: st) M := zU_step dJ1_indexOf_4cfef_9 (Or.inl rfl)
theorem dJ1_indexOf_4cfef_10 : decode cJ1_indexOf_4cfef 10 = .ok (.iconst 0, 1) := by decide +kernel
theorem rJ1_indexOf_4cfef_10 {R : zP} {x0 x1 x2 x3 : Option zV} {st : List zV} {M : zM} : uJ1_indexOf_4cfef R 10 [x0, x1, x2, x3] st M ↔ uJ1_indexOf_4cfef R 11 [x0, x1, x2, x3] (.inl (0) :: st) M := zU_step dJ1_indexOf_4cfef_10 (Or.inl rfl)
theorem dJ1_indexOf_4cfef_11 : decode cJ1_indexOf_4cfef 11 = .ok (.invokestatic 92, 3) := by decide +kernel
theorem rJ1_indexOf_4cfef_11 {R : zP} {x0 x1 x2 x3 : Option zV} {st : List zV} {M : zM} {a0 a1 : zV} : uJ1_indexOf_4cfef R 11 [x0, x1, x2, x3] (a1 :: a0 :: st) M ↔ (st.length ≤ 4 ∧ zcv zmaxT [a0, a1] M (fun v M => uJ1_indexOf_4cfef R 14 [x0, x1, x2, x3] (v :: st) M)) := Iff.trans (zU_step dJ1_indexOf_4cfef_11 (Or.inl rfl)) ⟨fun h => ⟨h.2.1, zcv_of h.2.2⟩, fun h => ⟨rfl, h.1, zcv_to h.2⟩⟩
theorem dJ1_indexOf_4cfef_14 : decode cJ1_indexOf_4cfef 14 = .ok (.istore_n 2, 1) := by decide +kernel
theorem rJ1_indexOf_4cfef_14 {R : zP} {x0 x2 x3 : Option zV} {st : List zV} {M : zM} {a : Int} {y : Int} : uJ1_indexOf_4cfef R 14 [x0, some (.inl y), x2, x3] (.inl a :: st) M ↔ uJ1_indexOf_4cfef R 15 [x0, some (.inl y), some (.inl a), x3] st M := Iff.trans (zU_step dJ1_indexOf_4cfef_14 (Or.inl rfl)) ⟨fun h => h.2, fun h => ⟨show 2 < 4 by decide, h⟩⟩
theorem rJ1_indexOf_4cfef_14z {R : zP} {x0 x1 x2 x3 : Option zV} {st : List zV} {M : zM} {a : Int} : uJ1_indexOf_4cfef R 14 [x0, x1, x2, x3] (.inl a :: st) M ↔ uJ1_indexOf_4cfef R 15 [x0, zkeep x1, some (.inl a), x3] st M := Iff.trans (zU_step dJ1_indexOf_4cfef_14 (Or.inl rfl)) ⟨fun h => h.2, fun h => ⟨show 2 < 4 by decide, h⟩⟩
theorem dJ1_indexOf_4cfef_15 : decode cJ1_indexOf_4cfef 15 = .ok (.iload_n 3, 1) := by decide +kernel
theorem rJ1_indexOf_4cfef_15 {R : zP} {x0 x1 x2 : Option zV} {st : List zV} {M : zM} {a : Int} : uJ1_indexOf_4cfef R 15 [x0, x1, x2, some (.inl a)] st M ↔ uJ1_indexOf_4cfef R 16 [x0, x1, x2, some (.inl a)] (.inl a :: st) M := zU_step dJ1_indexOf_4cfef_15 (Or.inl rfl)
theorem dJ1_indexOf_4cfef_16 : decode cJ1_indexOf_4cfef 16 = .ok (.aload_n 0, 1) := by decide +kernel
theorem rJ1_indexOf_4cfef_16 {R : zP} {x1 x2 x3 : Option zV} {st : List zV} {M : zM} {a : Nat} : uJ1_indexOf_4cfef R 16 [some (.inr (.inr a)), x1, x2, x3] st M ↔ uJ1_indexOf_4cfef R 17 [some (.inr (.inr a)), x1, x2, x3] (.inr (.inr a) :: st) M := zU_step dJ1_indexOf_4cfef_16 (Or.inl rfl)
theorem dJ1_indexOf_4cfef_17 : decode cJ1_indexOf_4cfef 17 = .ok (.arraylength, 1) := by decide +kernel
theorem rJ1_indexOf_4cfef_17 {R : zP} {x0 x1 x2 x3 : Option zV} {st : List zV} {M : zM} {r : Nat} : uJ1_indexOf_4cfef R 17 [x0, x1, x2, x3] (.inr (.inr r) :: st) M ↔ zlenof fJ1 r (fun v => uJ1_indexOf_4cfef R 18 [x0, x1, x2, x3] (.inl v :: st) M) := zU_step dJ1_indexOf_4cfef_17 (Or.inl rfl)
theorem dJ1_indexOf_4cfef_18 : decode cJ1_indexOf_4cfef 18 = .ok (.invokestatic 38, 3) := by decide +kernel
theorem rJ1_indexOf_4cfef_18 {R : zP} {x0 x1 x2 x3 : Option zV} {st : List zV} {M : zM} {a0 a1 : zV} : uJ1_indexOf_4cfef R 18 [x0, x1, x2, x3] (a1 :: a0 :: st) M ↔ (st.length ≤ 4 ∧ zcv zminT [a0, a1] M (fun v M => uJ1_indexOf_4cfef R 21 [x0, x1, x2, x3] (v :: st) M)) := Iff.trans (zU_step dJ1_indexOf_4cfef_18 (Or.inl rfl)) ⟨fun h => ⟨h.2.1, zcv_of h.2.2⟩, fun h => ⟨rfl, h.1, zcv_to h.2⟩⟩
theorem dJ1_indexOf_4cfef_21 : decode cJ1_indexOf_4cfef 21 = .ok (.istore_n 3, 1) := by decide +kernel
theorem rJ1_indexOf_4cfef_21 {R : zP} {x0 x1 x3 : Option zV} {st : List zV} {M : zM} {a : Int} {y : Int} : uJ1_indexOf_4cfef R 21 [x0, x1, some (.inl y), x3] (.inl a :: st) M ↔ uJ1_indexOf_4cfef R 22 [x0, x1, some (.inl y), some (.inl a)] st M := Iff.trans (zU_step dJ1_indexOf_4cfef_21 (Or.inl rfl)) ⟨fun h => h.2, fun h => ⟨show 3 < 4 by decide, h⟩⟩
theorem rJ1_indexOf_4cfef_21z {R : zP} {x0 x1 x2 x3 : Option zV} {st : List zV} {M : zM} {a : Int} : uJ1_indexOf_4cfef R 21 [x0, x1, x2, x3] (.inl a :: st) M ↔ uJ1_indexOf_4cfef R 22 [x0, x1, zkeep x2, some (.inl a)] st M := Iff.trans (zU_step dJ1_indexOf_4cfef_21 (Or.inl rfl)) ⟨fun h => h.2, fun h => ⟨show 3 < 4 by decide, h⟩⟩
theorem dJ1_indexOf_4cfef_22 : decode cJ1_indexOf_4cfef 22 = .ok (.iload_n 2, 1) := by decide +kernel
theorem rJ1_indexOf_4cfef_22 {R : zP} {x0 x1 x3 : Option zV} {st : List zV} {M : zM} {a : Int} : uJ1_indexOf_4cfef R 22 [x0, x1, some (.inl a), x3] st M ↔ uJ1_indexOf_4cfef R 23 [x0, x1, some (.inl a), x3] (.inl a :: st) M := zU_step dJ1_indexOf_4cfef_22 (Or.inl rfl)
theorem dJ1_indexOf_4cfef_23 : decode cJ1_indexOf_4cfef 23 = .ok (.iload_n 3, 1) := by decide +kernel
theorem rJ1_indexOf_4cfef_23 {R : zP} {x0 x1 x2 : Option zV} {st : List zV} {M : zM} {a : Int} : uJ1_indexOf_4cfef R 23 [x0, x1, x2, some (.inl a)] st M ↔ uJ1_indexOf_4cfef R 24 [x0, x1, x2, some (.inl a)] (.inl a :: st) M := zU_step dJ1_indexOf_4cfef_23 (Or.inl rfl)
theorem dJ1_indexOf_4cfef_24 : decode cJ1_indexOf_4cfef 24 = .ok (.if_icmp .lt 5, 3) := by decide +kernel
theorem rJ1_indexOf_4cfef_24 {R : zP} {x0 x1 x2 x3 : Option zV} {st : List zV} {M : zM} {a b : Int} : uJ1_indexOf_4cfef R 24 [x0, x1, x2, x3] (.inl b :: .inl a :: st) M ↔ ((zIR a ∧ zIR b) ∧ if a < b then uJ1_indexOf_4cfef R 29 [x0, x1, x2, x3] st M else uJ1_indexOf_4cfef R 27 [x0, x1, x2, x3] st M) := Iff.trans (zU_step dJ1_indexOf_4cfef_24 (Or.inl rfl)) ⟨fun h => ⟨⟨h.1.1, h.1.2.1⟩, (zite (c := a < b)).mpr h.2⟩, fun h => ⟨⟨h.1.1, h.1.2, by decide⟩, (zite (c := a < b)).mp h.2⟩⟩
theorem dJ1_indexOf_4cfef_27 : decode cJ1_indexOf_4cfef 27 = .ok (.iconst (-1), 1) := by decide +kernel
theorem rJ1_indexOf_4cfef_27 {R : zP} {x0 x1 x2 x3 : Option zV} {st : List zV} {M : zM} : uJ1_indexOf_4cfef R 27 [x0, x1, x2, x3] st M ↔ uJ1_indexOf_4cfef R 28 [x0, x1, x2, x3] (.inl (-1) :: st) M := zU_step dJ1_indexOf_4cfef_27 (Or.inl rfl)
theorem dJ1_indexOf_4cfef_28 : decode cJ1_indexOf_4cfef 28 = .ok (.ireturn, 1) := by decide +kernel
theorem rJ1_indexOf_4cfef_28 {R : zP} {x0 x1 x2 x3 : Option zV} {M : zM} {a : Int} : uJ1_indexOf_4cfef R 28 [x0, x1, x2, x3] [.inl a] M ↔ R (some (.inl a)) M := Iff.trans (zU_step dJ1_indexOf_4cfef_28 (Or.inl rfl)) ⟨fun h => h.2.2, fun h => ⟨rfl, Or.inl rfl, h⟩⟩
theorem dJ1_indexOf_4cfef_29 : decode cJ1_indexOf_4cfef 29 = .ok (.aload_n 0, 1) := by decide +kernel
theorem rJ1_indexOf_4cfef_29 {R : zP} {x1 x2 x3 : Option zV} {st : List zV} {M : zM} {a : Nat} : uJ1_indexOf_4cfef R 29 [some (.inr (.inr a)), x1, x2, x3] st M ↔ uJ1_indexOf_4cfef R 30 [some (.inr (.inr a)), x1, x2, x3] (.inr (.inr a) :: st) M := zU_step dJ1_indexOf_4cfef_29 (Or.inl rfl)
theorem dJ1_indexOf_4cfef_30 : decode cJ1_indexOf_4cfef 30 = .ok (.iload_n 1, 1) := by decide +kernel
theorem rJ1_indexOf_4cfef_30 {R : zP} {x0 x2 x3 : Option zV} {st : List zV} {M : zM} {a : Int} : uJ1_indexOf_4cfef R 30 [x0, some (.inl a), x2, x3] st M ↔ uJ1_indexOf_4cfef R 31 [x0, some (.inl a), x2, x3] (.inl a :: st) M := zU_step dJ1_indexOf_4cfef_30 (Or.inl rfl)
theorem dJ1_indexOf_4cfef_31 : decode cJ1_indexOf_4cfef 31 = .ok (.iload_n 2, 1) := by decide +kernel
theorem rJ1_indexOf_4cfef_31 {R : zP} {x0 x1 x3 : Option zV} {st : List zV} {M : zM} {a : Int} : uJ1_indexOf_4cfef R 31 [x0, x1, some (.inl a), x3] st M ↔ uJ1_indexOf_4cfef R 32 [x0, x1, some (.inl a), x3] (.inl a :: st) M := zU_step dJ1_indexOf_4cfef_31 (Or.inl rfl)
theorem dJ1_indexOf_4cfef_32 : decode cJ1_indexOf_4cfef 32 = .ok (.iload_n 3, 1) := by decide +kernel
theorem rJ1_indexOf_4cfef_32 {R : zP} {x0 x1 x2 : Option zV} {st : List zV} {M : zM} {a : Int} : uJ1_indexOf_4cfef R 32 [x0, x1, x2, some (.inl a)] st M ↔ uJ1_indexOf_4cfef R 33 [x0, x1, x2, some (.inl a)] (.inl a :: st) M := zU_step dJ1_indexOf_4cfef_32 (Or.inl rfl)
theorem dJ1_indexOf_4cfef_33 : decode cJ1_indexOf_4cfef 33 = .ok (.invokestatic 95, 3) := by decide +kernel
theorem rJ1_indexOf_4cfef_33 {R : zP} {x0 x1 x2 x3 : Option zV} {st : List zV} {M : zM} {a0 a1 a2 a3 : zV} : uJ1_indexOf_4cfef R 33 [x0, x1, x2, x3] (a3 :: a2 :: a1 :: a0 :: st) M ↔ (st.length ≤ 4 ∧ zcv tJ1_indexOfChar_4cfef [a0, a1, a2, a3] M (fun v M => uJ1_indexOf_4cfef R 36 [x0, x1, x2, x3] (v :: st) M)) := Iff.trans (zU_step dJ1_indexOf_4cfef_33 (Or.inl rfl)) ⟨fun h => ⟨h.2.1, zcv_of h.2.2⟩, fun h => ⟨rfl, h.1, zcv_to h.2⟩⟩
theorem dJ1_indexOf_4cfef_36 : decode cJ1_indexOf_4cfef 36 = .ok (.ireturn, 1) := by decide +kernel
theorem rJ1_indexOf_4cfef_36 {R : zP} {x0 x1 x2 x3 : Option zV} {M : zM} {a : Int} : uJ1_indexOf_4cfef R 36 [x0, x1, x2, x3] [.inl a] M ↔ R (some (.inl a)) M := Iff.trans (zU_step dJ1_indexOf_4cfef_36 (Or.inl rfl)) ⟨fun h => h.2.2, fun h => ⟨rfl, Or.inl rfl, h⟩⟩
theorem eJ1_indexOf_4cfef {R : zP} {M : zM} {p0 : Nat} {p1 : Int} {p2 : Int} {p3 : Int} : tJ1_indexOf_4cfef [.inr (.inr p0), .inl p1, .inl p2, .inl p3] M R ↔ uJ1_indexOf_4cfef R 0 [some (.inr (.inr p0)), some (.inl p1), some (.inl p2), some (.inl p3)] [] M := ⟨fun h => h.2, fun h => ⟨show 4 ≤ 4 by decide, h⟩⟩
def uJ0_indexOf_7cf53 (R : zP) : zK := zU fJ0 vJ0_indexOf_7cf53 cJ0_indexOf_7cf53 R
theorem dJ0_indexOf_7cf53_0 : decode cJ0_indexOf_7cf53 0 = .ok (.aload_n 0, 1) := by decide +kernel
theorem rJ0_indexOf_7cf53_0 {R : zP} {x1 x2 : Option zV} {st : List zV} {M : zM} {a : Nat} : uJ0_indexOf_7cf53 R 0 [some (.inr (.inr a)), x1, x2] st M ↔ uJ0_indexOf_7cf53 R 1 [some (.inr (.inr a)), x1, x2] (.inr (.inr a) :: st) M := zU_step dJ0_indexOf_7cf53_0 (Or.inl rfl)
theorem dJ0_indexOf_7cf53_1 : decode cJ0_indexOf_7cf53 1 = .ok (.invokevirtual 492, 3) := by decide +kernel
theorem rJ0_indexOf_7cf53_1 {R : zP} {x0 x1 x2 : Option zV} {st : List zV} {M : zM} {a0 : zV} : uJ0_indexOf_7cf53 R 1 [x0, x1, x2] (a0 :: st) M ↔ (st.length ≤ 4 ∧ zcv (zv 99 tJ0_isLatin1_aae02) [a0] M (fun v M => uJ0_indexOf_7cf53 R 4 [x0, x1, x2] (v :: st) M)) := Iff.trans (zU_step dJ0_indexOf_7cf53_1 (Or.inl rfl)) ⟨fun h => ⟨h.2.1, zcv_of h.2.2⟩, fun h => ⟨rfl, h.1, zcv_to h.2⟩⟩
theorem dJ0_indexOf_7cf53_4 : decode cJ0_indexOf_7cf53 4 = .ok (.ifCond .eq 19, 3) := by decide +kernel
theorem rJ0_indexOf_7cf53_4 {R : zP} {x0 x1 x2 : Option zV} {st : List zV} {M : zM} {a : Int} : uJ0_indexOf_7cf53 R 4 [x0, x1, x2] (.inl a :: st) M ↔ (zIR a ∧ if a = 0 then uJ0_indexOf_7cf53 R 23 [x0, x1, x2] st M else uJ0_indexOf_7cf53 R 7 [x0, x1, x2] st M) := Iff.trans (zU_step dJ0_indexOf_7cf53_4 (Or.inl rfl)) ⟨fun h => ⟨h.1.1, (zite (c := a = 0)).mpr h.2⟩, fun h => ⟨⟨h.1, by decide⟩, (zite (c := a = 0)).mp h.2⟩⟩
theorem dJ0_indexOf_7cf53_7 : decode cJ0_indexOf_7cf53 7 = .ok (.aload_n 0, 1) := by decide +kernel
theorem rJ0_indexOf_7cf53_7 {R : zP} {x1 x2 : Option zV} {st : List zV} {M : zM} {a : Nat} : uJ0_indexOf_7cf53 R 7 [some (.inr (.inr a)), x1, x2] st M ↔ uJ0_indexOf_7cf53 R 8 [some (.inr (.inr a)), x1, x2] (.inr (.inr a) :: st) M := zU_step dJ0_indexOf_7cf53_7 (Or.inl rfl)
theorem dJ0_indexOf_7cf53_8 : decode cJ0_indexOf_7cf53 8 = .ok (.getfield 9, 3) := by decide +kernel
theorem rJ0_indexOf_7cf53_8 {R : zP} {x0 x1 x2 : Option zV} {st : List zV} {M : zM} {r : Nat} : uJ0_indexOf_7cf53 R 8 [x0, x1, x2] (.inr (.inr r) :: st) M ↔ zgetx fJ0 9 r M (fun v => uJ0_indexOf_7cf53 R 11 [x0, x1, x2] (v :: st) M) := zU_step dJ0_indexOf_7cf53_8 (Or.inl rfl)
theorem dJ0_indexOf_7cf53_11 : decode cJ0_indexOf_7cf53 11 = .ok (.iload_n 1, 1) := by decide +kernel
theorem rJ0_indexOf_7cf53_11 {R : zP} {x0 x2 : Option zV} {st : List zV} {M : zM} {a : Int} : uJ0_indexOf_7cf53 R 11 [x0, some (.inl a), x2] st M ↔ uJ0_indexOf_7cf53 R 12 [x0, some (.inl a), x2] (.inl a :: st) M := zU_step dJ0_indexOf_7cf53_11 (Or.inl rfl)
theorem dJ0_indexOf_7cf53_12 : decode cJ0_indexOf_7cf53 12 = .ok (.iload_n 2, 1) := by decide +kernel
theorem rJ0_indexOf_7cf53_12 {R : zP} {x0 x1 : Option zV} {st : List zV} {M : zM} {a : Int} : uJ0_indexOf_7cf53 R 12 [x0, x1, some (.inl a)] st M ↔ uJ0_indexOf_7cf53 R 13 [x0, x1, some (.inl a)] (.inl a :: st) M := zU_step dJ0_indexOf_7cf53_12 (Or.inl rfl)
theorem dJ0_indexOf_7cf53_13 : decode cJ0_indexOf_7cf53 13 = .ok (.aload_n 0, 1) := by decide +kernel
theorem rJ0_indexOf_7cf53_13 {R : zP} {x1 x2 : Option zV} {st : List zV} {M : zM} {a : Nat} : uJ0_indexOf_7cf53 R 13 [some (.inr (.inr a)), x1, x2] st M ↔ uJ0_indexOf_7cf53 R 14 [some (.inr (.inr a)), x1, x2] (.inr (.inr a) :: st) M := zU_step dJ0_indexOf_7cf53_13 (Or.inl rfl)
theorem dJ0_indexOf_7cf53_14 : decode cJ0_indexOf_7cf53 14 = .ok (.invokevirtual 505, 3) := by decide +kernel
theorem rJ0_indexOf_7cf53_14 {R : zP} {x0 x1 x2 : Option zV} {st : List zV} {M : zM} {a0 : zV} : uJ0_indexOf_7cf53 R 14 [x0, x1, x2] (a0 :: st) M ↔ (st.length ≤ 4 ∧ zcv (zv 99 tJ0_length_8abf5) [a0] M (fun v M => uJ0_indexOf_7cf53 R 17 [x0, x1, x2] (v :: st) M)) := Iff.trans (zU_step dJ0_indexOf_7cf53_14 (Or.inl rfl)) ⟨fun h => ⟨h.2.1, zcv_of h.2.2⟩, fun h => ⟨rfl, h.1, zcv_to h.2⟩⟩
theorem dJ0_indexOf_7cf53_17 : decode cJ0_indexOf_7cf53 17 = .ok (.invokestatic 637, 3) := by decide +kernel
theorem rJ0_indexOf_7cf53_17 {R : zP} {x0 x1 x2 : Option zV} {st : List zV} {M : zM} {a0 a1 a2 a3 : zV} : uJ0_indexOf_7cf53 R 17 [x0, x1, x2] (a3 :: a2 :: a1 :: a0 :: st) M ↔ (st.length ≤ 4 ∧ zcv tJ1_indexOf_4cfef [a0, a1, a2, a3] M (fun v M => uJ0_indexOf_7cf53 R 20 [x0, x1, x2] (v :: st) M)) := Iff.trans (zU_step dJ0_indexOf_7cf53_17 (Or.inl rfl)) ⟨fun h => ⟨h.2.1, zcv_of h.2.2⟩, fun h => ⟨rfl, h.1, zcv_to h.2⟩⟩
theorem dJ0_indexOf_7cf53_20 : decode cJ0_indexOf_7cf53 20 = .ok (.goto 16, 3) := by decide +kernel
theorem rJ0_indexOf_7cf53_20 {R : zP} {x0 x1 x2 : Option zV} {st : List zV} {M : zM} : uJ0_indexOf_7cf53 R 20 [x0, x1, x2] st M ↔ uJ0_indexOf_7cf53 R 36 [x0, x1, x2] st M := Iff.trans (zU_step dJ0_indexOf_7cf53_20 (Or.inl rfl)) ⟨fun h => h.2, fun h => ⟨by decide, h⟩⟩
theorem dJ0_indexOf_7cf53_23 : decode cJ0_indexOf_7cf53 23 = .ok (.aload_n 0, 1) := by decide +kernel
theorem rJ0_indexOf_7cf53_23 {R : zP} {x1 x2 : Option zV} {st : List zV} {M : zM} {a : Nat} : uJ0_indexOf_7cf53 R 23 [some (.inr (.inr a)), x1, x2] st M ↔ uJ0_indexOf_7cf53 R 24 [some (.inr (.inr a)), x1, x2] (.inr (.inr a) :: st) M := zU_step dJ0_indexOf_7cf53_23 (Or.inl rfl)
theorem dJ0_indexOf_7cf53_24 : decode cJ0_indexOf_7cf53 24 = .ok (.getfield 9, 3) := by decide +kernel
theorem rJ0_indexOf_7cf53_24 {R : zP} {x0 x1 x2 : Option zV} {st : List zV} {M : zM} {r : Nat} : uJ0_indexOf_7cf53 R 24 [x0, x1, x2] (.inr (.inr r) :: st) M ↔ zgetx fJ0 9 r M (fun v => uJ0_indexOf_7cf53 R 27 [x0, x1, x2] (v :: st) M) := zU_step dJ0_indexOf_7cf53_24 (Or.inl rfl)
theorem dJ0_indexOf_7cf53_27 : decode cJ0_indexOf_7cf53 27 = .ok (.iload_n 1, 1) := by decide +kernel
theorem rJ0_indexOf_7cf53_27 {R : zP} {x0 x2 : Option zV} {st : List zV} {M : zM} {a : Int} : uJ0_indexOf_7cf53 R 27 [x0, some (.inl a), x2] st M ↔ uJ0_indexOf_7cf53 R 28 [x0, some (.inl a), x2] (.inl a :: st) M := zU_step dJ0_indexOf_7cf53_27 (Or.inl rfl)
theorem dJ0_indexOf_7cf53_28 : decode cJ0_indexOf_7cf53 28 = .ok (.iload_n 2, 1) := by decide +kernel
theorem rJ0_indexOf_7cf53_28 {R : zP} {x0 x1 : Option zV} {st : List zV} {M : zM} {a : Int} : uJ0_indexOf_7cf53 R 28 [x0, x1, some (.inl a)] st M ↔ uJ0_indexOf_7cf53 R 29 [x0, x1, some (.inl a)] (.inl a :: st) M := zU_step dJ0_indexOf_7cf53_28 (Or.inl rfl)
theorem dJ0_indexOf_7cf53_29 : decode cJ0_indexOf_7cf53 29 = .ok (.aload_n 0, 1) := by decide +kernel
theorem rJ0_indexOf_7cf53_29 {R : zP} {x1 x2 : Option zV} {st : List zV} {M : zM} {a : Nat} : uJ0_indexOf_7cf53 R 29 [some (.inr (.inr a)), x1, x2] st M ↔ uJ0_indexOf_7cf53 R 30 [some (.inr (.inr a)), x1, x2] (.inr (.inr a) :: st) M := zU_step dJ0_indexOf_7cf53_29 (Or.inl rfl)
theorem dJ0_indexOf_7cf53_30 : decode cJ0_indexOf_7cf53 30 = .ok (.invokevirtual 505, 3) := by decide +kernel
theorem rJ0_indexOf_7cf53_30 {R : zP} {x0 x1 x2 : Option zV} {st : List zV} {M : zM} {a0 : zV} : uJ0_indexOf_7cf53 R 30 [x0, x1, x2] (a0 :: st) M ↔ (st.length ≤ 4 ∧ zcv (zv 99 tJ0_length_8abf5) [a0] M (fun v M => uJ0_indexOf_7cf53 R 33 [x0, x1, x2] (v :: st) M)) := Iff.trans (zU_step dJ0_indexOf_7cf53_30 (Or.inl rfl)) ⟨fun h => ⟨h.2.1, zcv_of h.2.2⟩, fun h => ⟨rfl, h.1, zcv_to h.2⟩⟩
theorem dJ0_indexOf_7cf53_33 : decode cJ0_indexOf_7cf53 33 = .ok (.invokestatic 640, 3) := by decide +kernel
theorem dJ0_indexOf_7cf53_36 : decode cJ0_indexOf_7cf53 36 = .ok (.ireturn, 1) := by decide +kernel
theorem rJ0_indexOf_7cf53_36 {R : zP} {x0 x1 x2 : Option zV} {M : zM} {a : Int} : uJ0_indexOf_7cf53 R 36 [x0, x1, x2] [.inl a] M ↔ R (some (.inl a)) M := Iff.trans (zU_step dJ0_indexOf_7cf53_36 (Or.inl rfl)) ⟨fun h => h.2.2, fun h => ⟨rfl, Or.inl rfl, h⟩⟩
theorem eJ0_indexOf_7cf53 {R : zP} {M : zM} {a0 : Nat} {p0 : Int} {p1 : Int} : tJ0_indexOf_7cf53 [.inr (.inr a0), .inl p0, .inl p1] M R ↔ uJ0_indexOf_7cf53 R 0 [some (.inr (.inr a0)), some (.inl p0), some (.inl p1)] [] M := ⟨fun h => h.2, fun h => ⟨show 3 ≤ 3 by decide, h⟩⟩
def uJ0_indexOf_0f7a4 (R : zP) : zK := zU fJ0 vJ0_indexOf_0f7a4 cJ0_indexOf_0f7a4 R
theorem dJ0_indexOf_0f7a4_0 : decode cJ0_indexOf_0f7a4 0 = .ok (.aload_n 0, 1) := by decide +kernel
theorem rJ0_indexOf_0f7a4_0 {R : zP} {x1 : Option zV} {st : List zV} {M : zM} {a : Nat} : uJ0_indexOf_0f7a4 R 0 [some (.inr (.inr a)), x1] st M ↔ uJ0_indexOf_0f7a4 R 1 [some (.inr (.inr a)), x1] (.inr (.inr a) :: st) M := zU_step dJ0_indexOf_0f7a4_0 (Or.inl rfl)
theorem dJ0_indexOf_0f7a4_1 : decode cJ0_indexOf_0f7a4 1 = .ok (.iload_n 1, 1) := by decide +kernel
theorem rJ0_indexOf_0f7a4_1 {R : zP} {x0 : Option zV} {st : List zV} {M : zM} {a : Int} : uJ0_indexOf_0f7a4 R 1 [x0, some (.inl a)] st M ↔ uJ0_indexOf_0f7a4 R 2 [x0, some (.inl a)] (.inl a :: st) M := zU_step dJ0_indexOf_0f7a4_1 (Or.inl rfl)
theorem dJ0_indexOf_0f7a4_2 : decode cJ0_indexOf_0f7a4 2 = .ok (.iconst 0, 1) := by decide +kernel
theorem rJ0_indexOf_0f7a4_2 {R : zP} {x0 x1 : Option zV} {st : List zV} {M : zM} : uJ0_indexOf_0f7a4 R 2 [x0, x1] st M ↔ uJ0_indexOf_0f7a4 R 3 [x0, x1] (.inl (0) :: st) M := zU_step dJ0_indexOf_0f7a4_2 (Or.inl rfl)
theorem dJ0_indexOf_0f7a4_3 : decode cJ0_indexOf_0f7a4 3 = .ok (.invokevirtual 633, 3) := by decide +kernel
theorem rJ0_indexOf_0f7a4_3 {R : zP} {x0 x1 : Option zV} {st : List zV} {M : zM} {a0 a1 a2 : zV} : uJ0_indexOf_0f7a4 R 3 [x0, x1] (a2 :: a1 :: a0 :: st) M ↔ (st.length ≤ 4 ∧ zcv (zv 99 tJ0_indexOf_7cf53) [a0, a1, a2] M (fun v M => uJ0_indexOf_0f7a4 R 6 [x0, x1] (v :: st) M)) := Iff.trans (zU_step dJ0_indexOf_0f7a4_3 (Or.inl rfl)) ⟨fun h => ⟨h.2.1, zcv_of h.2.2⟩, fun h => ⟨rfl, h.1, zcv_to h.2⟩⟩
theorem dJ0_indexOf_0f7a4_6 : decode cJ0_indexOf_0f7a4 6 = .ok (.ireturn, 1) := by decide +kernel
theorem rJ0_indexOf_0f7a4_6 {R : zP} {x0 x1 : Option zV} {M : zM} {a : Int} : uJ0_indexOf_0f7a4 R 6 [x0, x1] [.inl a] M ↔ R (some (.inl a)) M := Iff.trans (zU_step dJ0_indexOf_0f7a4_6 (Or.inl rfl)) ⟨fun h => h.2.2, fun h => ⟨rfl, Or.inl rfl, h⟩⟩
theorem eJ0_indexOf_0f7a4 {R : zP} {M : zM} {a0 : Nat} {p0 : Int} : tJ0_indexOf_0f7a4 [.inr (.inr a0), .inl p0] M R ↔ uJ0_indexOf_0f7a4 R 0 [some (.inr (.inr a0)), some (.inl p0)] [] M := ⟨fun h => h.2, fun h => ⟨show 2 ≤ 2 by decide, h⟩⟩
def uX5_fits (R : zP) : zK := zU fX5 vX5_fits cX5_fits R
theorem dX5_fits_0 : decode cX5_fits 0 = .ok (.iload_n 1, 1) := by decide +kernel
theorem rX5_fits_0 {R : zP} {x0 x2 : Option zV} {st : List zV} {M : zM} {a : Int} : uX5_fits R 0 [x0, some (.inl a), x2] st M ↔ uX5_fits R 1 [x0, some (.inl a), x2] (.inl a :: st) M := zU_step dX5_fits_0 (Or.inl rfl)
theorem dX5_fits_1 : decode cX5_fits 1 = .ok (.ifCond .ne 21, 3) := by decide +kernel
theorem rX5_fits_1 {R : zP} {x0 x1 x2 : Option zV} {st : List zV} {M : zM} {a : Int} : uX5_fits R 1 [x0, x1, x2] (.inl a :: st) M ↔ (zIR a ∧ if a ≠ 0 then uX5_fits R 22 [x0, x1, x2] st M else uX5_fits R 4 [x0, x1, x2] st M) := Iff.trans (zU_step dX5_fits_1 (Or.inl rfl)) ⟨fun h => ⟨h.1.1, (zite (c := a ≠ 0)).mpr h.2⟩, fun h => ⟨⟨h.1, by decide⟩, (zite (c := a ≠ 0)).mp h.2⟩⟩
theorem dX5_fits_4 : decode cX5_fits 4 = .ok (.aload_n 0, 1) := by decide +kernel
theorem rX5_fits_4 {R : zP} {x1 x2 : Option zV} {st : List zV} {M : zM} {a : Nat} : uX5_fits R 4 [some (.inr (.inr a)), x1, x2] st M ↔ uX5_fits R 5 [some (.inr (.inr a)), x1, x2] (.inr (.inr a) :: st) M := zU_step dX5_fits_4 (Or.inl rfl)
theorem dX5_fits_5 : decode cX5_fits 5 = .ok (.getfield 28, 3) := by decide +kernel
theorem rX5_fits_5 {R : zP} {x0 x1 x2 : Option zV} {st : List zV} {M : zM} {r : Nat} : uX5_fits R 5 [x0, x1, x2] (.inr (.inr r) :: st) M ↔ zgetx fX5 28 r M (fun v => uX5_fits R 8 [x0, x1, x2] (v :: st) M) := zU_step dX5_fits_5 (Or.inl rfl)
theorem dX5_fits_8 : decode cX5_fits 8 = .ok (.iload_n 2, 1) := by decide +kernel
theorem rX5_fits_8 {R : zP} {x0 x1 : Option zV} {st : List zV} {M : zM} {a : Int} : uX5_fits R 8 [x0, x1, some (.inl a)] st M ↔ uX5_fits R 9 [x0, x1, some (.inl a)] (.inl a :: st) M := zU_step dX5_fits_8 (Or.inl rfl)
theorem dX5_fits_9 : decode cX5_fits 9 = .ok (.i2c, 1) := by decide +kernel
theorem rX5_fits_9 {R : zP} {x0 x1 x2 : Option zV} {st : List zV} {M : zM} {a : Int} : uX5_fits R 9 [x0, x1, x2] (.inl a :: st) M ↔ uX5_fits R 10 [x0, x1, x2] (.inl (zi2c a) :: st) M := zU_step dX5_fits_9 (Or.inl rfl)
theorem dX5_fits_10 : decode cX5_fits 10 = .ok (.invokevirtual 39, 3) := by decide +kernel
theorem rX5_fits_10 {R : zP} {x0 x1 x2 : Option zV} {st : List zV} {M : zM} {a0 a1 : zV} : uX5_fits R 10 [x0, x1, x2] (a1 :: a0 :: st) M ↔ (st.length ≤ 4 ∧ zcv (zv 99 tJ0_indexOf_0f7a4) [a0, a1] M (fun v M => uX5_fits R 13 [x0, x1, x2] (v :: st) M)) := Iff.trans (zU_step dX5_fits_10 (Or.inl rfl)) ⟨fun h => ⟨h.2.1, zcv_of h.2.2⟩, fun h => ⟨rfl, h.1, zcv_to h.2⟩⟩
theorem dX5_fits_13 : decode cX5_fits 13 = .ok (.ifCond .lt 7, 3) := by decide +kernel
theorem rX5_fits_13 {R : zP} {x0 x1 x2 : Option zV} {st : List zV} {M : zM} {a : Int} : uX5_fits R 13 [x0, x1, x2] (.inl a :: st) M ↔ (zIR a ∧ if a < 0 then uX5_fits R 20 [x0, x1, x2] st M else uX5_fits R 16 [x0, x1, x2] st M) := Iff.trans (zU_step dX5_fits_13 (Or.inl rfl)) ⟨fun h => ⟨h.1.1, (zite (c := a < 0)).mpr h.2⟩, fun h => ⟨⟨h.1, by decide⟩, (zite (c := a < 0)).mp h.2⟩⟩
theorem dX5_fits_16 : decode cX5_fits 16 = .ok (.iconst 1, 1) := by decide +kernel
theorem rX5_fits_16 {R : zP} {x0 x1 x2 : Option zV} {st : List zV} {M : zM} : uX5_fits R 16 [x0, x1, x2] st M ↔ uX5_fits R 17 [x0, x1, x2] (.inl (1) :: st) M := zU_step dX5_fits_16 (Or.inl rfl)
theorem dX5_fits_17 : decode cX5_fits 17 = .ok (.goto 4, 3) := by decide +kernel
theorem rX5_fits_17 {R : zP} {x0 x1 x2 : Option zV} {st : List zV} {M : zM} : uX5_fits R 17 [x0, x1, x2] st M ↔ uX5_fits R 21 [x0, x1, x2] st M := Iff.trans (zU_step dX5_fits_17 (Or.inl rfl)) ⟨fun h => h.2, fun h => ⟨by decide, h⟩⟩
theorem dX5_fits_20 : decode cX5_fits 20 = .ok (.iconst 0, 1) := by decide +kernel
theorem rX5_fits_20 {R : zP} {x0 x1 x2 : Option zV} {st : List zV} {M : zM} : uX5_fits R 20 [x0, x1, x2] st M ↔ uX5_fits R 21 [x0, x1, x2] (.inl (0) :: st) M := zU_step dX5_fits_20 (Or.inl rfl)
theorem dX5_fits_21 : decode cX5_fits 21 = .ok (.ireturn, 1) := by decide +kernel
theorem rX5_fits_21 {R : zP} {x0 x1 x2 : Option zV} {M : zM} {a : Int} : uX5_fits R 21 [x0, x1, x2] [.inl a] M ↔ ((a = 0 ∨ a = 1) ∧ R (some (.inl a)) M) := Iff.trans (zU_step dX5_fits_21 (Or.inl rfl)) ⟨fun h => ⟨zret2 rfl h.2.1, h.2.2⟩, fun h => ⟨rfl, Or.inr (Or.inl ⟨rfl, h.1⟩), h.2⟩⟩
theorem dX5_fits_22 : decode cX5_fits 22 = .ok (.iload_n 1, 1) := by decide +kernel
theorem rX5_fits_22 {R : zP} {x0 x2 : Option zV} {st : List zV} {M : zM} {a : Int} : uX5_fits R 22 [x0, some (.inl a), x2] st M ↔ uX5_fits R 23 [x0, some (.inl a), x2] (.inl a :: st) M := zU_step dX5_fits_22 (Or.inl rfl)
theorem dX5_fits_23 : decode cX5_fits 23 = .ok (.iconst 5, 1) := by decide +kernel
theorem rX5_fits_23 {R : zP} {x0 x1 x2 : Option zV} {st : List zV} {M : zM} : uX5_fits R 23 [x0, x1, x2] st M ↔ uX5_fits R 24 [x0, x1, x2] (.inl (5) :: st) M := zU_step dX5_fits_23 (Or.inl rfl)
theorem dX5_fits_24 : decode cX5_fits 24 = .ok (.if_icmp .ge 23, 3) := by decide +kernel
theorem rX5_fits_24 {R : zP} {x0 x1 x2 : Option zV} {st : List zV} {M : zM} {a b : Int} : uX5_fits R 24 [x0, x1, x2] (.inl b :: .inl a :: st) M ↔ ((zIR a ∧ zIR b) ∧ if b ≤ a then uX5_fits R 47 [x0, x1, x2] st M else uX5_fits R 27 [x0, x1, x2] st M) := Iff.trans (zU_step dX5_fits_24 (Or.inl rfl)) ⟨fun h => ⟨⟨h.1.1, h.1.2.1⟩, (zite (c := b ≤ a)).mpr h.2⟩, fun h => ⟨⟨h.1.1, h.1.2, by decide⟩, (zite (c := b ≤ a)).mp h.2⟩⟩
theorem dX5_fits_27 : decode cX5_fits 27 = .ok (.iload_n 2, 1) := by decide +kernel
theorem rX5_fits_27 {R : zP} {x0 x1 : Option zV} {st : List zV} {M : zM} {a : Int} : uX5_fits R 27 [x0, x1, some (.inl a)] st M ↔ uX5_fits R 28 [x0, x1, some (.inl a)] (.inl a :: st) M := zU_step dX5_fits_27 (Or.inl rfl)
theorem dX5_fits_28 : decode cX5_fits 28 = .ok (.bipush 48, 2) := by decide +kernel
theorem rX5_fits_28 {R : zP} {x0 x1 x2 : Option zV} {st : List zV} {M : zM} : uX5_fits R 28 [x0, x1, x2] st M ↔ uX5_fits R 30 [x0, x1, x2] (.inl (48) :: st) M := Iff.trans (zU_step dX5_fits_28 (Or.inl rfl)) ⟨fun h => h.2, fun h => ⟨by decide, h⟩⟩
theorem dX5_fits_30 : decode cX5_fits 30 = .ok (.if_icmp .lt 13, 3) := by decide +kernel
theorem rX5_fits_30 {R : zP} {x0 x1 x2 : Option zV} {st : List zV} {M : zM} {a b : Int} : uX5_fits R 30 [x0, x1, x2] (.inl b :: .inl a :: st) M ↔ ((zIR a ∧ zIR b) ∧ if a < b then uX5_fits R 43 [x0, x1, x2] st M else uX5_fits R 33 [x0, x1, x2] st M) := Iff.trans (zU_step dX5_fits_30 (Or.inl rfl)) ⟨fun h => ⟨⟨h.1.1, h.1.2.1⟩, (zite (c := a < b)).mpr h.2⟩, fun h => ⟨⟨h.1.1, h.1.2, by decide⟩, (zite (c := a < b)).mp h.2⟩⟩
theorem dX5_fits_33 : decode cX5_fits 33 = .ok (.iload_n 2, 1) := by decide +kernel
theorem rX5_fits_33 {R : zP} {x0 x1 : Option zV} {st : List zV} {M : zM} {a : Int} : uX5_fits R 33 [x0, x1, some (.inl a)] st M ↔ uX5_fits R 34 [x0, x1, some (.inl a)] (.inl a :: st) M := zU_step dX5_fits_33 (Or.inl rfl)
theorem dX5_fits_34 : decode cX5_fits 34 = .ok (.bipush 57, 2) := by decide +kernel
theorem rX5_fits_34 {R : zP} {x0 x1 x2 : Option zV} {st : List zV} {M : zM} : uX5_fits R 34 [x0, x1, x2] st M ↔ uX5_fits R 36 [x0, x1, x2] (.inl (57) :: st) M := Iff.trans (zU_step dX5_fits_34 (Or.inl rfl)) ⟨fun h => h.2, fun h => ⟨by decide, h⟩⟩
theorem dX5_fits_36 : decode cX5_fits 36 = .ok (.if_icmp .gt 7, 3) := by decide +kernel
theorem rX5_fits_36 {R : zP} {x0 x1 x2 : Option zV} {st : List zV} {M : zM} {a b : Int} : uX5_fits R 36 [x0, x1, x2] (.inl b :: .inl a :: st) M ↔ ((zIR a ∧ zIR b) ∧ if b < a then uX5_fits R 43 [x0, x1, x2] st M else uX5_fits R 39 [x0, x1, x2] st M) := Iff.trans (zU_step dX5_fits_36 (Or.inl rfl)) ⟨fun h => ⟨⟨h.1.1, h.1.2.1⟩, (zite (c := b < a)).mpr h.2⟩, fun h => ⟨⟨h.1.1, h.1.2, by decide⟩, (zite (c := b < a)).mp h.2⟩⟩
theorem dX5_fits_39 : decode cX5_fits 39 = .ok (.iconst 1, 1) := by decide +kernel
theorem rX5_fits_39 {R : zP} {x0 x1 x2 : Option zV} {st : List zV} {M : zM} : uX5_fits R 39 [x0, x1, x2] st M ↔ uX5_fits R 40 [x0, x1, x2] (.inl (1) :: st) M := zU_step dX5_fits_39 (Or.inl rfl)
theorem dX5_fits_40 : decode cX5_fits 40 = .ok (.goto 18, 3) := by decide +kernel
theorem rX5_fits_40 {R : zP} {x0 x1 x2 : Option zV} {st : List zV} {M : zM} : uX5_fits R 40 [x0, x1, x2] st M ↔ uX5_fits R 58 [x0, x1, x2] st M := Iff.trans (zU_step dX5_fits_40 (Or.inl rfl)) ⟨fun h => h.2, fun h => ⟨by decide, h⟩⟩
theorem dX5_fits_43 : decode cX5_fits 43 = .ok (.iconst 0, 1) := by decide +kernel
theorem rX5_fits_43 {R : zP} {x0 x1 x2 : Option zV} {st : List zV} {M : zM} : uX5_fits R 43 [x0, x1, x2] st M ↔ uX5_fits R 44 [x0, x1, x2] (.inl (0) :: st) M := zU_step dX5_fits_43 (Or.inl rfl)
theorem dX5_fits_44 : decode cX5_fits 44 = .ok (.goto 14, 3) := by decide +kernel
theorem rX5_fits_44 {R : zP} {x0 x1 x2 : Option zV} {st : List zV} {M : zM} : uX5_fits R 44 [x0, x1, x2] st M ↔ uX5_fits R 58 [x0, x1, x2] st M := Iff.trans (zU_step dX5_fits_44 (Or.inl rfl)) ⟨fun h => h.2, fun h => ⟨by decide, h⟩⟩
theorem dX5_fits_47 : decode cX5_fits 47 = .ok (.iload_n 2, 1) := by decide +kernel
theorem rX5_fits_47 {R : zP} {x0 x1 : Option zV} {st : List zV} {M : zM} {a : Int} : uX5_fits R 47 [x0, x1, some (.inl a)] st M ↔ uX5_fits R 48 [x0, x1, some (.inl a)] (.inl a :: st) M := zU_step dX5_fits_47 (Or.inl rfl)
theorem dX5_fits_48 : decode cX5_fits 48 = .ok (.bipush 59, 2) := by decide +kernel
theorem rX5_fits_48 {R : zP} {x0 x1 x2 : Option zV} {st : List zV} {M : zM} : uX5_fits R 48 [x0, x1, x2] st M ↔ uX5_fits R 50 [x0, x1, x2] (.inl (59) :: st) M := Iff.trans (zU_step dX5_fits_48 (Or.inl rfl)) ⟨fun h => h.2, fun h => ⟨by decide, h⟩⟩
theorem dX5_fits_50 : decode cX5_fits 50 = .ok (.if_icmp .ne 7, 3) := by decide +kernel
theorem rX5_fits_50 {R : zP} {x0 x1 x2 : Option zV} {st : List zV} {M : zM} {a b : Int} : uX5_fits R 50 [x0, x1, x2] (.inl b :: .inl a :: st) M ↔ ((zIR a ∧ zIR b) ∧ if a ≠ b then uX5_fits R 57 [x0, x1, x2] st M else uX5_fits R 53 [x0, x1, x2] st M) := Iff.trans (zU_step dX5_fits_50 (Or.inl rfl)) ⟨fun h => ⟨⟨h.1.1, h.1.2.1⟩, (zite (c := a ≠ b)).mpr h.2⟩, fun h => ⟨⟨h.1.1, h.1.2, by decide⟩, (zite (c := a ≠ b)).mp h.2⟩⟩
theorem dX5_fits_53 : decode cX5_fits 53 = .ok (.iconst 1, 1) := by decide +kernel
theorem rX5_fits_53 {R : zP} {x0 x1 x2 : Option zV} {st : List zV} {M : zM} : uX5_fits R 53 [x0, x1, x2] st M ↔ uX5_fits R 54 [x0, x1, x2] (.inl (1) :: st) M := zU_step dX5_fits_53 (Or.inl rfl)
theorem dX5_fits_54 : decode cX5_fits 54 = .ok (.goto 4, 3) := by decide +kernel
theorem rX5_fits_54 {R : zP} {x0 x1 x2 : Option zV} {st : List zV} {M : zM} : uX5_fits R 54 [x0, x1, x2] st M ↔ uX5_fits R 58 [x0, x1, x2] st M := Iff.trans (zU_step dX5_fits_54 (Or.inl rfl)) ⟨fun h => h.2, fun h => ⟨by decide, h⟩⟩
theorem dX5_fits_57 : decode cX5_fits 57 = .ok (.iconst 0, 1) := by decide +kernel
theorem rX5_fits_57 {R : zP} {x0 x1 x2 : Option zV} {st : List zV} {M : zM} : uX5_fits R 57 [x0, x1, x2] st M ↔ uX5_fits R 58 [x0, x1, x2] (.inl (0) :: st) M := zU_step dX5_fits_57 (Or.inl rfl)
theorem dX5_fits_58 : decode cX5_fits 58 = .ok (.ireturn, 1) := by decide +kernel
theorem rX5_fits_58 {R : zP} {x0 x1 x2 : Option zV} {M : zM} {a : Int} : uX5_fits R 58 [x0, x1, x2] [.inl a] M ↔ ((a = 0 ∨ a = 1) ∧ R (some (.inl a)) M) := Iff.trans (zU_step dX5_fits_58 (Or.inl rfl)) ⟨fun h => ⟨zret2 rfl h.2.1, h.2.2⟩, fun h => ⟨rfl, Or.inr (Or.inl ⟨rfl, h.1⟩), h.2⟩⟩
theorem eX5_fits {R : zP} {M : zM} {a0 : Nat} {p0 : Int} {p1 : Int} : tX5_fits [.inr (.inr a0), .inl p0, .inl p1] M R ↔ uX5_fits R 0 [some (.inr (.inr a0)), some (.inl p0), some (.inl p1)] [] M := ⟨fun h => h.2, fun h => ⟨show 3 ≤ 3 by decide, h⟩⟩
def uX5_findFlaw (R : zP) : zK := zU fX5 vX5_findFlaw cX5_findFlaw R
theorem dX5_findFlaw_0 : decode cX5_findFlaw 0 = .ok (.iconst 0, 1) := by decide +kernel
theorem rX5_findFlaw_0 {R : zP} {x0 x1 : Option zV} {st : List zV} {M : zM} : uX5_findFlaw R 0 [x0, x1] st M ↔ uX5_findFlaw R 1 [x0, x1] (.inl (0) :: st) M := zU_step dX5_findFlaw_0 (Or.inl rfl)
theorem dX5_findFlaw_1 : decode cX5_findFlaw 1 = .ok (.istore_n 1, 1) := by decide +kernel
theorem rX5_findFlaw_1 {R : zP} {x1 : Option zV} {st : List zV} {M : zM} {a : Int} {y : Nat} : uX5_findFlaw R 1 [some (.inr (.inr y)), x1] (.inl a :: st) M ↔ uX5_findFlaw R 2 [some (.inr (.inr y)), some (.inl a)] st M := Iff.trans (zU_step dX5_findFlaw_1 (Or.inl rfl)) ⟨fun h => h.2, fun h => ⟨show 1 < 2 by decide, h⟩⟩
theorem rX5_findFlaw_1z {R : zP} {x0 x1 : Option zV} {st : List zV} {M : zM} {a : Int} : uX5_findFlaw R 1 [x0, x1] (.inl a :: st) M ↔ uX5_findFlaw R 2 [zkeep x0, some (.inl a)] st M := Iff.trans (zU_step dX5_findFlaw_1 (Or.inl rfl)) ⟨fun h => h.2, fun h => ⟨show 1 < 2 by decide, h⟩⟩
theorem dX5_findFlaw_2 : decode cX5_findFlaw 2 = .ok (.iload_n 1, 1) := by decide +kernel
theorem rX5_findFlaw_2 {R : zP} {x0 : Option zV} {st : List zV} {M : zM} {a : Int} : uX5_findFlaw R 2 [x0, some (.inl a)] st M ↔ uX5_findFlaw R 3 [x0, some (.inl a)] (.inl a :: st) M := zU_step dX5_findFlaw_2 (Or.inl rfl)
theorem dX5_findFlaw_3 : decode cX5_findFlaw 3 = .ok (.aload_n 0, 1) := by decide +kernel
theorem rX5_findFlaw_3 {R : zP} {x1 : Option zV} {st : List zV} {M : zM} {a : Nat} : uX5_findFlaw R 3 [some (.inr (.inr a)), x1] st M ↔ uX5_findFlaw R 4 [some (.inr (.inr a)), x1] (.inr (.inr a) :: st) M := zU_step dX5_findFlaw_3 (Or.inl rfl)
theorem dX5_findFlaw_4 : decode cX5_findFlaw 4 = .ok (.getfield 18, 3) := by decide +kernel
theorem rX5_findFlaw_4 {R : zP} {x0 x1 : Option zV} {st : List zV} {M : zM} {r : Nat} : uX5_findFlaw R 4 [x0, x1] (.inr (.inr r) :: st) M ↔ zgetx fX5 18 r M (fun v => uX5_findFlaw R 7 [x0, x1] (v :: st) M) := zU_step dX5_findFlaw_4 (Or.inl rfl)
theorem dX5_findFlaw_7 : decode cX5_findFlaw 7 = .ok (.if_icmp .ge 28, 3) := by decide +kernel
theorem rX5_findFlaw_7 {R : zP} {x0 x1 : Option zV} {st : List zV} {M : zM} {a b : Int} : uX5_findFlaw R 7 [x0, x1] (.inl b :: .inl a :: st) M ↔ ((zIR a ∧ zIR b) ∧ if b ≤ a then uX5_findFlaw R 35 [x0, x1] st M else uX5_findFlaw R 10 [x0, x1] st M) := Iff.trans (zU_step dX5_findFlaw_7 (Or.inl rfl)) ⟨fun h => ⟨⟨h.1.1, h.1.2.1⟩, (zite (c := b ≤ a)).mpr h.2⟩, fun h => ⟨⟨h.1.1, h.1.2, by decide⟩, (zite (c := b ≤ a)).mp h.2⟩⟩
theorem dX5_findFlaw_10 : decode cX5_findFlaw 10 = .ok (.aload_n 0, 1) := by decide +kernel
theorem rX5_findFlaw_10 {R : zP} {x1 : Option zV} {st : List zV} {M : zM} {a : Nat} : uX5_findFlaw R 10 [some (.inr (.inr a)), x1] st M ↔ uX5_findFlaw R 11 [some (.inr (.inr a)), x1] (.inr (.inr a) :: st) M := zU_step dX5_findFlaw_10 (Or.inl rfl)
theorem dX5_findFlaw_11 : decode cX5_findFlaw 11 = .ok (.iload_n 1, 1) := by decide +kernel
theorem rX5_findFlaw_11 {R : zP} {x0 : Option zV} {st : List zV} {M : zM} {a : Int} : uX5_findFlaw R 11 [x0, some (.inl a)] st M ↔ uX5_findFlaw R 12 [x0, some (.inl a)] (.inl a :: st) M := zU_step dX5_findFlaw_11 (Or.inl rfl)
theorem dX5_findFlaw_12 : decode cX5_findFlaw 12 = .ok (.bipush 6, 2) := by decide +kernel
theorem rX5_findFlaw_12 {R : zP} {x0 x1 : Option zV} {st : List zV} {M : zM} : uX5_findFlaw R 12 [x0, x1] st M ↔ uX5_findFlaw R 14 [x0, x1] (.inl (6) :: st) M := Iff.trans (zU_step dX5_findFlaw_12 (Or.inl rfl)) ⟨fun h => h.2, fun h => ⟨by decide, h⟩⟩
theorem dX5_findFlaw_14 : decode cX5_findFlaw 14 = .ok (.irem, 1) := by decide +kernel
theorem rX5_findFlaw_14 {R : zP} {x0 x1 : Option zV} {st : List zV} {M : zM} {a b : Int} : uX5_findFlaw R 14 [x0, x1] (.inl b :: .inl a :: st) M ↔ ((zIR a ∧ zIR b ∧ b ≠ 0) ∧ uX5_findFlaw R 15 [x0, x1] (.inl (a.tmod b) :: st) M) := zU_step dX5_findFlaw_14 (Or.inl rfl)
theorem dX5_findFlaw_15 : decode cX5_findFlaw 15 = .ok (.aload_n 0, 1) := by decide +kernel
theorem rX5_findFlaw_15 {R : zP} {x1 : Option zV} {st : List zV} {M : zM} {a : Nat} : uX5_findFlaw R 15 [some (.inr (.inr a)), x1] st M ↔ uX5_findFlaw R 16 [some (.inr (.inr a)), x1] (.inr (.inr a) :: st) M := zU_step dX5_findFlaw_15 (Or.inl rfl)
theorem dX5_findFlaw_16 : decode cX5_findFlaw 16 = .ok (.getfield 9, 3) := by decide +kernel
theorem rX5_findFlaw_16 {R : zP} {x0 x1 : Option zV} {st : List zV} {M : zM} {r : Nat} : uX5_findFlaw R 16 [x0, x1] (.inr (.inr r) :: st) M ↔ zgetx fX5 9 r M (fun v => uX5_findFlaw R 19 [x0, x1] (v :: st) M) := zU_step dX5_findFlaw_16 (Or.inl rfl)
theorem dX5_findFlaw_19 : decode cX5_findFlaw 19 = .ok (.iload_n 1, 1) := by decide +kernel
theorem rX5_findFlaw_19 {R : zP} {x0 : Option zV} {st : List zV} {M : zM} {a : Int} : uX5_findFlaw R 19 [x0, some (.inl a)] st M ↔ uX5_findFlaw R 20 [x0, some (.inl a)] (.inl a :: st) M := zU_step dX5_findFlaw_19 (Or.inl rfl)
theorem dX5_findFlaw_20 : decode cX5_findFlaw 20 = .ok (.iaload, 1) := by decide +kernel
theorem rX5_findFlaw_20 {R : zP} {x0 x1 : Option zV} {st : List zV} {M : zM} {i : Int} {r : Nat} : uX5_findFlaw R 20 [x0, x1] (.inl i :: .inr (.inr r) :: st) M ↔ zread fX5 0 r M i (fun v => uX5_findFlaw R 21 [x0, x1] (.inl v :: st) M) := zU_step dX5_findFlaw_20 (Or.inl rfl)
theorem dX5_findFlaw_21 : decode cX5_findFlaw 21 = .ok (.invokevirtual 45, 3) := by decide +kernel
theorem rX5_findFlaw_21 {R : zP} {x0 x1 : Option zV} {st : List zV} {M : zM} {a0 a1 a2 : zV} : uX5_findFlaw R 21 [x0, x1] (a2 :: a1 :: a0 :: st) M ↔ (st.length ≤ 4 ∧ zcv (zv 5 tX5_fits) [a0, a1, a2] M (fun v M => uX5_findFlaw R 24 [x0, x1] (v :: st) M)) := Iff.trans (zU_step dX5_findFlaw_21 (Or.inl rfl)) ⟨fun h => ⟨h.2.1, zcv_of h.2.2⟩, fun h => ⟨rfl, h.1, zcv_to h.2⟩⟩
theorem dX5_findFlaw_24 : decode cX5_findFlaw 24 = .ok (.ifCond .ne 5, 3) := by decide +kernel
theorem rX5_findFlaw_24 {R : zP} {x0 x1 : Option zV} {st : List zV} {M : zM} {a : Int} : uX5_findFlaw R 24 [x0, x1] (.inl a :: st) M ↔ (zIR a ∧ if a ≠ 0 then uX5_findFlaw R 29 [x0, x1] st M else uX5_findFlaw R 27 [x0, x1] st M) := Iff.trans (zU_step dX5_findFlaw_24 (Or.inl rfl)) ⟨fun h => ⟨h.1.1, (zite (c := a ≠ 0)).mpr h.2⟩, fun h => ⟨⟨h.1, by decide⟩, (zite (c := a ≠ 0)).mp h.2⟩⟩
theorem dX5_findFlaw_27 : decode cX5_findFlaw 27 = .ok (.iload_n 1, 1) := by decide +kernel
theorem rX5_findFlaw_27 {R : zP} {x0 : Option zV} {st : List zV} {M : zM} {a : Int} : uX5_findFlaw R 27 [x0, some (.inl a)] st M ↔ uX5_findFlaw R 28 [x0, some (.inl a)] (.inl a :: st) M := zU_step dX5_findFlaw_27 (Or.inl rfl)
theorem dX5_findFlaw_28 : decode cX5_findFlaw 28 = .ok (.ireturn, 1) := by decide +kernel
theorem rX5_findFlaw_28 {R : zP} {x0 x1 : Option zV} {M : zM} {a : Int} : uX5_findFlaw R 28 [x0, x1] [.inl a] M ↔ R (some (.inl a)) M := Iff.trans (zU_step dX5_findFlaw_28 (Or.inl rfl)) ⟨fun h => h.2.2, fun h => ⟨rfl, Or.inl rfl, h⟩⟩
theorem dX5_findFlaw_29 : decode cX5_findFlaw 29 = .ok (.iinc 1 1, 3) := by decide +kernel
theorem rX5_findFlaw_29 {R : zP} {st : List zV} {M : zM} {a : Int} {y : Nat} : uX5_findFlaw R 29 [some (.inr (.inr y)), some (.inl a)] st M ↔ uX5_findFlaw R 32 [some (.inr (.inr y)), some (.inl (a + (1)))] st M := Iff.trans (zU_step dX5_findFlaw_29 (Or.inl rfl)) ⟨fun h => h.2, fun h => ⟨show 1 < 2 by decide, h⟩⟩
theorem rX5_findFlaw_29z {R : zP} {x0 : Option zV} {st : List zV} {M : zM} {a : Int} : uX5_findFlaw R 29 [x0, some (.inl a)] st M ↔ uX5_findFlaw R 32 [zkeep x0, some (.inl (a + (1)))] st M := Iff.trans (zU_step dX5_findFlaw_29 (Or.inl rfl)) ⟨fun h => h.2, fun h => ⟨show 1 < 2 by decide, h⟩⟩
theorem dX5_findFlaw_32 : decode cX5_findFlaw 32 = .ok (.goto (-30), 3) := by decide +kernel
theorem rX5_findFlaw_32 {R : zP} {x0 x1 : Option zV} {st : List zV} {M : zM} : uX5_findFlaw R 32 [x0, x1] st M ↔ uX5_findFlaw R 2 [x0, x1] st M := Iff.trans (zU_step dX5_findFlaw_32 (Or.inl rfl)) ⟨fun h => h.2, fun h => ⟨by decide, h⟩⟩
theorem dX5_findFlaw_35 : decode cX5_findFlaw 35 = .ok (.aload_n 0, 1) := by decide +kernel
theorem rX5_findFlaw_35 {R : zP} {x1 : Option zV} {st : List zV} {M : zM} {a : Nat} : uX5_findFlaw R 35 [some (.inr (.inr a)), x1] st M ↔ uX5_findFlaw R 36 [some (.inr (.inr a)), x1] (.inr (.inr a) :: st) M := zU_step dX5_findFlaw_35 (Or.inl rfl)
theorem dX5_findFlaw_36 : decode cX5_findFlaw 36 = .ok (.getfield 18, 3) := by decide +kernel
theorem rX5_findFlaw_36 {R : zP} {x0 x1 : Option zV} {st : List zV} {M : zM} {r : Nat} : uX5_findFlaw R 36 [x0, x1] (.inr (.inr r) :: st) M ↔ zgetx fX5 18 r M (fun v => uX5_findFlaw R 39 [x0, x1] (v :: st) M) := zU_step dX5_findFlaw_36 (Or.inl rfl)
theorem dX5_findFlaw_39 : decode cX5_findFlaw 39 = .ok (.ifCond .eq 14, 3) := by decide +kernel
theorem rX5_findFlaw_39 {R : zP} {x0 x1 : Option zV} {st : List zV} {M : zM} {a : Int} : uX5_findFlaw R 39 [x0, x1] (.inl a :: st) M ↔ (zIR a ∧ if a = 0 then uX5_findFlaw R 53 [x0, x1] st M else uX5_findFlaw R 42 [x0, x1] st M) := Iff.trans (zU_step dX5_findFlaw_39 (Or.inl rfl)) ⟨fun h => ⟨h.1.1, (zite (c := a = 0)).mpr h.2⟩, fun h => ⟨⟨h.1, by decide⟩, (zite (c := a = 0)).mp h.2⟩⟩
theorem dX5_findFlaw_42 : decode cX5_findFlaw 42 = .ok (.aload_n 0, 1) := by decide +kernel
theorem rX5_findFlaw_42 {R : zP} {x1 : Option zV} {st : List zV} {M : zM} {a : Nat} : uX5_findFlaw R 42 [some (.inr (.inr a)), x1] st M ↔ uX5_findFlaw R 43 [some (.inr (.inr a)), x1] (.inr (.inr a) :: st) M := zU_step dX5_findFlaw_42 (Or.inl rfl)
theorem dX5_findFlaw_43 : decode cX5_findFlaw 43 = .ok (.getfield 18, 3) := by decide +kernel
theorem rX5_findFlaw_43 {R : zP} {x0 x1 : Option zV} {st : List zV} {M : zM} {r : Nat} : uX5_findFlaw R 43 [x0, x1] (.inr (.inr r) :: st) M ↔ zgetx fX5 18 r M (fun v => uX5_findFlaw R 46 [x0, x1] (v :: st) M) := zU_step dX5_findFlaw_43 (Or.inl rfl)
theorem dX5_findFlaw_46 : decode cX5_findFlaw 46 = .ok (.bipush 6, 2) := by decide +kernel
theorem rX5_findFlaw_46 {R : zP} {x0 x1 : Option zV} {st : List zV} {M : zM} : uX5_findFlaw R 46 [x0, x1] st M ↔ uX5_findFlaw R 48 [x0, x1] (.inl (6) :: st) M := Iff.trans (zU_step dX5_findFlaw_46 (Or.inl rfl)) ⟨fun h => h.2, fun h => ⟨by decide, h⟩⟩
theorem dX5_findFlaw_48 : decode cX5_findFlaw 48 = .ok (.irem, 1) := by decide +kernel
theorem rX5_findFlaw_48 {R : zP} {x0 x1 : Option zV} {st : List zV} {M : zM} {a b : Int} : uX5_findFlaw R 48 [x0, x1] (.inl b :: .inl a :: st) M ↔ ((zIR a ∧ zIR b ∧ b ≠ 0) ∧ uX5_findFlaw R 49 [x0, x1] (.inl (a.tmod b) :: st) M) := zU_step dX5_findFlaw_48 (Or.inl rfl)
theorem dX5_findFlaw_49 : decode cX5_findFlaw 49 = .ok (.iconst 5, 1) := by decide +kernel
theorem rX5_findFlaw_49 {R : zP} {x0 x1 : Option zV} {st : List zV} {M : zM} : uX5_findFlaw R 49 [x0, x1] st M ↔ uX5_findFlaw R 50 [x0, x1] (.inl (5) :: st) M := zU_step dX5_findFlaw_49 (Or.inl rfl)
theorem dX5_findFlaw_50 : decode cX5_findFlaw 50 = .ok (.if_icmp .ne 7, 3) := by decide +kernel
theorem rX5_findFlaw_50 {R : zP} {x0 x1 : Option zV} {st : List zV} {M : zM} {a b : Int} : uX5_findFlaw R 50 [x0, x1] (.inl b :: .inl a :: st) M ↔ ((zIR a ∧ zIR b) ∧ if a ≠ b then uX5_findFlaw R 57 [x0, x1] st M else uX5_findFlaw R 53 [x0, x1] st M) := Iff.trans (zU_step dX5_findFlaw_50 (Or.inl rfl)) ⟨fun h => ⟨⟨h.1.1, h.1.2.1⟩, (zite (c := a ≠ b)).mpr h.2⟩, fun h => ⟨⟨h.1.1, h.1.2, by decide⟩, (zite (c := a ≠ b)).mp h.2⟩⟩
theorem dX5_findFlaw_53 : decode cX5_findFlaw 53 = .ok (.iconst (-1), 1) := by decide +kernel
theorem rX5_findFlaw_53 {R : zP} {x0 x1 : Option zV} {st : List zV} {M : zM} : uX5_findFlaw R 53 [x0, x1] st M ↔ uX5_findFlaw R 54 [x0, x1] (.inl (-1) :: st) M := zU_step dX5_findFlaw_53 (Or.inl rfl)
theorem dX5_findFlaw_54 : decode cX5_findFlaw 54 = .ok (.goto 7, 3) := by decide +kernel
theorem rX5_findFlaw_54 {R : zP} {x0 x1 : Option zV} {st : List zV} {M : zM} : uX5_findFlaw R 54 [x0, x1] st M ↔ uX5_findFlaw R 61 [x0, x1] st M := Iff.trans (zU_step dX5_findFlaw_54 (Or.inl rfl)) ⟨fun h => h.2, fun h => ⟨by decide, h⟩⟩
theorem dX5_findFlaw_57 : decode cX5_findFlaw 57 = .ok (.aload_n 0, 1) := by decide +kernel
theorem rX5_findFlaw_57 {R : zP} {x1 : Option zV} {st : List zV} {M : zM} {a : Nat} : uX5_findFlaw R 57 [some (.inr (.inr a)), x1] st M ↔ uX5_findFlaw R 58 [some (.inr (.inr a)), x1] (.inr (.inr a) :: st) M := zU_step dX5_findFlaw_57 (Or.inl rfl)
theorem dX5_findFlaw_58 : decode cX5_findFlaw 58 = .ok (.getfield 18, 3) := by decide +kernel
theorem rX5_findFlaw_58 {R : zP} {x0 x1 : Option zV} {st : List zV} {M : zM} {r : Nat} : uX5_findFlaw R 58 [x0, x1] (.inr (.inr r) :: st) M ↔ zgetx fX5 18 r M (fun v => uX5_findFlaw R 61 [x0, x1] (v :: st) M) := zU_step dX5_findFlaw_58 (Or.inl rfl)
theorem dX5_findFlaw_61 : decode cX5_findFlaw 61 = .ok (.ireturn, 1) := by decide +kernel
theorem rX5_findFlaw_61 {R : zP} {x0 x1 : Option zV} {M : zM} {a : Int} : uX5_findFlaw R 61 [x0, x1] [.inl a] M ↔ R (some (.inl a)) M := Iff.trans (zU_step dX5_findFlaw_61 (Or.inl rfl)) ⟨fun h => h.2.2, fun h => ⟨rfl, Or.inl rfl, h⟩⟩
theorem eX5_findFlaw {R : zP} {M : zM} {a0 : Nat} : tX5_findFlaw [.inr (.inr a0)] M R ↔ uX5_findFlaw R 0 [some (.inr (.inr a0)), none] [] M := ⟨fun h => h.2, fun h => ⟨show 1 ≤ 2 by decide, h⟩⟩
def uX5_look (R : zP) : zK := zU fX5 vX5_look cX5_look R
theorem dX5_look_0 : decode cX5_look 0 = .ok (.aload_n 0, 1) := by decide +kernel
theorem rX5_look_0 {R : zP} {x1 x2 : Option zV} {st : List zV} {M : zM} {a : Nat} : uX5_look R 0 [some (.inr (.inr a)), x1, x2] st M ↔ uX5_look R 1 [some (.inr (.inr a)), x1, x2] (.inr (.inr a) :: st) M := zU_step dX5_look_0 (Or.inl rfl)
theorem dX5_look_1 : decode cX5_look 1 = .ok (.aload_n 0, 1) := by decide +kernel
theorem rX5_look_1 {R : zP} {x1 x2 : Option zV} {st : List zV} {M : zM} {a : Nat} : uX5_look R 1 [some (.inr (.inr a)), x1, x2] st M ↔ uX5_look R 2 [some (.inr (.inr a)), x1, x2] (.inr (.inr a) :: st) M := zU_step dX5_look_1 (Or.inl rfl)
theorem dX5_look_2 : decode cX5_look 2 = .ok (.invokevirtual 35, 3) := by decide +kernel
theorem rX5_look_2 {R : zP} {x0 x1 x2 : Option zV} {st : List zV} {M : zM} {a0 : zV} : uX5_look R 2 [x0, x1, x2] (a0 :: st) M ↔ (st.length ≤ 4 ∧ zcv (zv 5 tX5_findFlaw) [a0] M (fun v M => uX5_look R 5 [x0, x1, x2] (v :: st) M)) := Iff.trans (zU_step dX5_look_2 (Or.inl rfl)) ⟨fun h => ⟨h.2.1, zcv_of h.2.2⟩, fun h => ⟨rfl, h.1, zcv_to h.2⟩⟩
theorem dX5_look_5 : decode cX5_look 5 = .ok (.putfield 22, 3) := by decide +kernel
theorem rX5_look_5 {R : zP} {x0 x1 x2 : Option zV} {st : List zV} {M : zM} {r : Nat} {v : zV} : uX5_look R 5 [x0, x1, x2] (v :: .inr (.inr r) :: st) M ↔ zputx fX5 22 r M v (fun M => uX5_look R 8 [x0, x1, x2] st M) := zU_step dX5_look_5 (Or.inl rfl)
theorem dX5_look_8 : decode cX5_look 8 = .ok (.aload_n 0, 1) := by decide +kernel
theorem rX5_look_8 {R : zP} {x1 x2 : Option zV} {st : List zV} {M : zM} {a : Nat} : uX5_look R 8 [some (.inr (.inr a)), x1, x2] st M ↔ uX5_look R 9 [some (.inr (.inr a)), x1, x2] (.inr (.inr a) :: st) M := zU_step dX5_look_8 (Or.inl rfl)
theorem dX5_look_9 : decode cX5_look 9 = .ok (.aload_n 0, 1) := by decide +kernel
theorem rX5_look_9 {R : zP} {x1 x2 : Option zV} {st : List zV} {M : zM} {a : Nat} : uX5_look R 9 [some (.inr (.inr a)), x1, x2] st M ↔ uX5_look R 10 [some (.inr (.inr a)), x1, x2] (.inr (.inr a) :: st) M := zU_step dX5_look_9 (Or.inl rfl)
theorem dX5_look_10 : decode cX5_look 10 = .ok (.getfield 22, 3) := by decide +kernel
theorem rX5_look_10 {R : zP} {x0 x1 x2 : Option zV} {st : List zV} {M : zM} {r : Nat} : uX5_look R 10 [x0, x1, x2] (.inr (.inr r) :: st) M ↔ zgetx fX5 22 r M (fun v => uX5_look R 13 [x0, x1, x2] (v :: st) M) := zU_step dX5_look_10 (Or.inl rfl)
theorem dX5_look_13 : decode cX5_look 13 = .ok (.iconst (-1), 1) := by decide +kernel
theorem rX5_look_13 {R : zP} {x0 x1 x2 : Option zV} {st : List zV} {M : zM} : uX5_look R 13 [x0, x1, x2] st M ↔ uX5_look R 14 [x0, x1, x2] (.inl (-1) :: st) M := zU_step dX5_look_13 (Or.inl rfl)
theorem dX5_look_14 : decode cX5_look 14 = .ok (.if_icmp .ne 15, 3) := by decide +kernel
theorem rX5_look_14 {R : zP} {x0 x1 x2 : Option zV} {st : List zV} {M : zM} {a b : Int} : uX5_look R 14 [x0, x1, x2] (.inl b :: .inl a :: st) M ↔ ((zIR a ∧ zIR b) ∧ if a ≠ b then uX5_look R 29 [x0, x1, x2] st M else uX5_look R 17 [x0, x1, x2] st M) := Iff.trans (zU_step dX5_look_14 (Or.inl rfl)) ⟨fun h => ⟨⟨h.1.1, h.1.2.1⟩, (zite (c := a ≠ b)).mpr h.2⟩, fun h => ⟨⟨h.1.1, h.1.2, by decide⟩, (zite (c := a ≠ b)).mp h.2⟩⟩
theorem dX5_look_17 : decode cX5_look 17 = .ok (.aload_n 0, 1) := by decide +kernel
theorem rX5_look_17 {R : zP} {x1 x2 : Option zV} {st : List zV} {M : zM} {a : Nat} : uX5_look R 17 [some (.inr (.inr a)), x1, x2] st M ↔ uX5_look R 18 [some (.inr (.inr a)), x1, x2] (.inr (.inr a) :: st) M := zU_step dX5_look_17 (Or.inl rfl)
theorem dX5_look_18 : decode cX5_look 18 = .ok (.getfield 18, 3) := by decide +kernel
theorem rX5_look_18 {R : zP} {x0 x1 x2 : Option zV} {st : List zV} {M : zM} {r : Nat} : uX5_look R 18 [x0, x1, x2] (.inr (.inr r) :: st) M ↔ zgetx fX5 18 r M (fun v => uX5_look R 21 [x0, x1, x2] (v :: st) M) := zU_step dX5_look_18 (Or.inl rfl)
theorem dX5_look_21 : decode cX5_look 21 = .ok (.iconst 1, 1) := by decide +kernel
theorem rX5_look_21 {R : zP} {x0 x1 x2 : Option zV} {st : List zV} {M : zM} : uX5_look R 21 [x0, x1, x2] st M ↔ uX5_look R 22 [x0, x1, x2] (.inl (1) :: st) M := zU_step dX5_look_21 (Or.inl rfl)
theorem dX5_look_22 : decode cX5_look 22 = .ok (.iadd, 1) := by decide +kernel
theorem rX5_look_22 {R : zP} {x0 x1 x2 : Option zV} {st : List zV} {M : zM} {a b : Int} : uX5_look R 22 [x0, x1, x2] (.inl b :: .inl a :: st) M ↔ uX5_look R 23 [x0, x1, x2] (.inl (a + b) :: st) M := zU_step dX5_look_22 (Or.inl rfl)
theorem dX5_look_23 : decode cX5_look 23 = .ok (.bipush 6, 2) := by decide +kernel
theorem rX5_look_23 {R : zP} {x0 x1 x2 : Option zV} {st : List zV} {M : zM} : uX5_look R 23 [x0, x1, x2] st M ↔ uX5_look R 25 [x0, x1, x2] (.inl (6) :: st) M := Iff.trans (zU_step dX5_look_23 (Or.inl rfl)) ⟨fun h => h.2, fun h => ⟨by decide, h⟩⟩
theorem dX5_look_25 : decode cX5_look 25 = .ok (.idiv, 1) := by decide +kernel
theorem rX5_look_25 {R : zP} {x0 x1 x2 : Option zV} {st : List zV} {M : zM} {a b : Int} : uX5_look R 25 [x0, x1, x2] (.inl b :: .inl a :: st) M ↔ ((zIR a ∧ zIR b ∧ b ≠ 0) ∧ uX5_look R 26 [x0, x1, x2] (.inl (a.tdiv b) :: st) M) := zU_step dX5_look_25 (Or.inl rfl)
theorem dX5_look_26 : decode cX5_look 26 = .ok (.goto 4, 3) := by decide +kernel
theorem rX5_look_26 {R : zP} {x0 x1 x2 : Option zV} {st : List zV} {M : zM} : uX5_look R 26 [x0, x1, x2] st M ↔ uX5_look R 30 [x0, x1, x2] st M := Iff.trans (zU_step dX5_look_26 (Or.inl rfl)) ⟨fun h => h.2, fun h => ⟨by decide, h⟩⟩
theorem dX5_look_29 : decode cX5_look 29 = .ok (.iconst 0, 1) := by decide +kernel
theorem rX5_look_29 {R : zP} {x0 x1 x2 : Option zV} {st : List zV} {M : zM} : uX5_look R 29 [x0, x1, x2] st M ↔ uX5_look R 30 [x0, x1, x2] (.inl (0) :: st) M := zU_step dX5_look_29 (Or.inl rfl)
theorem dX5_look_30 : decode cX5_look 30 = .ok (.putfield 25, 3) := by decide +kernel
theorem rX5_look_30 {R : zP} {x0 x1 x2 : Option zV} {st : List zV} {M : zM} {r : Nat} {v : zV} : uX5_look R 30 [x0, x1, x2] (v :: .inr (.inr r) :: st) M ↔ zputx fX5 25 r M v (fun M => uX5_look R 33 [x0, x1, x2] st M) := zU_step dX5_look_30 (Or.inl rfl)
theorem dX5_look_33 : decode cX5_look 33 = .ok (.iconst 0, 1) := by decide +kernel
theorem rX5_look_33 {R : zP} {x0 x1 x2 : Option zV} {st : List zV} {M : zM} : uX5_look R 33 [x0, x1, x2] st M ↔ uX5_look R 34 [x0, x1, x2] (.inl (0) :: st) M := zU_step dX5_look_33 (Or.inl rfl)
theorem dX5_look_34 : decode cX5_look 34 = .ok (.istore_n 1, 1) := by decide +kernel
theorem rX5_look_34 {R : zP} {x1 x2 : Option zV} {st : List zV} {M : zM} {a : Int} {y : Nat} : uX5_look R 34 [some (.inr (.inr y)), x1, x2] (.inl a :: st) M ↔ uX5_look R 35 [some (.inr (.inr y)), some (.inl a), x2] st M := Iff.trans (zU_step dX5_look_34 (Or.inl rfl)) ⟨fun h => h.2, fun h => ⟨show 1 < 3 by decide, h⟩⟩
theorem rX5_look_34z {R : zP} {x0 x1 x2 : Option zV} {st : List zV} {M : zM} {a : Int} : uX5_look R 34 [x0, x1, x2] (.inl a :: st) M ↔ uX5_look R 35 [zkeep x0, some (.inl a), x2] st M := Iff.trans (zU_step dX5_look_34 (Or.inl rfl)) ⟨fun h => h.2, fun h => ⟨show 1 < 3 by decide, h⟩⟩
theorem dX5_look_35 : decode cX5_look 35 = .ok (.iload_n 1, 1) := by decide +kernel
theorem rX5_look_35 {R : zP} {x0 x2 : Option zV} {st : List zV} {M : zM} {a : Int} : uX5_look R 35 [x0, some (.inl a), x2] st M ↔ uX5_look R 36 [x0, some (.inl a), x2] (.inl a :: st) M := zU_step dX5_look_35 (Or.inl rfl)
theorem dX5_look_36 : decode cX5_look 36 = .ok (.aload_n 0, 1) := by decide +kernel
theorem rX5_look_36 {R : zP} {x1 x2 : Option zV} {st : List zV} {M : zM} {a : Nat} : uX5_look R 36 [some (.inr (.inr a)), x1, x2] st M ↔ uX5_look R 37 [some (.inr (.inr a)), x1, x2] (.inr (.inr a) :: st) M := zU_step dX5_look_36 (Or.inl rfl)
theorem dX5_look_37 : decode cX5_look 37 = .ok (.getfield 25, 3) := by decide +kernel
theorem rX5_look_37 {R : zP} {x0 x1 x2 : Option zV} {st : List zV} {M : zM} {r : Nat} : uX5_look R 37 [x0, x1, x2] (.inr (.inr r) :: st) M ↔ zgetx fX5 25 r M (fun v => uX5_look R 40 [x0, x1, x2] (v :: st) M) := zU_step dX5_look_37 (Or.inl rfl)
theorem dX5_look_40 : decode cX5_look 40 = .ok (.if_icmp .ge 71, 3) := by decide +kernel
theorem rX5_look_40 {R : zP} {x0 x1 x2 : Option zV} {st : List zV} {M : zM} {a b : Int} : uX5_look R 40 [x0, x1, x2] (.inl b :: .inl a :: st) M ↔ ((zIR a ∧ zIR b) ∧ if b ≤ a then uX5_look R 111 [x0, x1, x2] st M else uX5_look R 43 [x0, x1, x2] st M) := Iff.trans (zU_step dX5_look_40 (Or.inl rfl)) ⟨fun h => ⟨⟨h.1.1, h.1.2.1⟩, (zite (c := b ≤ a)).mpr h.2⟩, fun h => ⟨⟨h.1.1, h.1.2, by decide⟩, (zite (c := b ≤ a)).mp h.2⟩⟩
theorem dX5_look_43 : decode cX5_look 43 = .ok (.aload_n 0, 1) := by decide +kernel
theorem rX5_look_43 {R : zP} {x1 x2 : Option zV} {st : List zV} {M : zM} {a : Nat} : uX5_look R 43 [some (.inr (.inr a)), x1, x2] st M ↔ uX5_look R 44 [some (.inr (.inr a)), x1, x2] (.inr (.inr a) :: st) M := zU_step dX5_look_43 (Or.inl rfl)
theorem dX5_look_44 : decode cX5_look 44 = .ok (.getfield 15, 3) := by decide +kernel
theorem rX5_look_44 {R : zP} {x0 x1 x2 : Option zV} {st : List zV} {M : zM} {r : Nat} : uX5_look R 44 [x0, x1, x2] (.inr (.inr r) :: st) M ↔ zgetx fX5 15 r M (fun v => uX5_look R 47 [x0, x1, x2] (v :: st) M) := zU_step dX5_look_44 (Or.inl rfl)
theorem dX5_look_47 : decode cX5_look 47 = .ok (.iload_n 1, 1) := by decide +kernel
theorem rX5_look_47 {R : zP} {x0 x2 : Option zV} {st : List zV} {M : zM} {a : Int} : uX5_look R 47 [x0, some (.inl a), x2] st M ↔ uX5_look R 48 [x0, some (.inl a), x2] (.inl a :: st) M := zU_step dX5_look_47 (Or.inl rfl)
theorem dX5_look_48 : decode cX5_look 48 = .ok (.iconst 5, 1) := by decide +kernel
theorem rX5_look_48 {R : zP} {x0 x1 x2 : Option zV} {st : List zV} {M : zM} : uX5_look R 48 [x0, x1, x2] st M ↔ uX5_look R 49 [x0, x1, x2] (.inl (5) :: st) M := zU_step dX5_look_48 (Or.inl rfl)
theorem dX5_look_49 : decode cX5_look 49 = .ok (.imul, 1) := by decide +kernel
theorem rX5_look_49 {R : zP} {x0 x1 x2 : Option zV} {st : List zV} {M : zM} {a b : Int} : uX5_look R 49 [x0, x1, x2] (.inl b :: .inl a :: st) M ↔ uX5_look R 50 [x0, x1, x2] (.inl (a * b) :: st) M := zU_step dX5_look_49 (Or.inl rfl)
theorem dX5_look_50 : decode cX5_look 50 = .ok (.aload_n 0, 1) := by decide +kernel
theorem rX5_look_50 {R : zP} {x1 x2 : Option zV} {st : List zV} {M : zM} {a : Nat} : uX5_look R 50 [some (.inr (.inr a)), x1, x2] st M ↔ uX5_look R 51 [some (.inr (.inr a)), x1, x2] (.inr (.inr a) :: st) M := zU_step dX5_look_50 (Or.inl rfl)
theorem dX5_look_51 : decode cX5_look 51 = .ok (.getfield 28, 3) := by decide +kernel
theorem rX5_look_51 {R : zP} {x0 x1 x2 : Option zV} {st : List zV} {M : zM} {r : Nat} : uX5_look R 51 [x0, x1, x2] (.inr (.inr r) :: st) M ↔ zgetx fX5 28 r M (fun v => uX5_look R 54 [x0, x1, x2] (v :: st) M) := zU_step dX5_look_51 (Or.inl rfl)
theorem dX5_look_54 : decode cX5_look 54 = .ok (.aload_n 0, 1) := by decide +kernel
theorem rX5_look_54 {R : zP} {x1 x2 : Option zV} {st : List zV} {M : zM} {a : Nat} : uX5_look R 54 [some (.inr (.inr a)), x1, x2] st M ↔ uX5_look R 55 [some (.inr (.inr a)), x1, x2] (.inr (.inr a) :: st) M := zU_step dX5_look_54 (Or.inl rfl)
theorem dX5_look_55 : decode cX5_look 55 = .ok (.getfield 9, 3) := by decide +kernel
theorem rX5_look_55 {R : zP} {x0 x1 x2 : Option zV} {st : List zV} {M : zM} {r : Nat} : uX5_look R 55 [x0, x1, x2] (.inr (.inr r) :: st) M ↔ zgetx fX5 9 r M (fun v => uX5_look R 58 [x0, x1, x2] (v :: st) M) := zU_step dX5_look_55 (Or.inl rfl)
theorem dX5_look_58 : decode cX5_look 58 = .ok (.iload_n 1, 1) := by decide +kernel
theorem rX5_look_58 {R : zP} {x0 x2 : Option zV} {st : List zV} {M : zM} {a : Int} : uX5_look R 58 [x0, some (.inl a), x2] st M ↔ uX5_look R 59 [x0, some (.inl a), x2] (.inl a :: st) M := zU_step dX5_look_58 (Or.inl rfl)
theorem dX5_look_59 : decode cX5_look 59 = .ok (.bipush 6, 2) := by decide +kernel
theorem rX5_look_59 {R : zP} {x0 x1 x2 : Option zV} {st : List zV} {M : zM} : uX5_look R 59 [x0, x1, x2] st M ↔ uX5_look R 61 [x0, x1, x2] (.inl (6) :: st) M := Iff.trans (zU_step dX5_look_59 (Or.inl rfl)) ⟨fun h => h.2, fun h => ⟨by decide, h⟩⟩
theorem dX5_look_61 : decode cX5_look 61 = .ok (.imul, 1) := by decide +kernel
theorem rX5_look_61 {R : zP} {x0 x1 x2 : Option zV} {st : List zV} {M : zM} {a b : Int} : uX5_look R 61 [x0, x1, x2] (.inl b :: .inl a :: st) M ↔ uX5_look R 62 [x0, x1, x2] (.inl (a * b) :: st) M := zU_step dX5_look_61 (Or.inl rfl)
theorem dX5_look_62 : decode cX5_look 62 = .ok (.iaload, 1) := by decide +kernel
theorem rX5_look_62 {R : zP} {x0 x1 x2 : Option zV} {st : List zV} {M : zM} {i : Int} {r : Nat} : uX5_look R 62 [x0, x1, x2] (.inl i :: .inr (.inr r) :: st) M ↔ zread fX5 0 r M i (fun v => uX5_look R 63 [x0, x1, x2] (.inl v :: st) M) := zU_step dX5_look_62 (Or.inl rfl)
theorem dX5_look_63 : decode cX5_look 63 = .ok (.i2c, 1) := by decide +kernel
theorem rX5_look_63 {R : zP} {x0 x1 x2 : Option zV} {st : List zV} {M : zM} {a : Int} : uX5_look R 63 [x0, x1, x2] (.inl a :: st) M ↔ uX5_look R 64 [x0, x1, x2] (.inl (zi2c a) :: st) M := zU_step dX5_look_63 (Or.inl rfl)
theorem dX5_look_64 : decode cX5_look 64 = .ok (.invokevirtual 39, 3) := by decide +kernel
theorem rX5_look_64 {R : zP} {x0 x1 x2 : Option zV} {st : List zV} {M : zM} {a0 a1 : zV} : uX5_look R 64 [x0, x1, x2] (a1 :: a0 :: st) M ↔ (st.length ≤ 4 ∧ zcv (zv 99 tJ0_indexOf_0f7a4) [a0, a1] M (fun v M => uX5_look R 67 [x0, x1, x2] (v :: st) M)) := Iff.trans (zU_step dX5_look_64 (Or.inl rfl)) ⟨fun h => ⟨h.2.1, zcv_of h.2.2⟩, fun h => ⟨rfl, h.1, zcv_to h.2⟩⟩
theorem dX5_look_67 : decode cX5_look 67 = .ok (.iastore, 1) := by decide +kernel
theorem rX5_look_67 {R : zP} {x0 x1 x2 : Option zV} {st : List zV} {M : zM} {i v : Int} {r : Nat} : uX5_look R 67 [x0, x1, x2] (.inl v :: .inl i :: .inr (.inr r) :: st) M ↔ zwrite 0 r i (uX5_look R 68 [x0, x1, x2] st (zup M r i v)) := zU_step dX5_look_67 (Or.inl rfl)
theorem dX5_look_68 : decode cX5_look 68 = .ok (.iconst 1, 1) := by decide +kernel
theorem rX5_look_68 {R : zP} {x0 x1 x2 : Option zV} {st : List zV} {M : zM} : uX5_look R 68 [x0, x1, x2] st M ↔ uX5_look R 69 [x0, x1, x2] (.inl (1) :: st) M := zU_step dX5_look_68 (Or.inl rfl)
theorem dX5_look_69 : decode cX5_look 69 = .ok (.istore_n 2, 1) := by decide +kernel
theorem rX5_look_69 {R : zP} {x0 x2 : Option zV} {st : List zV} {M : zM} {a : Int} {y : Int} : uX5_look R 69 [x0, some (.inl y), x2] (.inl a :: st) M ↔ uX5_look R 70 [x0, some (.inl y), some (.inl a)] st M := Iff.trans (zU_step dX5_look_69 (Or.inl rfl)) ⟨fun h => h.2, fun h => ⟨show 2 < 3 by decide, h⟩⟩
theorem rX5_look_69z {R : zP} {x0 x1 x2 : Option zV} {st : List zV} {M : zM} {a : Int} : uX5_look R 69 [x0, x1, x2] (.inl a :: st) M ↔ uX5_look R 70 [x0, zkeep x1, some (.inl a)] st M := Iff.trans (zU_step dX5_look_69 (Or.inl rfl)) ⟨fun h => h.2, fun h => ⟨show 2 < 3 by decide, h⟩⟩
theorem dX5_look_70 : decode cX5_look 70 = .ok (.iload_n 2, 1) := by decide +kernel
theorem rX5_look_70 {R : zP} {x0 x1 : Option zV} {st : List zV} {M : zM} {a : Int} : uX5_look R 70 [x0, x1, some (.inl a)] st M ↔ uX5_look R 71 [x0, x1, some (.inl a)] (.inl a :: st) M := zU_step dX5_look_70 (Or.inl rfl)
theorem dX5_look_71 : decode cX5_look 71 = .ok (.iconst 5, 1) := by decide +kernel
theorem rX5_look_71 {R : zP} {x0 x1 x2 : Option zV} {st : List zV} {M : zM} : uX5_look R 71 [x0, x1, x2] st M ↔ uX5_look R 72 [x0, x1, x2] (.inl (5) :: st) M := zU_step dX5_look_71 (Or.inl rfl)
theorem dX5_look_72 : decode cX5_look 72 = .ok (.if_icmp .ge 33, 3) := by decide +kernel
theorem rX5_look_72 {R : zP} {x0 x1 x2 : Option zV} {st : List zV} {M : zM} {a b : Int} : uX5_look R 72 [x0, x1, x2] (.inl b :: .inl a :: st) M ↔ ((zIR a ∧ zIR b) ∧ if b ≤ a then uX5_look R 105 [x0, x1, x2] st M else uX5_look R 75 [x0, x1, x2] st M) := Iff.trans (zU_step dX5_look_72 (Or.inl rfl)) ⟨fun h => ⟨⟨h.1.1, h.1.2.1⟩, (zite (c := b ≤ a)).mpr h.2⟩, fun h => ⟨⟨h.1.1, h.1.2, by decide⟩, (zite (c := b ≤ a)).mp h.2⟩⟩
theorem dX5_look_75 : decode cX5_look 75 = .ok (.aload_n 0, 1) := by decide +kernel
theorem rX5_look_75 {R : zP} {x1 x2 : Option zV} {st : List zV} {M : zM} {a : Nat} : uX5_look R 75 [some (.inr (.inr a)), x1, x2] st M ↔ uX5_look R 76 [some (.inr (.inr a)), x1, x2] (.inr (.inr a) :: st) M := zU_step dX5_look_75 (Or.inl rfl)
theorem dX5_look_76 : decode cX5_look 76 = .ok (.getfield 15, 3) := by decide +kernel
theorem rX5_look_76 {R : zP} {x0 x1 x2 : Option zV} {st : List zV} {M : zM} {r : Nat} : uX5_look R 76 [x0, x1, x2] (.inr (.inr r) :: st) M ↔ zgetx fX5 15 r M (fun v => uX5_look R 79 [x0, x1, x2] (v :: st) M) := zU_step dX5_look_76 (Or.inl rfl)
theorem dX5_look_79 : decode cX5_look 79 = .ok (.iload_n 1, 1) := by decide +kernel
theorem rX5_look_79 {R : zP} {x0 x2 : Option zV} {st : List zV} {M : zM} {a : Int} : uX5_look R 79 [x0, some (.inl a), x2] st M ↔ uX5_look R 80 [x0, some (.inl a), x2] (.inl a :: st) M := zU_step dX5_look_79 (Or.inl rfl)
theorem dX5_look_80 : decode cX5_look 80 = .ok (.iconst 5, 1) := by decide +kernel
theorem rX5_look_80 {R : zP} {x0 x1 x2 : Option zV} {st : List zV} {M : zM} : uX5_look R 80 [x0, x1, x2] st M ↔ uX5_look R 81 [x0, x1, x2] (.inl (5) :: st) M := zU_step dX5_look_80 (Or.inl rfl)
theorem dX5_look_81 : decode cX5_look 81 = .ok (.imul, 1) := by decide +kernel
theorem rX5_look_81 {R : zP} {x0 x1 x2 : Option zV} {st : List zV} {M : zM} {a b : Int} : uX5_look R 81 [x0, x1, x2] (.inl b :: .inl a :: st) M ↔ uX5_look R 82 [x0, x1, x2] (.inl (a * b) :: st) M := zU_step dX5_look_81 (Or.inl rfl)
theorem dX5_look_82 : decode cX5_look 82 = .ok (.iload_n 2, 1) := by decide +kernel
theorem rX5_look_82 {R : zP} {x0 x1 : Option zV} {st : List zV} {M : zM} {a : Int} : uX5_look R 82 [x0, x1, some (.inl a)] st M ↔ uX5_look R 83 [x0, x1, some (.inl a)] (.inl a :: st) M := zU_step dX5_look_82 (Or.inl rfl)
theorem dX5_look_83 : decode cX5_look 83 = .ok (.iadd, 1) := by decide +kernel
theorem rX5_look_83 {R : zP} {x0 x1 x2 : Option zV} {st : List zV} {M : zM} {a b : Int} : uX5_look R 83 [x0, x1, x2] (.inl b :: .inl a :: st) M ↔ uX5_look R 84 [x0, x1, x2] (.inl (a + b) :: st) M := zU_step dX5_look_83 (Or.inl rfl)
theorem dX5_look_84 : decode cX5_look 84 = .ok (.aload_n 0, 1) := by decide +kernel
theorem rX5_look_84 {R : zP} {x1 x2 : Option zV} {st : List zV} {M : zM} {a : Nat} : uX5_look R 84 [some (.inr (.inr a)), x1, x2] st M ↔ uX5_look R 85 [some (.inr (.inr a)), x1, x2] (.inr (.inr a) :: st) M := zU_step dX5_look_84 (Or.inl rfl)
theorem dX5_look_85 : decode cX5_look 85 = .ok (.getfield 9, 3) := by decide +kernel
theorem rX5_look_85 {R : zP} {x0 x1 x2 : Option zV} {st : List zV} {M : zM} {r : Nat} : uX5_look R 85 [x0, x1, x2] (.inr (.inr r) :: st) M ↔ zgetx fX5 9 r M (fun v => uX5_look R 88 [x0, x1, x2] (v :: st) M) := zU_step dX5_look_85 (Or.inl rfl)
theorem dX5_look_88 : decode cX5_look 88 = .ok (.iload_n 1, 1) := by decide +kernel
theorem rX5_look_88 {R : zP} {x0 x2 : Option zV} {st : List zV} {M : zM} {a : Int} : uX5_look R 88 [x0, some (.inl a), x2] st M ↔ uX5_look R 89 [x0, some (.inl a), x2] (.inl a :: st) M := zU_step dX5_look_88 (Or.inl rfl)
theorem dX5_look_89 : decode cX5_look 89 = .ok (.bipush 6, 2) := by decide +kernel
theorem rX5_look_89 {R : zP} {x0 x1 x2 : Option zV} {st : List zV} {M : zM} : uX5_look R 89 [x0, x1, x2] st M ↔ uX5_look R 91 [x0, x1, x2] (.inl (6) :: st) M := Iff.trans (zU_step dX5_look_89 (Or.inl rfl)) ⟨fun h => h.2, fun h => ⟨by decide, h⟩⟩
theorem dX5_look_91 : decode cX5_look 91 = .ok (.imul, 1) := by decide +kernel
theorem rX5_look_91 {R : zP} {x0 x1 x2 : Option zV} {st : List zV} {M : zM} {a b : Int} : uX5_look R 91 [x0, x1, x2] (.inl b :: .inl a :: st) M ↔ uX5_look R 92 [x0, x1, x2] (.inl (a * b) :: st) M := zU_step dX5_look_91 (Or.inl rfl)
theorem dX5_look_92 : decode cX5_look 92 = .ok (.iload_n 2, 1) := by decide +kernel
theorem rX5_look_92 {R : zP} {x0 x1 : Option zV} {st : List zV} {M : zM} {a : Int} : uX5_look R 92 [x0, x1, some (.inl a)] st M ↔ uX5_look R 93 [x0, x1, some (.inl a)] (.inl a :: st) M := zU_step dX5_look_92 (Or.inl rfl)
theorem dX5_look_93 : decode cX5_look 93 = .ok (.iadd, 1) := by decide +kernel
theorem rX5_look_93 {R : zP} {x0 x1 x2 : Option zV} {st : List zV} {M : zM} {a b : Int} : uX5_look R 93 [x0, x1, x2] (.inl b :: .inl a :: st) M ↔ uX5_look R 94 [x0, x1, x2] (.inl (a + b) :: st) M := zU_step dX5_look_93 (Or.inl rfl)
theorem dX5_look_94 : decode cX5_look 94 = .ok (.iaload, 1) := by decide +kernel
theorem rX5_look_94 {R : zP} {x0 x1 x2 : Option zV} {st : List zV} {M : zM} {i : Int} {r : Nat} : uX5_look R 94 [x0, x1, x2] (.inl i :: .inr (.inr r) :: st) M ↔ zread fX5 0 r M i (fun v => uX5_look R 95 [x0, x1, x2] (.inl v :: st) M) := zU_step dX5_look_94 (Or.inl rfl)
theorem dX5_look_95 : decode cX5_look 95 = .ok (.bipush 48, 2) := by decide +kernel
theorem rX5_look_95 {R : zP} {x0 x1 x2 : Option zV} {st : List zV} {M : zM} : uX5_look R 95 [x0, x1, x2] st M ↔ uX5_look R 97 [x0, x1, x2] (.inl (48) :: st) M := Iff.trans (zU_step dX5_look_95 (Or.inl rfl)) ⟨fun h => h.2, fun h => ⟨by decide, h⟩⟩
theorem dX5_look_97 : decode cX5_look 97 = .ok (.isub, 1) := by decide +kernel
theorem rX5_look_97 {R : zP} {x0 x1 x2 : Option zV} {st : List zV} {M : zM} {a b : Int} : uX5_look R 97 [x0, x1, x2] (.inl b :: .inl a :: st) M ↔ uX5_look R 98 [x0, x1, x2] (.inl (a - b) :: st) M := zU_step dX5_look_97 (Or.inl rfl)
theorem dX5_look_98 : decode cX5_look 98 = .ok (.iastore, 1) := by decide +kernel
theorem rX5_look_98 {R : zP} {x0 x1 x2 : Option zV} {st : List zV} {M : zM} {i v : Int} {r : Nat} : uX5_look R 98 [x0, x1, x2] (.inl v :: .inl i :: .inr (.inr r) :: st) M ↔ zwrite 0 r i (uX5_look R 99 [x0, x1, x2] st (zup M r i v)) := zU_step dX5_look_98 (Or.inl rfl)
theorem dX5_look_99 : decode cX5_look 99 = .ok (.iinc 2 1, 3) := by decide +kernel
theorem rX5_look_99 {R : zP} {x0 : Option zV} {st : List zV} {M : zM} {a : Int} {y : Int} : uX5_look R 99 [x0, some (.inl y), some (.inl a)] st M ↔ uX5_look R 102 [x0, some (.inl y), some (.inl (a + (1)))] st M := Iff.trans (zU_step dX5_look_99 (Or.inl rfl)) ⟨fun h => h.2, fun h => ⟨show 2 < 3 by decide, h⟩⟩
theorem rX5_look_99z {R : zP} {x0 x1 : Option zV} {st : List zV} {M : zM} {a : Int} : uX5_look R 99 [x0, x1, some (.inl a)] st M ↔ uX5_look R 102 [x0, zkeep x1, some (.inl (a + (1)))] st M := Iff.trans (zU_step dX5_look_99 (Or.inl rfl)) ⟨fun h => h.2, fun h => ⟨show 2 < 3 by decide, h⟩⟩
theorem dX5_look_102 : decode cX5_look 102 = .ok (.goto (-32), 3) := by decide +kernel
theorem rX5_look_102 {R : zP} {x0 x1 x2 : Option zV} {st : List zV} {M : zM} : uX5_look R 102 [x0, x1, x2] st M ↔ uX5_look R 70 [x0, x1, x2] st M := Iff.trans (zU_step dX5_look_102 (Or.inl rfl)) ⟨fun h => h.2, fun h => ⟨by decide, h⟩⟩
theorem dX5_look_105 : decode cX5_look 105 = .ok (.iinc 1 1, 3) := by decide +kernel
theorem rX5_look_105 {R : zP} {x2 : Option zV} {st : List zV} {M : zM} {a : Int} {y : Nat} : uX5_look R 105 [some (.inr (.inr y)), some (.inl a), x2] st M ↔ uX5_look R 108 [some (.inr (.inr y)), some (.inl (a + (1))), x2] st M := Iff.trans (zU_step dX5_look_105 (Or.inl rfl)) ⟨fun h => h.2, fun h => ⟨show 1 < 3 by decide, h⟩⟩
theorem rX5_look_105z {R : zP} {x0 x2 : Option zV} {st : List zV} {M : zM} {a : Int} : uX5_look R 105 [x0, some (.inl a), x2] st M ↔ uX5_look R 108 [zkeep x0, some (.inl (a + (1))), x2] st M := Iff.trans (zU_step dX5_look_105 (Or.inl rfl)) ⟨fun h => h.2, fun h => ⟨show 1 < 3 by decide, h⟩⟩
theorem dX5_look_108 : decode cX5_look 108 = .ok (.goto (-73), 3) := by decide +kernel
theorem rX5_look_108 {R : zP} {x0 x1 x2 : Option zV} {st : List zV} {M : zM} : uX5_look R 108 [x0, x1, x2] st M ↔ uX5_look R 35 [x0, x1, x2] st M := Iff.trans (zU_step dX5_look_108 (Or.inl rfl)) ⟨fun h => h.2, fun h => ⟨by decide, h⟩⟩
theorem dX5_look_111 : decode cX5_look 111 = .ok (.return_, 1) := by decide +kernel
theorem rX5_look_111 {R : zP} {x0 x1 x2 : Option zV} {M : zM} : uX5_look R 111 [x0, x1, x2] [] M ↔ R none M := Iff.trans (zU_step dX5_look_111 (Or.inl rfl)) ⟨fun h => h.2.2, fun h => ⟨rfl, rfl, h⟩⟩
theorem eX5_look {R : zP} {M : zM} {a0 : Nat} : tX5_look [.inr (.inr a0)] M R ↔ uX5_look R 0 [some (.inr (.inr a0)), none, none] [] M := ⟨fun h => h.2, fun h => ⟨show 1 ≤ 3 by decide, h⟩⟩
def uX5_append (R : zP) : zK := zU fX5 vX5_append cX5_append R
theorem dX5_append_0 : decode cX5_append 0 = .ok (.aload_n 0, 1) := by decide +kernel
theorem rX5_append_0 {R : zP} {x1 : Option zV} {st : List zV} {M : zM} {a : Nat} : uX5_append R 0 [some (.inr (.inr a)), x1] st M ↔ uX5_append R 1 [some (.inr (.inr a)), x1] (.inr (.inr a) :: st) M := zU_step dX5_append_0 (Or.inl rfl)
theorem dX5_append_1 : decode cX5_append 1 = .ok (.getfield 18, 3) := by decide +kernel
theorem rX5_append_1 {R : zP} {x0 x1 : Option zV} {st : List zV} {M : zM} {r : Nat} : uX5_append R 1 [x0, x1] (.inr (.inr r) :: st) M ↔ zgetx fX5 18 r M (fun v => uX5_append R 4 [x0, x1] (v :: st) M) := zU_step dX5_append_1 (Or.inl rfl)
theorem dX5_append_4 : decode cX5_append 4 = .ok (.bipush 47, 2) := by decide +kernel
theorem rX5_append_4 {R : zP} {x0 x1 : Option zV} {st : List zV} {M : zM} : uX5_append R 4 [x0, x1] st M ↔ uX5_append R 6 [x0, x1] (.inl (47) :: st) M := Iff.trans (zU_step dX5_append_4 (Or.inl rfl)) ⟨fun h => h.2, fun h => ⟨by decide, h⟩⟩
theorem dX5_append_6 : decode cX5_append 6 = .ok (.if_icmp .lt 6, 3) := by decide +kernel
theorem rX5_append_6 {R : zP} {x0 x1 : Option zV} {st : List zV} {M : zM} {a b : Int} : uX5_append R 6 [x0, x1] (.inl b :: .inl a :: st) M ↔ ((zIR a ∧ zIR b) ∧ if a < b then uX5_append R 12 [x0, x1] st M else uX5_append R 9 [x0, x1] st M) := Iff.trans (zU_step dX5_append_6 (Or.inl rfl)) ⟨fun h => ⟨⟨h.1.1, h.1.2.1⟩, (zite (c := a < b)).mpr h.2⟩, fun h => ⟨⟨h.1.1, h.1.2, by decide⟩, (zite (c := a < b)).mp h.2⟩⟩
theorem dX5_append_9 : decode cX5_append 9 = .ok (.bipush (-4), 2) := by decide +kernel
theorem rX5_append_9 {R : zP} {x0 x1 : Option zV} {st : List zV} {M : zM} : uX5_append R 9 [x0, x1] st M ↔ uX5_append R 11 [x0, x1] (.inl (-4) :: st) M := Iff.trans (zU_step dX5_append_9 (Or.inl rfl)) ⟨fun h => h.2, fun h => ⟨by decide, h⟩⟩
theorem dX5_append_11 : decode cX5_append 11 = .ok (.ireturn, 1) := by decide +kernel
theorem rX5_append_11 {R : zP} {x0 x1 : Option zV} {M : zM} {a : Int} : uX5_append R 11 [x0, x1] [.inl a] M ↔ R (some (.inl a)) M := Iff.trans (zU_step dX5_append_11 (Or.inl rfl)) ⟨fun h => h.2.2, fun h => ⟨rfl, Or.inl rfl, h⟩⟩
theorem dX5_append_12 : decode cX5_append 12 = .ok (.aload_n 0, 1) := by decide +kernel
theorem rX5_append_12 {R : zP} {x1 : Option zV} {st : List zV} {M : zM} {a : Nat} : uX5_append R 12 [some (.inr (.inr a)), x1] st M ↔ uX5_append R 13 [some (.inr (.inr a)), x1] (.inr (.inr a) :: st) M := zU_step dX5_append_12 (Or.inl rfl)
theorem dX5_append_13 : decode cX5_append 13 = .ok (.getfield 9, 3) := by decide +kernel
theorem rX5_append_13 {R : zP} {x0 x1 : Option zV} {st : List zV} {M : zM} {r : Nat} : uX5_append R 13 [x0, x1] (.inr (.inr r) :: st) M ↔ zgetx fX5 9 r M (fun v => uX5_append R 16 [x0, x1] (v :: st) M) := zU_step dX5_append_13 (Or.inl rfl)
theorem dX5_append_16 : decode cX5_append 16 = .ok (.aload_n 0, 1) := by decide +kernel
theorem rX5_append_16 {R : zP} {x1 : Option zV} {st : List zV} {M : zM} {a : Nat} : uX5_append R 16 [some (.inr (.inr a)), x1] st M ↔ uX5_append R 17 [some (.inr (.inr a)), x1] (.inr (.inr a) :: st) M := zU_step dX5_append_16 (Or.inl rfl)
theorem dX5_append_17 : decode cX5_append 17 = .ok (.getfield 18, 3) := by decide +kernel
theorem rX5_append_17 {R : zP} {x0 x1 : Option zV} {st : List zV} {M : zM} {r : Nat} : uX5_append R 17 [x0, x1] (.inr (.inr r) :: st) M ↔ zgetx fX5 18 r M (fun v => uX5_append R 20 [x0, x1] (v :: st) M) := zU_step dX5_append_17 (Or.inl rfl)
theorem dX5_append_20 : decode cX5_append 20 = .ok (.iload_n 1, 1) := by decide +kernel
theorem rX5_append_20 {R : zP} {x0 : Option zV} {st : List zV} {M : zM} {a : Int} : uX5_append R 20 [x0, some (.inl a)] st M ↔ uX5_append R 21 [x0, some (.inl a)] (.inl a :: st) M := zU_step dX5_append_20 (Or.inl rfl)
theorem dX5_append_21 : decode cX5_append 21 = .ok (.iastore, 1) := by decide +kernel
theorem rX5_append_21 {R : zP} {x0 x1 : Option zV} {st : List zV} {M : zM} {i v : Int} {r : Nat} : uX5_append R 21 [x0, x1] (.inl v :: .inl i :: .inr (.inr r) :: st) M ↔ zwrite 0 r i (uX5_append R 22 [x0, x1] st (zup M r i v)) := zU_step dX5_append_21 (Or.inl rfl)
theorem dX5_append_22 : decode cX5_append 22 = .ok (.aload_n 0, 1) := by decide +kernel
theorem rX5_append_22 {R : zP} {x1 : Option zV} {st : List zV} {M : zM} {a : Nat} : uX5_append R 22 [some (.inr (.inr a)), x1] st M ↔ uX5_append R 23 [some (.inr (.inr a)), x1] (.inr (.inr a) :: st) M := zU_step dX5_append_22 (Or.inl rfl)
theorem dX5_append_23 : decode cX5_append 23 = .ok (.dup, 1) := by decide +kernel
theorem rX5_append_23 {R : zP} {x0 x1 : Option zV} {st : List zV} {M : zM} {a : Nat} : uX5_append R 23 [x0, x1] (.inr (.inr a) :: st) M ↔ uX5_append R 24 [x0, x1] (.inr (.inr a) :: .inr (.inr a) :: st) M := zU_step dX5_append_23 (Or.inl rfl)
theorem dX5_append_24 : decode cX5_append 24 = .ok (.getfield 18, 3) := by decide +kernel
theorem rX5_append_24 {R : zP} {x0 x1 : Option zV} {st : List zV} {M : zM} {r : Nat} : uX5_append R 24 [x0, x1] (.inr (.inr r) :: st) M ↔ zgetx fX5 18 r M (fun v => uX5_append R 27 [x0, x1] (v :: st) M) := zU_step dX5_append_24 (Or.inl rfl)
theorem dX5_append_27 : decode cX5_append 27 = .ok (.iconst 1, 1) := by decide +kernel
theorem rX5_append_27 {R : zP} {x0 x1 : Option zV} {st : List zV} {M : zM} : uX5_append R 27 [x0, x1] st M ↔ uX5_append R 28 [x0, x1] (.inl (1) :: st) M := zU_step dX5_append_27 (Or.inl rfl)
theorem dX5_append_28 : decode cX5_append 28 = .ok (.iadd, 1) := by decide +kernel
theorem rX5_append_28 {R : zP} {x0 x1 : Option zV} {st : List zV} {M : zM} {a b : Int} : uX5_append R 28 [x0, x1] (.inl b :: .inl a :: st) M ↔ uX5_append R 29 [x0, x1] (.inl (a + b) :: st) M := zU_step dX5_append_28 (Or.inl rfl)
theorem dX5_append_29 : decode cX5_append 29 = .ok (.putfield 18, 3) := by decide +kernel
theorem rX5_append_29 {R : zP} {x0 x1 : Option zV} {st : List zV} {M : zM} {r : Nat} {v : zV} : uX5_append R 29 [x0, x1] (v :: .inr (.inr r) :: st) M ↔ zputx fX5 18 r M v (fun M => uX5_append R 32 [x0, x1] st M) := zU_step dX5_append_29 (Or.inl rfl)
theorem dX5_append_32 : decode cX5_append 32 = .ok (.aload_n 0, 1) := by decide +kernel
theorem rX5_append_32 {R : zP} {x1 : Option zV} {st : List zV} {M : zM} {a : Nat} : uX5_append R 32 [some (.inr (.inr a)), x1] st M ↔ uX5_append R 33 [some (.inr (.inr a)), x1] (.inr (.inr a) :: st) M := zU_step dX5_append_32 (Or.inl rfl)
theorem dX5_append_33 : decode cX5_append 33 = .ok (.invokevirtual 32, 3) := by decide +kernel
theorem rX5_append_33 {R : zP} {x0 x1 : Option zV} {st : List zV} {M : zM} {a0 : zV} : uX5_append R 33 [x0, x1] (a0 :: st) M ↔ (st.length ≤ 4 ∧ zcn (zv 5 tX5_look) [a0] M (fun M => uX5_append R 36 [x0, x1] st M)) := Iff.trans (zU_step dX5_append_33 (Or.inl rfl)) ⟨fun h => ⟨h.2.1, zcn_of h.2.2⟩, fun h => ⟨rfl, h.1, zcn_to h.2⟩⟩
theorem dX5_append_36 : decode cX5_append 36 = .ok (.aload_n 0, 1) := by decide +kernel
theorem rX5_append_36 {R : zP} {x1 : Option zV} {st : List zV} {M : zM} {a : Nat} : uX5_append R 36 [some (.inr (.inr a)), x1] st M ↔ uX5_append R 37 [some (.inr (.inr a)), x1] (.inr (.inr a) :: st) M := zU_step dX5_append_36 (Or.inl rfl)
theorem dX5_append_37 : decode cX5_append 37 = .ok (.getfield 18, 3) := by decide +kernel
theorem rX5_append_37 {R : zP} {x0 x1 : Option zV} {st : List zV} {M : zM} {r : Nat} : uX5_append R 37 [x0, x1] (.inr (.inr r) :: st) M ↔ zgetx fX5 18 r M (fun v => uX5_append R 40 [x0, x1] (v :: st) M) := zU_step dX5_append_37 (Or.inl rfl)
theorem dX5_append_40 : decode cX5_append 40 = .ok (.ireturn, 1) := by decide +kernel
theorem rX5_append_40 {R : zP} {x0 x1 : Option zV} {M : zM} {a : Int} : uX5_append R 40 [x0, x1] [.inl a] M ↔ R (some (.inl a)) M := Iff.trans (zU_step dX5_append_40 (Or.inl rfl)) ⟨fun h => h.2.2, fun h => ⟨rfl, Or.inl rfl, h⟩⟩
theorem eX5_append {R : zP} {M : zM} {a0 : Nat} {p0 : Int} : tX5_append [.inr (.inr a0), .inl p0] M R ↔ uX5_append R 0 [some (.inr (.inr a0)), some (.inl p0)] [] M := ⟨fun h => h.2, fun h => ⟨show 2 ≤ 2 by decide, h⟩⟩
def uX5_clear (R : zP) : zK := zU fX5 vX5_clear cX5_clear R
theorem dX5_clear_0 : decode cX5_clear 0 = .ok (.aload_n 0, 1) := by decide +kernel
theorem rX5_clear_0 {R : zP} {x1 : Option zV} {st : List zV} {M : zM} {a : Nat} : uX5_clear R 0 [some (.inr (.inr a)), x1] st M ↔ uX5_clear R 1 [some (.inr (.inr a)), x1] (.inr (.inr a) :: st) M := zU_step dX5_clear_0 (Or.inl rfl)
theorem dX5_clear_1 : decode cX5_clear 1 = .ok (.getfield 18, 3) := by decide +kernel
theorem rX5_clear_1 {R : zP} {x0 x1 : Option zV} {st : List zV} {M : zM} {r : Nat} : uX5_clear R 1 [x0, x1] (.inr (.inr r) :: st) M ↔ zgetx fX5 18 r M (fun v => uX5_clear R 4 [x0, x1] (v :: st) M) := zU_step dX5_clear_1 (Or.inl rfl)
theorem dX5_clear_4 : decode cX5_clear 4 = .ok (.istore_n 1, 1) := by decide +kernel
theorem rX5_clear_4 {R : zP} {x1 : Option zV} {st : List zV} {M : zM} {a : Int} {y : Nat} : uX5_clear R 4 [some (.inr (.inr y)), x1] (.inl a :: st) M ↔ uX5_clear R 5 [some (.inr (.inr y)), some (.inl a)] st M := Iff.trans (zU_step dX5_clear_4 (Or.inl rfl)) ⟨fun h => h.2, fun h => ⟨show 1 < 2 by decide, h⟩⟩
theorem rX5_clear_4z {R : zP} {x0 x1 : Option zV} {st : List zV} {M : zM} {a : Int} : uX5_clear R 4 [x0, x1] (.inl a :: st) M ↔ uX5_clear R 5 [zkeep x0, some (.inl a)] st M := Iff.trans (zU_step dX5_clear_4 (Or.inl rfl)) ⟨fun h => h.2, fun h => ⟨show 1 < 2 by decide, h⟩⟩
theorem dX5_clear_5 : decode cX5_clear 5 = .ok (.aload_n 0, 1) := by decide +kernel
theorem rX5_clear_5 {R : zP} {x1 : Option zV} {st : List zV} {M : zM} {a : Nat} : uX5_clear R 5 [some (.inr (.inr a)), x1] st M ↔ uX5_clear R 6 [some (.inr (.inr a)), x1] (.inr (.inr a) :: st) M := zU_step dX5_clear_5 (Or.inl rfl)
theorem dX5_clear_6 : decode cX5_clear 6 = .ok (.iconst 0, 1) := by decide +kernel
theorem rX5_clear_6 {R : zP} {x0 x1 : Option zV} {st : List zV} {M : zM} : uX5_clear R 6 [x0, x1] st M ↔ uX5_clear R 7 [x0, x1] (.inl (0) :: st) M := zU_step dX5_clear_6 (Or.inl rfl)
theorem dX5_clear_7 : decode cX5_clear 7 = .ok (.putfield 18, 3) := by decide +kernel
theorem rX5_clear_7 {R : zP} {x0 x1 : Option zV} {st : List zV} {M : zM} {r : Nat} {v : zV} : uX5_clear R 7 [x0, x1] (v :: .inr (.inr r) :: st) M ↔ zputx fX5 18 r M v (fun M => uX5_clear R 10 [x0, x1] st M) := zU_step dX5_clear_7 (Or.inl rfl)
theorem dX5_clear_10 : decode cX5_clear 10 = .ok (.aload_n 0, 1) := by decide +kernel
theorem rX5_clear_10 {R : zP} {x1 : Option zV} {st : List zV} {M : zM} {a : Nat} : uX5_clear R 10 [some (.inr (.inr a)), x1] st M ↔ uX5_clear R 11 [some (.inr (.inr a)), x1] (.inr (.inr a) :: st) M := zU_step dX5_clear_10 (Or.inl rfl)
theorem dX5_clear_11 : decode cX5_clear 11 = .ok (.invokevirtual 32, 3) := by decide +kernel
theorem rX5_clear_11 {R : zP} {x0 x1 : Option zV} {st : List zV} {M : zM} {a0 : zV} : uX5_clear R 11 [x0, x1] (a0 :: st) M ↔ (st.length ≤ 4 ∧ zcn (zv 5 tX5_look) [a0] M (fun M => uX5_clear R 14 [x0, x1] st M)) := Iff.trans (zU_step dX5_clear_11 (Or.inl rfl)) ⟨fun h => ⟨h.2.1, zcn_of h.2.2⟩, fun h => ⟨rfl, h.1, zcn_to h.2⟩⟩
theorem dX5_clear_14 : decode cX5_clear 14 = .ok (.iload_n 1, 1) := by decide +kernel
theorem rX5_clear_14 {R : zP} {x0 : Option zV} {st : List zV} {M : zM} {a : Int} : uX5_clear R 14 [x0, some (.inl a)] st M ↔ uX5_clear R 15 [x0, some (.inl a)] (.inl a :: st) M := zU_step dX5_clear_14 (Or.inl rfl)
theorem dX5_clear_15 : decode cX5_clear 15 = .ok (.ireturn, 1) := by decide +kernel
theorem rX5_clear_15 {R : zP} {x0 x1 : Option zV} {M : zM} {a : Int} : uX5_clear R 15 [x0, x1] [.inl a] M ↔ R (some (.inl a)) M := Iff.trans (zU_step dX5_clear_15 (Or.inl rfl)) ⟨fun h => h.2.2, fun h => ⟨rfl, Or.inl rfl, h⟩⟩
theorem eX5_clear {R : zP} {M : zM} {a0 : Nat} : tX5_clear [.inr (.inr a0)] M R ↔ uX5_clear R 0 [some (.inr (.inr a0)), none] [] M := ⟨fun h => h.2, fun h => ⟨show 1 ≤ 2 by decide, h⟩⟩
def uX5_dropLast (R : zP) : zK := zU fX5 vX5_dropLast cX5_dropLast R
theorem dX5_dropLast_0 : decode cX5_dropLast 0 = .ok (.aload_n 0, 1) := by decide +kernel
theorem rX5_dropLast_0 {R : zP} {st : List zV} {M : zM} {a : Nat} : uX5_dropLast R 0 [some (.inr (.inr a))] st M ↔ uX5_dropLast R 1 [some (.inr (.inr a))] (.inr (.inr a) :: st) M := zU_step dX5_dropLast_0 (Or.inl rfl)
theorem dX5_dropLast_1 : decode cX5_dropLast 1 = .ok (.getfield 18, 3) := by decide +kernel
theorem rX5_dropLast_1 {R : zP} {x0 : Option zV} {st : List zV} {M : zM} {r : Nat} : uX5_dropLast R 1 [x0] (.inr (.inr r) :: st) M ↔ zgetx fX5 18 r M (fun v => uX5_dropLast R 4 [x0] (v :: st) M) := zU_step dX5_dropLast_1 (Or.inl rfl)
theorem dX5_dropLast_4 : decode cX5_dropLast 4 = .ok (.ifCond .ne 6, 3) := by decide +kernel
theorem rX5_dropLast_4 {R : zP} {x0 : Option zV} {st : List zV} {M : zM} {a : Int} : uX5_dropLast R 4 [x0] (.inl a :: st) M ↔ (zIR a ∧ if a ≠ 0 then uX5_dropLast R 10 [x0] st M else uX5_dropLast R 7 [x0] st M) := Iff.trans (zU_step dX5_dropLast_4 (Or.inl rfl)) ⟨fun h => ⟨h.1.1, (zite (c := a ≠ 0)).mpr h.2⟩, fun h => ⟨⟨h.1, by decide⟩, (zite (c := a ≠ 0)).mp h.2⟩⟩
theorem dX5_dropLast_7 : decode cX5_dropLast 7 = .ok (.bipush (-3), 2) := by decide +kernel
theorem rX5_dropLast_7 {R : zP} {x0 : Option zV} {st : List zV} {M : zM} : uX5_dropLast R 7 [x0] st M ↔ uX5_dropLast R 9 [x0] (.inl (-3) :: st) M := Iff.trans (zU_step dX5_dropLast_7 (Or.inl rfl)) ⟨fun h => h.2, fun h => ⟨by decide, h⟩⟩
theorem dX5_dropLast_9 : decode cX5_dropLast 9 = .ok (.ireturn, 1) := by decide +kernel
theorem rX5_dropLast_9 {R : zP} {x0 : Option zV} {M : zM} {a : Int} : uX5_dropLast R 9 [x0] [.inl a] M ↔ R (some (.inl a)) M := Iff.trans (zU_step dX5_dropLast_9 (Or.inl rfl)) ⟨fun h => h.2.2, fun h => ⟨rfl, Or.inl rfl, h⟩⟩
theorem dX5_dropLast_10 : decode cX5_dropLast 10 = .ok (.aload_n 0, 1) := by decide +kernel
theorem rX5_dropLast_10 {R : zP} {st : List zV} {M : zM} {a : Nat} : uX5_dropLast R 10 [some (.inr (.inr a))] st M ↔ uX5_dropLast R 11 [some (.inr (.inr a))] (.inr (.inr a) :: st) M := zU_step dX5_dropLast_10 (Or.inl rfl)
theorem dX5_dropLast_11 : decode cX5_dropLast 11 = .ok (.dup, 1) := by decide +kernel
theorem rX5_dropLast_11 {R : zP} {x0 : Option zV} {st : List zV} {M : zM} {a : Nat} : uX5_dropLast R 11 [x0] (.inr (.inr a) :: st) M ↔ uX5_dropLast R 12 [x0] (.inr (.inr a) :: .inr (.inr a) :: st) M := zU_step dX5_dropLast_11 (Or.inl rfl)
theorem dX5_dropLast_12 : decode cX5_dropLast 12 = .ok (.getfield 18, 3) := by decide +kernel
theorem rX5_dropLast_12 {R : zP} {x0 : Option zV} {st : List zV} {M : zM} {r : Nat} : uX5_dropLast R 12 [x0] (.inr (.inr r) :: st) M ↔ zgetx fX5 18 r M (fun v => uX5_dropLast R 15 [x0] (v :: st) M) := zU_step dX5_dropLast_12 (Or.inl rfl)
theorem dX5_dropLast_15 : decode cX5_dropLast 15 = .ok (.iconst 1, 1) := by decide +kernel
theorem rX5_dropLast_15 {R : zP} {x0 : Option zV} {st : List zV} {M : zM} : uX5_dropLast R 15 [x0] st M ↔ uX5_dropLast R 16 [x0] (.inl (1) :: st) M := zU_step dX5_dropLast_15 (Or.inl rfl)
theorem dX5_dropLast_16 : decode cX5_dropLast 16 = .ok (.isub, 1) := by decide +kernel
theorem rX5_dropLast_16 {R : zP} {x0 : Option zV} {st : List zV} {M : zM} {a b : Int} : uX5_dropLast R 16 [x0] (.inl b :: .inl a :: st) M ↔ uX5_dropLast R 17 [x0] (.inl (a - b) :: st) M := zU_step dX5_dropLast_16 (Or.inl rfl)
theorem dX5_dropLast_17 : decode cX5_dropLast 17 = .ok (.putfield 18, 3) := by decide +kernel
theorem rX5_dropLast_17 {R : zP} {x0 : Option zV} {st : List zV} {M : zM} {r : Nat} {v : zV} : uX5_dropLast R 17 [x0] (v :: .inr (.inr r) :: st) M ↔ zputx fX5 18 r M v (fun M => uX5_dropLast R 20 [x0] st M) := zU_step dX5_dropLast_17 (Or.inl rfl)
theorem dX5_dropLast_20 : decode cX5_dropLast 20 = .ok (.aload_n 0, 1) := by decide +kernel
theorem rX5_dropLast_20 {R : zP} {st : List zV} {M : zM} {a : Nat} : uX5_dropLast R 20 [some (.inr (.inr a))] st M ↔ uX5_dropLast R 21 [some (.inr (.inr a))] (.inr (.inr a) :: st) M := zU_step dX5_dropLast_20 (Or.inl rfl)
theorem dX5_dropLast_21 : decode cX5_dropLast 21 = .ok (.invokevirtual 32, 3) := by decide +kernel
theorem rX5_dropLast_21 {R : zP} {x0 : Option zV} {st : List zV} {M : zM} {a0 : zV} : uX5_dropLast R 21 [x0] (a0 :: st) M ↔ (st.length ≤ 4 ∧ zcn (zv 5 tX5_look) [a0] M (fun M => uX5_dropLast R 24 [x0] st M)) := Iff.trans (zU_step dX5_dropLast_21 (Or.inl rfl)) ⟨fun h => ⟨h.2.1, zcn_of h.2.2⟩, fun h => ⟨rfl, h.1, zcn_to h.2⟩⟩
theorem dX5_dropLast_24 : decode cX5_dropLast 24 = .ok (.aload_n 0, 1) := by decide +kernel
theorem rX5_dropLast_24 {R : zP} {st : List zV} {M : zM} {a : Nat} : uX5_dropLast R 24 [some (.inr (.inr a))] st M ↔ uX5_dropLast R 25 [some (.inr (.inr a))] (.inr (.inr a) :: st) M := zU_step dX5_dropLast_24 (Or.inl rfl)
theorem dX5_dropLast_25 : decode cX5_dropLast 25 = .ok (.getfield 18, 3) := by decide +kernel
theorem rX5_dropLast_25 {R : zP} {x0 : Option zV} {st : List zV} {M : zM} {r : Nat} : uX5_dropLast R 25 [x0] (.inr (.inr r) :: st) M ↔ zgetx fX5 18 r M (fun v => uX5_dropLast R 28 [x0] (v :: st) M) := zU_step dX5_dropLast_25 (Or.inl rfl)
theorem dX5_dropLast_28 : decode cX5_dropLast 28 = .ok (.ireturn, 1) := by decide +kernel
theorem rX5_dropLast_28 {R : zP} {x0 : Option zV} {M : zM} {a : Int} : uX5_dropLast R 28 [x0] [.inl a] M ↔ R (some (.inl a)) M := Iff.trans (zU_step dX5_dropLast_28 (Or.inl rfl)) ⟨fun h => h.2.2, fun h => ⟨rfl, Or.inl rfl, h⟩⟩
theorem eX5_dropLast {R : zP} {M : zM} {a0 : Nat} : tX5_dropLast [.inr (.inr a0)] M R ↔ uX5_dropLast R 0 [some (.inr (.inr a0))] [] M := ⟨fun h => h.2, fun h => ⟨show 1 ≤ 1 by decide, h⟩⟩
def uX6_add (R : zP) : zK := zU fX6 vX6_add cX6_add R
theorem dX6_add_0 : decode cX6_add 0 = .ok (.aload_n 0, 1) := by decide +kernel
theorem rX6_add_0 {R : zP} {x1 x2 x3 x4 : Option zV} {st : List zV} {M : zM} {a : Nat} : uX6_add R 0 [some (.inr (.inr a)), x1, x2, x3, x4] st M ↔ uX6_add R 1 [some (.inr (.inr a)), x1, x2, x3, x4] (.inr (.inr a) :: st) M := zU_step dX6_add_0 (Or.inl rfl)
theorem dX6_add_1 : decode cX6_add 1 = .ok (.getfield 24, 3) := by decide +kernel
theorem rX6_add_1 {R : zP} {x0 x1 x2 x3 x4 : Option zV} {st : List zV} {M : zM} {r : Nat} : uX6_add R 1 [x0, x1, x2, x3, x4] (.inr (.inr r) :: st) M ↔ zgetx fX6 24 r M (fun v => uX6_add R 4 [x0, x1, x2, x3, x4] (v :: st) M) := zU_step dX6_add_1 (Or.inl rfl)
theorem dX6_add_4 : decode cX6_add 4 = .ok (.bipush 8, 2) := by decide +kernel
theorem rX6_add_4 {R : zP} {x0 x1 x2 x3 x4 : Option zV} {st : List zV} {M : zM} : uX6_add R 4 [x0, x1, x2, x3, x4] st M ↔ uX6_add R 6 [x0, x1, x2, x3, x4] (.inl (8) :: st) M := Iff.trans (zU_step dX6_add_4 (Or.inl rfl)) ⟨fun h => h.2, fun h => ⟨by decide, h⟩⟩
theorem dX6_add_6 : decode cX6_add 6 = .ok (.if_icmp .lt 6, 3) := by decide +kernel
theorem rX6_add_6 {R : zP} {x0 x1 x2 x3 x4 : Option zV} {st : List zV} {M : zM} {a b : Int} : uX6_add R 6 [x0, x1, x2, x3, x4] (.inl b :: .inl a :: st) M ↔ ((zIR a ∧ zIR b) ∧ if a < b then uX6_add R 12 [x0, x1, x2, x3, x4] st M else uX6_add R 9 [x0, x1, x2, x3, x4] st M) := Iff.trans (zU_step dX6_add_6 (Or.inl rfl)) ⟨fun h => ⟨⟨h.1.1, h.1.2.1⟩, (zite (c := a < b)).mpr h.2⟩, fun h => ⟨⟨h.1.1, h.1.2, by decide⟩, (zite (c := a < b)).mp h.2⟩⟩
theorem dX6_add_9 : decode cX6_add 9 = .ok (.bipush (-4), 2) := by decide +kernel
theorem rX6_add_9 {R : zP} {x0 x1 x2 x3 x4 : Option zV} {st : List zV} {M : zM} : uX6_add R 9 [x0, x1, x2, x3, x4] st M ↔ uX6_add R 11 [x0, x1, x2, x3, x4] (.inl (-4) :: st) M := Iff.trans (zU_step dX6_add_9 (Or.inl rfl)) ⟨fun h => h.2, fun h => ⟨by decide, h⟩⟩
theorem dX6_add_11 : decode cX6_add 11 = .ok (.ireturn, 1) := by decide +kernel
theorem rX6_add_11 {R : zP} {x0 x1 x2 x3 x4 : Option zV} {M : zM} {a : Int} : uX6_add R 11 [x0, x1, x2, x3, x4] [.inl a] M ↔ R (some (.inl a)) M := Iff.trans (zU_step dX6_add_11 (Or.inl rfl)) ⟨fun h => h.2.2, fun h => ⟨rfl, Or.inl rfl, h⟩⟩
theorem dX6_add_12 : decode cX6_add 12 = .ok (.aload_n 0, 1) := by decide +kernel
theorem rX6_add_12 {R : zP} {x1 x2 x3 x4 : Option zV} {st : List zV} {M : zM} {a : Nat} : uX6_add R 12 [some (.inr (.inr a)), x1, x2, x3, x4] st M ↔ uX6_add R 13 [some (.inr (.inr a)), x1, x2, x3, x4] (.inr (.inr a) :: st) M := zU_step dX6_add_12 (Or.inl rfl)
theorem dX6_add_13 : decode cX6_add 13 = .ok (.getfield 9, 3) := by decide +kernel
theorem rX6_add_13 {R : zP} {x0 x1 x2 x3 x4 : Option zV} {st : List zV} {M : zM} {r : Nat} : uX6_add R 13 [x0, x1, x2, x3, x4] (.inr (.inr r) :: st) M ↔ zgetx fX6 9 r M (fun v => uX6_add R 16 [x0, x1, x2, x3, x4] (v :: st) M) := zU_step dX6_add_13 (Or.inl rfl)
theorem dX6_add_16 : decode cX6_add 16 = .ok (.aload_n 0, 1) := by decide +kernel
theorem rX6_add_16 {R : zP} {x1 x2 x3 x4 : Option zV} {st : List zV} {M : zM} {a : Nat} : uX6_add R 16 [some (.inr (.inr a)), x1, x2, x3, x4] st M ↔ uX6_add R 17 [some (.inr (.inr a)), x1, x2, x3, x4] (.inr (.inr a) :: st) M := zU_step dX6_add_16 (Or.inl rfl)
theorem dX6_add_17 : decode cX6_add 17 = .ok (.getfield 24, 3) := by decide +kernel
theorem rX6_add_17 {R : zP} {x0 x1 x2 x3 x4 : Option zV} {st : List zV} {M : zM} {r : Nat} : uX6_add R 17 [x0, x1, x2, x3, x4] (.inr (.inr r) :: st) M ↔ zgetx fX6 24 r M (fun v => uX6_add R 20 [x0, x1, x2, x3, x4] (v :: st) M) := zU_step dX6_add_17 (Or.inl rfl)
theorem dX6_add_20 : decode cX6_add 20 = .ok (.iload_n 1, 1) := by decide +kernel
theorem rX6_add_20 {R : zP} {x0 x2 x3 x4 : Option zV} {st : List zV} {M : zM} {a : Int} : uX6_add R 20 [x0, some (.inl a), x2, x3, x4] st M ↔ uX6_add R 21 [x0, some (.inl a), x2, x3, x4] (.inl a :: st) M := zU_step dX6_add_20 (Or.inl rfl)
theorem dX6_add_21 : decode cX6_add 21 = .ok (.iastore, 1) := by decide +kernel
theorem rX6_add_21 {R : zP} {x0 x1 x2 x3 x4 : Option zV} {st : List zV} {M : zM} {i v : Int} {r : Nat} : uX6_add R 21 [x0, x1, x2, x3, x4] (.inl v :: .inl i :: .inr (.inr r) :: st) M ↔ zwrite 0 r i (uX6_add R 22 [x0, x1, x2, x3, x4] st (zup M r i v)) := zU_step dX6_add_21 (Or.inl rfl)
theorem dX6_add_22 : decode cX6_add 22 = .ok (.aload_n 0, 1) := by decide +kernel
theorem rX6_add_22 {R : zP} {x1 x2 x3 x4 : Option zV} {st : List zV} {M : zM} {a : Nat} : uX6_add R 22 [some (.inr (.inr a)), x1, x2, x3, x4] st M ↔ uX6_add R 23 [some (.inr (.inr a)), x1, x2, x3, x4] (.inr (.inr a) :: st) M := zU_step dX6_add_22 (Or.inl rfl)
theorem dX6_add_23 : decode cX6_add 23 = .ok (.getfield 15, 3) := by decide +kernel
theorem rX6_add_23 {R : zP} {x0 x1 x2 x3 x4 : Option zV} {st : List zV} {M : zM} {r : Nat} : uX6_add R 23 [x0, x1, x2, x3, x4] (.inr (.inr r) :: st) M ↔ zgetx fX6 15 r M (fun v => uX6_add R 26 [x0, x1, x2, x3, x4] (v :: st) M) := zU_step dX6_add_23 (Or.inl rfl)
theorem dX6_add_26 : decode cX6_add 26 = .ok (.aload_n 0, 1) := by decide +kernel
theorem rX6_add_26 {R : zP} {x1 x2 x3 x4 : Option zV} {st : List zV} {M : zM} {a : Nat} : uX6_add R 26 [some (.inr (.inr a)), x1, x2, x3, x4] st M ↔ uX6_add R 27 [some (.inr (.inr a)), x1, x2, x3, x4] (.inr (.inr a) :: st) M := zU_step dX6_add_26 (Or.inl rfl)
theorem dX6_add_27 : decode cX6_add 27 = .ok (.getfield 24, 3) := by decide +kernel
theorem rX6_add_27 {R : zP} {x0 x1 x2 x3 x4 : Option zV} {st : List zV} {M : zM} {r : Nat} : uX6_add R 27 [x0, x1, x2, x3, x4] (.inr (.inr r) :: st) M ↔ zgetx fX6 24 r M (fun v => uX6_add R 30 [x0, x1, x2, x3, x4] (v :: st) M) := zU_step dX6_add_27 (Or.inl rfl)
theorem dX6_add_30 : decode cX6_add 30 = .ok (.iload_n 2, 1) := by decide +kernel
theorem rX6_add_30 {R : zP} {x0 x1 x3 x4 : Option zV} {st : List zV} {M : zM} {a : Int} : uX6_add R 30 [x0, x1, some (.inl a), x3, x4] st M ↔ uX6_add R 31 [x0, x1, some (.inl a), x3, x4] (.inl a :: st) M := zU_step dX6_add_30 (Or.inl rfl)
theorem dX6_add_31 : decode cX6_add 31 = .ok (.iastore, 1) := by decide +kernel
theorem rX6_add_31 {R : zP} {x0 x1 x2 x3 x4 : Option zV} {st : List zV} {M : zM} {i v : Int} {r : Nat} : uX6_add R 31 [x0, x1, x2, x3, x4] (.inl v :: .inl i :: .inr (.inr r) :: st) M ↔ zwrite 0 r i (uX6_add R 32 [x0, x1, x2, x3, x4] st (zup M r i v)) := zU_step dX6_add_31 (Or.inl rfl)
theorem dX6_add_32 : decode cX6_add 32 = .ok (.aload_n 0, 1) := by decide +kernel
theorem rX6_add_32 {R : zP} {x1 x2 x3 x4 : Option zV} {st : List zV} {M : zM} {a : Nat} : uX6_add R 32 [some (.inr (.inr a)), x1, x2, x3, x4] st M ↔ uX6_add R 33 [some (.inr (.inr a)), x1, x2, x3, x4] (.inr (.inr a) :: st) M := zU_step dX6_add_32 (Or.inl rfl)
theorem dX6_add_33 : decode cX6_add 33 = .ok (.getfield 18, 3) := by decide +kernel
theorem rX6_add_33 {R : zP} {x0 x1 x2 x3 x4 : Option zV} {st : List zV} {M : zM} {r : Nat} : uX6_add R 33 [x0, x1, x2, x3, x4] (.inr (.inr r) :: st) M ↔ zgetx fX6 18 r M (fun v => uX6_add R 36 [x0, x1, x2, x3, x4] (v :: st) M) := zU_step dX6_add_33 (Or.inl rfl)
theorem dX6_add_36 : decode cX6_add 36 = .ok (.aload_n 0, 1) := by decide +kernel
theorem rX6_add_36 {R : zP} {x1 x2 x3 x4 : Option zV} {st : List zV} {M : zM} {a : Nat} : uX6_add R 36 [some (.inr (.inr a)), x1, x2, x3, x4] st M ↔ uX6_add R 37 [some (.inr (.inr a)), x1, x2, x3, x4] (.inr (.inr a) :: st) M := zU_step dX6_add_36 (Or.inl rfl)
theorem dX6_add_37 : decode cX6_add 37 = .ok (.getfield 24, 3) := by decide +kernel
theorem rX6_add_37 {R : zP} {x0 x1 x2 x3 x4 : Option zV} {st : List zV} {M : zM} {r : Nat} : uX6_add R 37 [x0, x1, x2, x3, x4] (.inr (.inr r) :: st) M ↔ zgetx fX6 24 r M (fun v => uX6_add R 40 [x0, x1, x2, x3, x4] (v :: st) M) := zU_step dX6_add_37 (Or.inl rfl)
theorem dX6_add_40 : decode cX6_add 40 = .ok (.iload_n 3, 1) := by decide +kernel
theorem rX6_add_40 {R : zP} {x0 x1 x2 x4 : Option zV} {st : List zV} {M : zM} {a : Int} : uX6_add R 40 [x0, x1, x2, some (.inl a), x4] st M ↔ uX6_add R 41 [x0, x1, x2, some (.inl a), x4] (.inl a :: st) M := zU_step dX6_add_40 (Or.inl rfl)
theorem dX6_add_41 : decode cX6_add 41 = .ok (.iastore, 1) := by decide +kernel
theorem rX6_add_41 {R : zP} {x0 x1 x2 x3 x4 : Option zV} {st : List zV} {M : zM} {i v : Int} {r : Nat} : uX6_add R 41 [x0, x1, x2, x3, x4] (.inl v :: .inl i :: .inr (.inr r) :: st) M ↔ zwrite 0 r i (uX6_add R 42 [x0, x1, x2, x3, x4] st (zup M r i v)) := zU_step dX6_add_41 (Or.inl rfl)
theorem dX6_add_42 : decode cX6_add 42 = .ok (.aload_n 0, 1) := by decide +kernel
theorem rX6_add_42 {R : zP} {x1 x2 x3 x4 : Option zV} {st : List zV} {M : zM} {a : Nat} : uX6_add R 42 [some (.inr (.inr a)), x1, x2, x3, x4] st M ↔ uX6_add R 43 [some (.inr (.inr a)), x1, x2, x3, x4] (.inr (.inr a) :: st) M := zU_step dX6_add_42 (Or.inl rfl)
theorem dX6_add_43 : decode cX6_add 43 = .ok (.getfield 21, 3) := by decide +kernel
theorem rX6_add_43 {R : zP} {x0 x1 x2 x3 x4 : Option zV} {st : List zV} {M : zM} {r : Nat} : uX6_add R 43 [x0, x1, x2, x3, x4] (.inr (.inr r) :: st) M ↔ zgetx fX6 21 r M (fun v => uX6_add R 46 [x0, x1, x2, x3, x4] (v :: st) M) := zU_step dX6_add_43 (Or.inl rfl)
theorem dX6_add_46 : decode cX6_add 46 = .ok (.aload_n 0, 1) := by decide +kernel
theorem rX6_add_46 {R : zP} {x1 x2 x3 x4 : Option zV} {st : List zV} {M : zM} {a : Nat} : uX6_add R 46 [some (.inr (.inr a)), x1, x2, x3, x4] st M ↔ uX6_add R 47 [some (.inr (.inr a)), x1, x2, x3, x4] (.inr (.inr a) :: st) M := zU_step dX6_add_46 (Or.inl rfl)
theorem dX6_add_47 : decode cX6_add 47 = .ok (.getfield 24, 3) := by decide +kernel
theorem rX6_add_47 {R : zP} {x0 x1 x2 x3 x4 : Option zV} {st : List zV} {M : zM} {r : Nat} : uX6_add R 47 [x0, x1, x2, x3, x4] (.inr (.inr r) :: st) M ↔ zgetx fX6 24 r M (fun v => uX6_add R 50 [x0, x1, x2, x3, x4] (v :: st) M) := zU_step dX6_add_47 (Or.inl rfl)
theorem dX6_add_50 : decode cX6_add 50 = .ok (.iload 4, 2) := by decide +kernel
theorem rX6_add_50 {R : zP} {x0 x1 x2 x3 : Option zV} {st : List zV} {M : zM} {a : Int} : uX6_add R 50 [x0, x1, x2, x3, some (.inl a)] st M ↔ uX6_add R 52 [x0, x1, x2, x3, some (.inl a)] (.inl a :: st) M := zU_step dX6_add_50 (Or.inl rfl)
theorem dX6_add_52 : decode cX6_add 52 = .ok (.iastore, 1) := by decide +kernel
theorem rX6_add_52 {R : zP} {x0 x1 x2 x3 x4 : Option zV} {st : List zV} {M : zM} {i v : Int} {r : Nat} : uX6_add R 52 [x0, x1, x2, x3, x4] (.inl v :: .inl i :: .inr (.inr r) :: st) M ↔ zwrite 0 r i (uX6_add R 53 [x0, x1, x2, x3, x4] st (zup M r i v)) := zU_step dX6_add_52 (Or.inl rfl)
theorem dX6_add_53 : decode cX6_add 53 = .ok (.aload_n 0, 1) := by decide +kernel
theorem rX6_add_53 {R : zP} {x1 x2 x3 x4 : Option zV} {st : List zV} {M : zM} {a : Nat} : uX6_add R 53 [some (.inr (.inr a)), x1, x2, x3, x4] st M ↔ uX6_add R 54 [some (.inr (.inr a)), x1, x2, x3, x4] (.inr (.inr a) :: st) M := zU_step dX6_add_53 (Or.inl rfl)
theorem dX6_add_54 : decode cX6_add 54 = .ok (.dup, 1) := by decide +kernel
theorem rX6_add_54 {R : zP} {x0 x1 x2 x3 x4 : Option zV} {st : List zV} {M : zM} {a : Nat} : uX6_add R 54 [x0, x1, x2, x3, x4] (.inr (.inr a) :: st) M ↔ uX6_add R 55 [x0, x1, x2, x3, x4] (.inr (.inr a) :: .inr (.inr a) :: st) M := zU_step dX6_add_54 (Or.inl rfl)
theorem dX6_add_55 : decode cX6_add 55 = .ok (.getfield 24, 3) := by decide +kernel
theorem rX6_add_55 {R : zP} {x0 x1 x2 x3 x4 : Option zV} {st : List zV} {M : zM} {r : Nat} : uX6_add R 55 [x0, x1, x2, x3, x4] (.inr (.inr r) :: st) M ↔ zgetx fX6 24 r M (fun v => uX6_add R 58 [x0, x1, x2, x3, x4] (v :: st) M) := zU_step dX6_add_55 (Or.inl rfl)
theorem dX6_add_58 : decode cX6_add 58 = .ok (.iconst 1, 1) := by decide +kernel
theorem rX6_add_58 {R : zP} {x0 x1 x2 x3 x4 : Option zV} {st : List zV} {M : zM} : uX6_add R 58 [x0, x1, x2, x3, x4] st M ↔ uX6_add R 59 [x0, x1, x2, x3, x4] (.inl (1) :: st) M := zU_step dX6_add_58 (Or.inl rfl)
theorem dX6_add_59 : decode cX6_add 59 = .ok (.iadd, 1) := by decide +kernel
theorem rX6_add_59 {R : zP} {x0 x1 x2 x3 x4 : Option zV} {st : List zV} {M : zM} {a b : Int} : uX6_add R 59 [x0, x1, x2, x3, x4] (.inl b :: .inl a :: st) M ↔ uX6_add R 60 [x0, x1, x2, x3, x4] (.inl (a + b) :: st) M := zU_step dX6_add_59 (Or.inl rfl)
theorem dX6_add_60 : decode cX6_add 60 = .ok (.putfield 24, 3) := by decide +kernel
theorem rX6_add_60 {R : zP} {x0 x1 x2 x3 x4 : Option zV} {st : List zV} {M : zM} {r : Nat} {v : zV} : uX6_add R 60 [x0, x1, x2, x3, x4] (v :: .inr (.inr r) :: st) M ↔ zputx fX6 24 r M v (fun M => uX6_add R 63 [x0, x1, x2, x3, x4] st M) := zU_step dX6_add_60 (Or.inl rfl)
theorem dX6_add_63 : decode cX6_add 63 = .ok (.aload_n 0, 1) := by decide +kernel
theorem rX6_add_63 {R : zP} {x1 x2 x3 x4 : Option zV} {st : List zV} {M : zM} {a : Nat} : uX6_add R 63 [some (.inr (.inr a)), x1, x2, x3, x4] st M ↔ uX6_add R 64 [some (.inr (.inr a)), x1, x2, x3, x4] (.inr (.inr a) :: st) M := zU_step dX6_add_63 (Or.inl rfl)
theorem dX6_add_64 : decode cX6_add 64 = .ok (.getfield 24, 3) := by decide +kernel
theorem rX6_add_64 {R : zP} {x0 x1 x2 x3 x4 : Option zV} {st : List zV} {M : zM} {r : Nat} : uX6_add R 64 [x0, x1, x2, x3, x4] (.inr (.inr r) :: st) M ↔ zgetx fX6 24 r M (fun v => uX6_add R 67 [x0, x1, x2, x3, x4] (v :: st) M) := zU_step dX6_add_64 (Or.inl rfl)
theorem dX6_add_67 : decode cX6_add 67 = .ok (.ireturn, 1) := by decide +kernel
theorem rX6_add_67 {R : zP} {x0 x1 x2 x3 x4 : Option zV} {M : zM} {a : Int} : uX6_add R 67 [x0, x1, x2, x3, x4] [.inl a] M ↔ R (some (.inl a)) M := Iff.trans (zU_step dX6_add_67 (Or.inl rfl)) ⟨fun h => h.2.2, fun h => ⟨rfl, Or.inl rfl, h⟩⟩
theorem eX6_add {R : zP} {M : zM} {a0 : Nat} {p0 : Int} {p1 : Int} {p2 : Int} {p3 : Int} : tX6_add [.inr (.inr a0), .inl p0, .inl p1, .inl p2, .inl p3] M R ↔ uX6_add R 0 [some (.inr (.inr a0)), some (.inl p0), some (.inl p1), some (.inl p2), some (.inl p3)] [] M := ⟨fun h => h.2, fun h => ⟨show 5 ≤ 5 by decide, h⟩⟩
def uX6_clear (R : zP) : zK := zU fX6 vX6_clear cX6_clear R
theorem dX6_clear_0 : decode cX6_clear 0 = .ok (.aload_n 0, 1) := by decide +kernel
theorem rX6_clear_0 {R : zP} {x1 : Option zV} {st : List zV} {M : zM} {a : Nat} : uX6_clear R 0 [some (.inr (.inr a)), x1] st M ↔ uX6_clear R 1 [some (.inr (.inr a)), x1] (.inr (.inr a) :: st) M := zU_step dX6_clear_0 (Or.inl rfl)
theorem dX6_clear_1 : decode cX6_clear 1 = .ok (.getfield 24, 3) := by decide +kernel
theorem rX6_clear_1 {R : zP} {x0 x1 : Option zV} {st : List zV} {M : zM} {r : Nat} : uX6_clear R 1 [x0, x1] (.inr (.inr r) :: st) M ↔ zgetx fX6 24 r M (fun v => uX6_clear R 4 [x0, x1] (v :: st) M) := zU_step dX6_clear_1 (Or.inl rfl)
theorem dX6_clear_4 : decode cX6_clear 4 = .ok (.istore_n 1, 1) := by decide +kernel
theorem rX6_clear_4 {R : zP} {x1 : Option zV} {st : List zV} {M : zM} {a : Int} {y : Nat} : uX6_clear R 4 [some (.inr (.inr y)), x1] (.inl a :: st) M ↔ uX6_clear R 5 [some (.inr (.inr y)), some (.inl a)] st M := Iff.trans (zU_step dX6_clear_4 (Or.inl rfl)) ⟨fun h => h.2, fun h => ⟨show 1 < 2 by decide, h⟩⟩
theorem rX6_clear_4z {R : zP} {x0 x1 : Option zV} {st : List zV} {M : zM} {a : Int} : uX6_clear R 4 [x0, x1] (.inl a :: st) M ↔ uX6_clear R 5 [zkeep x0, some (.inl a)] st M := Iff.trans (zU_step dX6_clear_4 (Or.inl rfl)) ⟨fun h => h.2, fun h => ⟨show 1 < 2 by decide, h⟩⟩
theorem dX6_clear_5 : decode cX6_clear 5 = .ok (.aload_n 0, 1) := by decide +kernel
theorem rX6_clear_5 {R : zP} {x1 : Option zV} {st : List zV} {M : zM} {a : Nat} : uX6_clear R 5 [some (.inr (.inr a)), x1] st M ↔ uX6_clear R 6 [some (.inr (.inr a)), x1] (.inr (.inr a) :: st) M := zU_step dX6_clear_5 (Or.inl rfl)
theorem dX6_clear_6 : decode cX6_clear 6 = .ok (.iconst 0, 1) := by decide +kernel
theorem rX6_clear_6 {R : zP} {x0 x1 : Option zV} {st : List zV} {M : zM} : uX6_clear R 6 [x0, x1] st M ↔ uX6_clear R 7 [x0, x1] (.inl (0) :: st) M := zU_step dX6_clear_6 (Or.inl rfl)
theorem dX6_clear_7 : decode cX6_clear 7 = .ok (.putfield 24, 3) := by decide +kernel
theorem rX6_clear_7 {R : zP} {x0 x1 : Option zV} {st : List zV} {M : zM} {r : Nat} {v : zV} : uX6_clear R 7 [x0, x1] (v :: .inr (.inr r) :: st) M ↔ zputx fX6 24 r M v (fun M => uX6_clear R 10 [x0, x1] st M) := zU_step dX6_clear_7 (Or.inl rfl)
theorem dX6_clear_10 : decode cX6_clear 10 = .ok (.iload_n 1, 1) := by decide +kernel
theorem rX6_clear_10 {R : zP} {x0 : Option zV} {st : List zV} {M : zM} {a : Int} : uX6_clear R 10 [x0, some (.inl a)] st M ↔ uX6_clear R 11 [x0, some (.inl a)] (.inl a :: st) M := zU_step dX6_clear_10 (Or.inl rfl)
theorem dX6_clear_11 : decode cX6_clear 11 = .ok (.ireturn, 1) := by decide +kernel
theorem rX6_clear_11 {R : zP} {x0 x1 : Option zV} {M : zM} {a : Int} : uX6_clear R 11 [x0, x1] [.inl a] M ↔ R (some (.inl a)) M := Iff.trans (zU_step dX6_clear_11 (Or.inl rfl)) ⟨fun h => h.2.2, fun h => ⟨rfl, Or.inl rfl, h⟩⟩
theorem eX6_clear {R : zP} {M : zM} {a0 : Nat} : tX6_clear [.inr (.inr a0)] M R ↔ uX6_clear R 0 [some (.inr (.inr a0)), none] [] M := ⟨fun h => h.2, fun h => ⟨show 1 ≤ 2 by decide, h⟩⟩
def uX6_tellOf (R : zP) : zK := zU fX6 vX6_tellOf cX6_tellOf R
theorem dX6_tellOf_0 : decode cX6_tellOf 0 = .ok (.iconst 0, 1) := by decide +kernel
theorem rX6_tellOf_0 {R : zP} {x0 x1 x2 : Option zV} {st : List zV} {M : zM} : uX6_tellOf R 0 [x0, x1, x2] st M ↔ uX6_tellOf R 1 [x0, x1, x2] (.inl (0) :: st) M := zU_step dX6_tellOf_0 (Or.inl rfl)
theorem dX6_tellOf_1 : decode cX6_tellOf 1 = .ok (.istore_n 2, 1) := by decide +kernel
theorem rX6_tellOf_1 {R : zP} {x0 x2 : Option zV} {st : List zV} {M : zM} {a : Int} {y : Int} : uX6_tellOf R 1 [x0, some (.inl y), x2] (.inl a :: st) M ↔ uX6_tellOf R 2 [x0, some (.inl y), some (.inl a)] st M := Iff.trans (zU_step dX6_tellOf_1 (Or.inl rfl)) ⟨fun h => h.2, fun h => ⟨show 2 < 3 by decide, h⟩⟩
theorem rX6_tellOf_1z {R : zP} {x0 x1 x2 : Option zV} {st : List zV} {M : zM} {a : Int} : uX6_tellOf R 1 [x0, x1, x2] (.inl a :: st) M ↔ uX6_tellOf R 2 [x0, zkeep x1, some (.inl a)] st M := Iff.trans (zU_step dX6_tellOf_1 (Or.inl rfl)) ⟨fun h => h.2, fun h => ⟨show 2 < 3 by decide, h⟩⟩
theorem dX6_tellOf_2 : decode cX6_tellOf 2 = .ok (.iload_n 2, 1) := by decide +kernel
theorem rX6_tellOf_2 {R : zP} {x0 x1 : Option zV} {st : List zV} {M : zM} {a : Int} : uX6_tellOf R 2 [x0, x1, some (.inl a)] st M ↔ uX6_tellOf R 3 [x0, x1, some (.inl a)] (.inl a :: st) M := zU_step dX6_tellOf_2 (Or.inl rfl)
theorem dX6_tellOf_3 : decode cX6_tellOf 3 = .ok (.aload_n 0, 1) := by decide +kernel
theorem rX6_tellOf_3 {R : zP} {x1 x2 : Option zV} {st : List zV} {M : zM} {a : Nat} : uX6_tellOf R 3 [some (.inr (.inr a)), x1, x2] st M ↔ uX6_tellOf R 4 [some (.inr (.inr a)), x1, x2] (.inr (.inr a) :: st) M := zU_step dX6_tellOf_3 (Or.inl rfl)
theorem dX6_tellOf_4 : decode cX6_tellOf 4 = .ok (.getfield 24, 3) := by decide +kernel
theorem rX6_tellOf_4 {R : zP} {x0 x1 x2 : Option zV} {st : List zV} {M : zM} {r : Nat} : uX6_tellOf R 4 [x0, x1, x2] (.inr (.inr r) :: st) M ↔ zgetx fX6 24 r M (fun v => uX6_tellOf R 7 [x0, x1, x2] (v :: st) M) := zU_step dX6_tellOf_4 (Or.inl rfl)
theorem dX6_tellOf_7 : decode cX6_tellOf 7 = .ok (.if_icmp .ge 21, 3) := by decide +kernel
theorem rX6_tellOf_7 {R : zP} {x0 x1 x2 : Option zV} {st : List zV} {M : zM} {a b : Int} : uX6_tellOf R 7 [x0, x1, x2] (.inl b :: .inl a :: st) M ↔ ((zIR a ∧ zIR b) ∧ if b ≤ a then uX6_tellOf R 28 [x0, x1, x2] st M else uX6_tellOf R 10 [x0, x1, x2] st M) := Iff.trans (zU_step dX6_tellOf_7 (Or.inl rfl)) ⟨fun h => ⟨⟨h.1.1, h.1.2.1⟩, (zite (c := b ≤ a)).mpr h.2⟩, fun h => ⟨⟨h.1.1, h.1.2, by decide⟩, (zite (c := b ≤ a)).mp h.2⟩⟩
theorem dX6_tellOf_10 : decode cX6_tellOf 10 = .ok (.aload_n 0, 1) := by decide +kernel
theorem rX6_tellOf_10 {R : zP} {x1 x2 : Option zV} {st : List zV} {M : zM} {a : Nat} : uX6_tellOf R 10 [some (.inr (.inr a)), x1, x2] st M ↔ uX6_tellOf R 11 [some (.inr (.inr a)), x1, x2] (.inr (.inr a) :: st) M := zU_step dX6_tellOf_10 (Or.inl rfl)
theorem dX6_tellOf_11 : decode cX6_tellOf 11 = .ok (.getfield 15, 3) := by decide +kernel
theorem rX6_tellOf_11 {R : zP} {x0 x1 x2 : Option zV} {st : List zV} {M : zM} {r : Nat} : uX6_tellOf R 11 [x0, x1, x2] (.inr (.inr r) :: st) M ↔ zgetx fX6 15 r M (fun v => uX6_tellOf R 14 [x0, x1, x2] (v :: st) M) := zU_step dX6_tellOf_11 (Or.inl rfl)
theorem dX6_tellOf_14 : decode cX6_tellOf 14 = .ok (.iload_n 2, 1) := by decide +kernel
theorem rX6_tellOf_14 {R : zP} {x0 x1 : Option zV} {st : List zV} {M : zM} {a : Int} : uX6_tellOf R 14 [x0, x1, some (.inl a)] st M ↔ uX6_tellOf R 15 [x0, x1, some (.inl a)] (.inl a :: st) M := zU_step dX6_tellOf_14 (Or.inl rfl)
theorem dX6_tellOf_15 : decode cX6_tellOf 15 = .ok (.iaload, 1) := by decide +kernel
theorem rX6_tellOf_15 {R : zP} {x0 x1 x2 : Option zV} {st : List zV} {M : zM} {i : Int} {r : Nat} : uX6_tellOf R 15 [x0, x1, x2] (.inl i :: .inr (.inr r) :: st) M ↔ zread fX6 0 r M i (fun v => uX6_tellOf R 16 [x0, x1, x2] (.inl v :: st) M) := zU_step dX6_tellOf_15 (Or.inl rfl)
theorem dX6_tellOf_16 : decode cX6_tellOf 16 = .ok (.iload_n 1, 1) := by decide +kernel
theorem rX6_tellOf_16 {R : zP} {x0 x2 : Option zV} {st : List zV} {M : zM} {a : Int} : uX6_tellOf R 16 [x0, some (.inl a), x2] st M ↔ uX6_tellOf R 17 [x0, some (.inl a), x2] (.inl a :: st) M := zU_step dX6_tellOf_16 (Or.inl rfl)
theorem dX6_tellOf_17 : decode cX6_tellOf 17 = .ok (.if_icmp .ne 5, 3) := by decide +kernel
theorem rX6_tellOf_17 {R : zP} {x0 x1 x2 : Option zV} {st : List zV} {M : zM} {a b : Int} : uX6_tellOf R 17 [x0, x1, x2] (.inl b :: .inl a :: st) M ↔ ((zIR a ∧ zIR b) ∧ if a ≠ b then uX6_tellOf R 22 [x0, x1, x2] st M else uX6_tellOf R 20 [x0, x1, x2] st M) := Iff.trans (zU_step dX6_tellOf_17 (Or.inl rfl)) ⟨fun h => ⟨⟨h.1.1, h.1.2.1⟩, (zite (c := a ≠ b)).mpr h.2⟩, fun h => ⟨⟨h.1.1, h.1.2, by decide⟩, (zite (c := a ≠ b)).mp h.2⟩⟩
theorem dX6_tellOf_20 : decode cX6_tellOf 20 = .ok (.iconst 1, 1) := by decide +kernel
theorem rX6_tellOf_20 {R : zP} {x0 x1 x2 : Option zV} {st : List zV} {M : zM} : uX6_tellOf R 20 [x0, x1, x2] st M ↔ uX6_tellOf R 21 [x0, x1, x2] (.inl (1) :: st) M := zU_step dX6_tellOf_20 (Or.inl rfl)
theorem dX6_tellOf_21 : decode cX6_tellOf 21 = .ok (.ireturn, 1) := by decide +kernel
theorem rX6_tellOf_21 {R : zP} {x0 x1 x2 : Option zV} {M : zM} {a : Int} : uX6_tellOf R 21 [x0, x1, x2] [.inl a] M ↔ ((a = 0 ∨ a = 1) ∧ R (some (.inl a)) M) := Iff.trans (zU_step dX6_tellOf_21 (Or.inl rfl)) ⟨fun h => ⟨zret2 rfl h.2.1, h.2.2⟩, fun h => ⟨rfl, Or.inr (Or.inl ⟨rfl, h.1⟩), h.2⟩⟩
theorem dX6_tellOf_22 : decode cX6_tellOf 22 = .ok (.iinc 2 1, 3) := by decide +kernel
theorem rX6_tellOf_22 {R : zP} {x0 : Option zV} {st : List zV} {M : zM} {a : Int} {y : Int} : uX6_tellOf R 22 [x0, some (.inl y), some (.inl a)] st M ↔ uX6_tellOf R 25 [x0, some (.inl y), some (.inl (a + (1)))] st M := Iff.trans (zU_step dX6_tellOf_22 (Or.inl rfl)) ⟨fun h => h.2, fun h => ⟨show 2 < 3 by decide, h⟩⟩
theorem rX6_tellOf_22z {R : zP} {x0 x1 : Option zV} {st : List zV} {M : zM} {a : Int} : uX6_tellOf R 22 [x0, x1, some (.inl a)] st M ↔ uX6_tellOf R 25 [x0, zkeep x1, some (.inl (a + (1)))] st M := Iff.trans (zU_step dX6_tellOf_22 (Or.inl rfl)) ⟨fun h => h.2, fun h => ⟨show 2 < 3 by decide, h⟩⟩
theorem dX6_tellOf_25 : decode cX6_tellOf 25 = .ok (.goto (-23), 3) := by decide +kernel
theorem rX6_tellOf_25 {R : zP} {x0 x1 x2 : Option zV} {st : List zV} {M : zM} : uX6_tellOf R 25 [x0, x1, x2] st M ↔ uX6_tellOf R 2 [x0, x1, x2] st M := Iff.trans (zU_step dX6_tellOf_25 (Or.inl rfl)) ⟨fun h => h.2, fun h => ⟨by decide, h⟩⟩
theorem dX6_tellOf_28 : decode cX6_tellOf 28 = .ok (.iconst 0, 1) := by decide +kernel
theorem rX6_tellOf_28 {R : zP} {x0 x1 x2 : Option zV} {st : List zV} {M : zM} : uX6_tellOf R 28 [x0, x1, x2] st M ↔ uX6_tellOf R 29 [x0, x1, x2] (.inl (0) :: st) M := zU_step dX6_tellOf_28 (Or.inl rfl)
theorem dX6_tellOf_29 : decode cX6_tellOf 29 = .ok (.ireturn, 1) := by decide +kernel
theorem rX6_tellOf_29 {R : zP} {x0 x1 x2 : Option zV} {M : zM} {a : Int} : uX6_tellOf R 29 [x0, x1, x2] [.inl a] M ↔ ((a = 0 ∨ a = 1) ∧ R (some (.inl a)) M) := Iff.trans (zU_step dX6_tellOf_29 (Or.inl rfl)) ⟨fun h => ⟨zret2 rfl h.2.1, h.2.2⟩, fun h => ⟨rfl, Or.inr (Or.inl ⟨rfl, h.1⟩), h.2⟩⟩
theorem eX6_tellOf {R : zP} {M : zM} {a0 : Nat} {p0 : Int} : tX6_tellOf [.inr (.inr a0), .inl p0] M R ↔ uX6_tellOf R 0 [some (.inr (.inr a0)), some (.inl p0), none] [] M := ⟨fun h => h.2, fun h => ⟨show 2 ≤ 3 by decide, h⟩⟩
def uX6_agree (R : zP) : zK := zU fX6 vX6_agree cX6_agree R
theorem dX6_agree_0 : decode cX6_agree 0 = .ok (.iconst 0, 1) := by decide +kernel
theorem rX6_agree_0 {R : zP} {x0 x1 x2 x3 : Option zV} {st : List zV} {M : zM} : uX6_agree R 0 [x0, x1, x2, x3] st M ↔ uX6_agree R 1 [x0, x1, x2, x3] (.inl (0) :: st) M := zU_step dX6_agree_0 (Or.inl rfl)
theorem dX6_agree_1 : decode cX6_agree 1 = .ok (.istore_n 3, 1) := by decide +kernel
theorem rX6_agree_1 {R : zP} {x0 x1 x3 : Option zV} {st : List zV} {M : zM} {a : Int} {y : Nat} : uX6_agree R 1 [x0, x1, some (.inr (.inr y)), x3] (.inl a :: st) M ↔ uX6_agree R 2 [x0, x1, some (.inr (.inr y)), some (.inl a)] st M := Iff.trans (zU_step dX6_agree_1 (Or.inl rfl)) ⟨fun h => h.2, fun h => ⟨show 3 < 4 by decide, h⟩⟩
theorem rX6_agree_1z {R : zP} {x0 x1 x2 x3 : Option zV} {st : List zV} {M : zM} {a : Int} : uX6_agree R 1 [x0, x1, x2, x3] (.inl a :: st) M ↔ uX6_agree R 2 [x0, x1, zkeep x2, some (.inl a)] st M := Iff.trans (zU_step dX6_agree_1 (Or.inl rfl)) ⟨fun h => h.2, fun h => ⟨show 3 < 4 by decide, h⟩⟩
theorem dX6_agree_2 : decode cX6_agree 2 = .ok (.iload_n 3, 1) := by decide +kernel
theorem rX6_agree_2 {R : zP} {x0 x1 x2 : Option zV} {st : List zV} {M : zM} {a : Int} : uX6_agree R 2 [x0, x1, x2, some (.inl a)] st M ↔ uX6_agree R 3 [x0, x1, x2, some (.inl a)] (.inl a :: st) M := zU_step dX6_agree_2 (Or.inl rfl)
theorem dX6_agree_3 : decode cX6_agree 3 = .ok (.aload_n 0, 1) := by decide +kernel
theorem rX6_agree_3 {R : zP} {x1 x2 x3 : Option zV} {st : List zV} {M : zM} {a : Nat} : uX6_agree R 3 [some (.inr (.inr a)), x1, x2, x3] st M ↔ uX6_agree R 4 [some (.inr (.inr a)), x1, x2, x3] (.inr (.inr a) :: st) M := zU_step dX6_agree_3 (Or.inl rfl)
theorem dX6_agree_4 : decode cX6_agree 4 = .ok (.getfield 24, 3) := by decide +kernel
theorem rX6_agree_4 {R : zP} {x0 x1 x2 x3 : Option zV} {st : List zV} {M : zM} {r : Nat} : uX6_agree R 4 [x0, x1, x2, x3] (.inr (.inr r) :: st) M ↔ zgetx fX6 24 r M (fun v => uX6_agree R 7 [x0, x1, x2, x3] (v :: st) M) := zU_step dX6_agree_4 (Or.inl rfl)
theorem dX6_agree_7 : decode cX6_agree 7 = .ok (.if_icmp .ge 47, 3) := by decide +kernel
theorem rX6_agree_7 {R : zP} {x0 x1 x2 x3 : Option zV} {st : List zV} {M : zM} {a b : Int} : uX6_agree R 7 [x0, x1, x2, x3] (.inl b :: .inl a :: st) M ↔ ((zIR a ∧ zIR b) ∧ if b ≤ a then uX6_agree R 54 [x0, x1, x2, x3] st M else uX6_agree R 10 [x0, x1, x2, x3] st M) := Iff.trans (zU_step dX6_agree_7 (Or.inl rfl)) ⟨fun h => ⟨⟨h.1.1, h.1.2.1⟩, (zite (c := b ≤ a)).mpr h.2⟩, fun h => ⟨⟨h.1.1, h.1.2, by decide⟩, (zite (c := b ≤ a)).mp h.2⟩⟩
theorem dX6_agree_10 : decode cX6_agree 10 = .ok (.aload_n 0, 1) := by decide +kernel
theorem rX6_agree_10 {R : zP} {x1 x2 x3 : Option zV} {st : List zV} {M : zM} {a : Nat} : uX6_agree R 10 [some (.inr (.inr a)), x1, x2, x3] st M ↔ uX6_agree R 11 [some (.inr (.inr a)), x1, x2, x3] (.inr (.inr a) :: st) M := zU_step dX6_agree_10 (Or.inl rfl)
theorem dX6_agree_11 : decode cX6_agree 11 = .ok (.getfield 15, 3) := by decide +kernel
theorem rX6_agree_11 {R : zP} {x0 x1 x2 x3 : Option zV} {st : List zV} {M : zM} {r : Nat} : uX6_agree R 11 [x0, x1, x2, x3] (.inr (.inr r) :: st) M ↔ zgetx fX6 15 r M (fun v => uX6_agree R 14 [x0, x1, x2, x3] (v :: st) M) := zU_step dX6_agree_11 (Or.inl rfl)
theorem dX6_agree_14 : decode cX6_agree 14 = .ok (.iload_n 3, 1) := by decide +kernel
theorem rX6_agree_14 {R : zP} {x0 x1 x2 : Option zV} {st : List zV} {M : zM} {a : Int} : uX6_agree R 14 [x0, x1, x2, some (.inl a)] st M ↔ uX6_agree R 15 [x0, x1, x2, some (.inl a)] (.inl a :: st) M := zU_step dX6_agree_14 (Or.inl rfl)
theorem dX6_agree_15 : decode cX6_agree 15 = .ok (.iaload, 1) := by decide +kernel
theorem rX6_agree_15 {R : zP} {x0 x1 x2 x3 : Option zV} {st : List zV} {M : zM} {i : Int} {r : Nat} : uX6_agree R 15 [x0, x1, x2, x3] (.inl i :: .inr (.inr r) :: st) M ↔ zread fX6 0 r M i (fun v => uX6_agree R 16 [x0, x1, x2, x3] (.inl v :: st) M) := zU_step dX6_agree_15 (Or.inl rfl)
theorem dX6_agree_16 : decode cX6_agree 16 = .ok (.iload_n 1, 1) := by decide +kernel
theorem rX6_agree_16 {R : zP} {x0 x2 x3 : Option zV} {st : List zV} {M : zM} {a : Int} : uX6_agree R 16 [x0, some (.inl a), x2, x3] st M ↔ uX6_agree R 17 [x0, some (.inl a), x2, x3] (.inl a :: st) M := zU_step dX6_agree_16 (Or.inl rfl)
theorem dX6_agree_17 : decode cX6_agree 17 = .ok (.if_icmp .ne 31, 3) := by decide +kernel
theorem rX6_agree_17 {R : zP} {x0 x1 x2 x3 : Option zV} {st : List zV} {M : zM} {a b : Int} : uX6_agree R 17 [x0, x1, x2, x3] (.inl b :: .inl a :: st) M ↔ ((zIR a ∧ zIR b) ∧ if a ≠ b then uX6_agree R 48 [x0, x1, x2, x3] st M else uX6_agree R 20 [x0, x1, x2, x3] st M) := Iff.trans (zU_step dX6_agree_17 (Or.inl rfl)) ⟨fun h => ⟨⟨h.1.1, h.1.2.1⟩, (zite (c := a ≠ b)).mpr h.2⟩, fun h => ⟨⟨h.1.1, h.1.2, by decide⟩, (zite (c := a ≠ b)).mp h.2⟩⟩
theorem dX6_agree_20 : decode cX6_agree 20 = .ok (.aload_n 2, 1) := by decide +kernel
theorem rX6_agree_20 {R : zP} {x0 x1 x3 : Option zV} {st : List zV} {M : zM} {a : Nat} : uX6_agree R 20 [x0, x1, some (.inr (.inr a)), x3] st M ↔ uX6_agree R 21 [x0, x1, some (.inr (.inr a)), x3] (.inr (.inr a) :: st) M := zU_step dX6_agree_20 (Or.inl rfl)
theorem dX6_agree_21 : decode cX6_agree 21 = .ok (.aload_n 0, 1) := by decide +kernel
theorem rX6_agree_21 {R : zP} {x1 x2 x3 : Option zV} {st : List zV} {M : zM} {a : Nat} : uX6_agree R 21 [some (.inr (.inr a)), x1, x2, x3] st M ↔ uX6_agree R 22 [some (.inr (.inr a)), x1, x2, x3] (.inr (.inr a) :: st) M := zU_step dX6_agree_21 (Or.inl rfl)
theorem dX6_agree_22 : decode cX6_agree 22 = .ok (.getfield 9, 3) := by decide +kernel
theorem rX6_agree_22 {R : zP} {x0 x1 x2 x3 : Option zV} {st : List zV} {M : zM} {r : Nat} : uX6_agree R 22 [x0, x1, x2, x3] (.inr (.inr r) :: st) M ↔ zgetx fX6 9 r M (fun v => uX6_agree R 25 [x0, x1, x2, x3] (v :: st) M) := zU_step dX6_agree_22 (Or.inl rfl)
theorem dX6_agree_25 : decode cX6_agree 25 = .ok (.iload_n 3, 1) := by decide +kernel
theorem rX6_agree_25 {R : zP} {x0 x1 x2 : Option zV} {st : List zV} {M : zM} {a : Int} : uX6_agree R 25 [x0, x1, x2, some (.inl a)] st M ↔ uX6_agree R 26 [x0, x1, x2, some (.inl a)] (.inl a :: st) M := zU_step dX6_agree_25 (Or.inl rfl)
theorem dX6_agree_26 : decode cX6_agree 26 = .ok (.iaload, 1) := by decide +kernel
theorem rX6_agree_26 {R : zP} {x0 x1 x2 x3 : Option zV} {st : List zV} {M : zM} {i : Int} {r : Nat} : uX6_agree R 26 [x0, x1, x2, x3] (.inl i :: .inr (.inr r) :: st) M ↔ zread fX6 0 r M i (fun v => uX6_agree R 27 [x0, x1, x2, x3] (.inl v :: st) M) := zU_step dX6_agree_26 (Or.inl rfl)
theorem dX6_agree_27 : decode cX6_agree 27 = .ok (.iconst 4, 1) := by decide +kernel
theorem rX6_agree_27 {R : zP} {x0 x1 x2 x3 : Option zV} {st : List zV} {M : zM} : uX6_agree R 27 [x0, x1, x2, x3] st M ↔ uX6_agree R 28 [x0, x1, x2, x3] (.inl (4) :: st) M := zU_step dX6_agree_27 (Or.inl rfl)
theorem dX6_agree_28 : decode cX6_agree 28 = .ok (.imul, 1) := by decide +kernel
theorem rX6_agree_28 {R : zP} {x0 x1 x2 x3 : Option zV} {st : List zV} {M : zM} {a b : Int} : uX6_agree R 28 [x0, x1, x2, x3] (.inl b :: .inl a :: st) M ↔ uX6_agree R 29 [x0, x1, x2, x3] (.inl (a * b) :: st) M := zU_step dX6_agree_28 (Or.inl rfl)
theorem dX6_agree_29 : decode cX6_agree 29 = .ok (.aload_n 0, 1) := by decide +kernel
theorem rX6_agree_29 {R : zP} {x1 x2 x3 : Option zV} {st : List zV} {M : zM} {a : Nat} : uX6_agree R 29 [some (.inr (.inr a)), x1, x2, x3] st M ↔ uX6_agree R 30 [some (.inr (.inr a)), x1, x2, x3] (.inr (.inr a) :: st) M := zU_step dX6_agree_29 (Or.inl rfl)
theorem dX6_agree_30 : decode cX6_agree 30 = .ok (.getfield 18, 3) := by decide +kernel
theorem rX6_agree_30 {R : zP} {x0 x1 x2 x3 : Option zV} {st : List zV} {M : zM} {r : Nat} : uX6_agree R 30 [x0, x1, x2, x3] (.inr (.inr r) :: st) M ↔ zgetx fX6 18 r M (fun v => uX6_agree R 33 [x0, x1, x2, x3] (v :: st) M) := zU_step dX6_agree_30 (Or.inl rfl)
theorem dX6_agree_33 : decode cX6_agree 33 = .ok (.iload_n 3, 1) := by decide +kernel
theorem rX6_agree_33 {R : zP} {x0 x1 x2 : Option zV} {st : List zV} {M : zM} {a : Int} : uX6_agree R 33 [x0, x1, x2, some (.inl a)] st M ↔ uX6_agree R 34 [x0, x1, x2, some (.inl a)] (.inl a :: st) M := zU_step dX6_agree_33 (Or.inl rfl)
theorem dX6_agree_34 : decode cX6_agree 34 = .ok (.iaload, 1) := by decide +kernel
theorem rX6_agree_34 {R : zP} {x0 x1 x2 x3 : Option zV} {st : List zV} {M : zM} {i : Int} {r : Nat} : uX6_agree R 34 [x0, x1, x2, x3] (.inl i :: .inr (.inr r) :: st) M ↔ zread fX6 0 r M i (fun v => uX6_agree R 35 [x0, x1, x2, x3] (.inl v :: st) M) := zU_step dX6_agree_34 (Or.inl rfl)
theorem dX6_agree_35 : decode cX6_agree 35 = .ok (.iadd, 1) := by decide +kernel
theorem rX6_agree_35 {R : zP} {x0 x1 x2 x3 : Option zV} {st : List zV} {M : zM} {a b : Int} : uX6_agree R 35 [x0, x1, x2, x3] (.inl b :: .inl a :: st) M ↔ uX6_agree R 36 [x0, x1, x2, x3] (.inl (a + b) :: st) M := zU_step dX6_agree_35 (Or.inl rfl)
theorem dX6_agree_36 : decode cX6_agree 36 = .ok (.iaload, 1) := by decide +kernel
theorem rX6_agree_36 {R : zP} {x0 x1 x2 x3 : Option zV} {st : List zV} {M : zM} {i : Int} {r : Nat} : uX6_agree R 36 [x0, x1, x2, x3] (.inl i :: .inr (.inr r) :: st) M ↔ zread fX6 0 r M i (fun v => uX6_agree R 37 [x0, x1, x2, x3] (.inl v :: st) M) := zU_step dX6_agree_36 (Or.inl rfl)
theorem dX6_agree_37 : decode cX6_agree 37 = .ok (.aload_n 0, 1) := by decide +kernel
theorem rX6_agree_37 {R : zP} {x1 x2 x3 : Option zV} {st : List zV} {M : zM} {a : Nat} : uX6_agree R 37 [some (.inr (.inr a)), x1, x2, x3] st M ↔ uX6_agree R 38 [some (.inr (.inr a)), x1, x2, x3] (.inr (.inr a) :: st) M := zU_step dX6_agree_37 (Or.inl rfl)
theorem dX6_agree_38 : decode cX6_agree 38 = .ok (.getfield 21, 3) := by decide +kernel
theorem rX6_agree_38 {R : zP} {x0 x1 x2 x3 : Option zV} {st : List zV} {M : zM} {r : Nat} : uX6_agree R 38 [x0, x1, x2, x3] (.inr (.inr r) :: st) M ↔ zgetx fX6 21 r M (fun v => uX6_agree R 41 [x0, x1, x2, x3] (v :: st) M) := zU_step dX6_agree_38 (Or.inl rfl)
theorem dX6_agree_41 : decode cX6_agree 41 = .ok (.iload_n 3, 1) := by decide +kernel
theorem rX6_agree_41 {R : zP} {x0 x1 x2 : Option zV} {st : List zV} {M : zM} {a : Int} : uX6_agree R 41 [x0, x1, x2, some (.inl a)] st M ↔ uX6_agree R 42 [x0, x1, x2, some (.inl a)] (.inl a :: st) M := zU_step dX6_agree_41 (Or.inl rfl)
theorem dX6_agree_42 : decode cX6_agree 42 = .ok (.iaload, 1) := by decide +kernel
theorem rX6_agree_42 {R : zP} {x0 x1 x2 x3 : Option zV} {st : List zV} {M : zM} {i : Int} {r : Nat} : uX6_agree R 42 [x0, x1, x2, x3] (.inl i :: .inr (.inr r) :: st) M ↔ zread fX6 0 r M i (fun v => uX6_agree R 43 [x0, x1, x2, x3] (.inl v :: st) M) := zU_step dX6_agree_42 (Or.inl rfl)
theorem dX6_agree_43 : decode cX6_agree 43 = .ok (.if_icmp .eq 5, 3) := by decide +kernel
theorem rX6_agree_43 {R : zP} {x0 x1 x2 x3 : Option zV} {st : List zV} {M : zM} {a b : Int} : uX6_agree R 43 [x0, x1, x2, x3] (.inl b :: .inl a :: st) M ↔ ((zIR a ∧ zIR b) ∧ if a = b then uX6_agree R 48 [x0, x1, x2, x3] st M else uX6_agree R 46 [x0, x1, x2, x3] st M) := Iff.trans (zU_step dX6_agree_43 (Or.inl rfl)) ⟨fun h => ⟨⟨h.1.1, h.1.2.1⟩, (zite (c := a = b)).mpr h.2⟩, fun h => ⟨⟨h.1.1, h.1.2, by decide⟩, (zite (c := a = b)).mp h.2⟩⟩
theorem dX6_agree_46 : decode cX6_agree 46 = .ok (.iconst 0, 1) := by decide +kernel
theorem rX6_agree_46 {R : zP} {x0 x1 x2 x3 : Option zV} {st : List zV} {M : zM} : uX6_agree R 46 [x0, x1, x2, x3] st M ↔ uX6_agree R 47 [x0, x1, x2, x3] (.inl (0) :: st) M := zU_step dX6_agree_46 (Or.inl rfl)
theorem dX6_agree_47 : decode cX6_agree 47 = .ok (.ireturn, 1) := by decide +kernel
theorem rX6_agree_47 {R : zP} {x0 x1 x2 x3 : Option zV} {M : zM} {a : Int} : uX6_agree R 47 [x0, x1, x2, x3] [.inl a] M ↔ ((a = 0 ∨ a = 1) ∧ R (some (.inl a)) M) := Iff.trans (zU_step dX6_agree_47 (Or.inl rfl)) ⟨fun h => ⟨zret2 rfl h.2.1, h.2.2⟩, fun h => ⟨rfl, Or.inr (Or.inl ⟨rfl, h.1⟩), h.2⟩⟩
theorem dX6_agree_48 : decode cX6_agree 48 = .ok (.iinc 3 1, 3) := by decide +kernel
theorem rX6_agree_48 {R : zP} {x0 x1 : Option zV} {st : List zV} {M : zM} {a : Int} {y : Nat} : uX6_agree R 48 [x0, x1, some (.inr (.inr y)), some (.inl a)] st M ↔ uX6_agree R 51 [x0, x1, some (.inr (.inr y)), some (.inl (a + (1)))] st M := Iff.trans (zU_step dX6_agree_48 (Or.inl rfl)) ⟨fun h => h.2, fun h => ⟨show 3 < 4 by decide, h⟩⟩
theorem rX6_agree_48z {R : zP} {x0 x1 x2 : Option zV} {st : List zV} {M : zM} {a : Int} : uX6_agree R 48 [x0, x1, x2, some (.inl a)] st M ↔ uX6_agree R 51 [x0, x1, zkeep x2, some (.inl (a + (1)))] st M := Iff.trans (zU_step dX6_agree_48 (Or.inl rfl)) ⟨fun h => h.2, fun h => ⟨show 3 < 4 by decide, h⟩⟩
theorem dX6_agree_51 : decode cX6_agree 51 = .ok (.goto (-49), 3) := by decide +kernel
theorem rX6_agree_51 {R : zP} {x0 x1 x2 x3 : Option zV} {st : List zV} {M : zM} : uX6_agree R 51 [x0, x1, x2, x3] st M ↔ uX6_agree R 2 [x0, x1, x2, x3] st M := Iff.trans (zU_step dX6_agree_51 (Or.inl rfl)) ⟨fun h => h.2, fun h => ⟨by decide, h⟩⟩
theorem dX6_agree_54 : decode cX6_agree 54 = .ok (.iconst 1, 1) := by decide +kernel
theorem rX6_agree_54 {R : zP} {x0 x1 x2 x3 : Option zV} {st : List zV} {M : zM} : uX6_agree R 54 [x0, x1, x2, x3] st M ↔ uX6_agree R 55 [x0, x1, x2, x3] (.inl (1) :: st) M := zU_step dX6_agree_54 (Or.inl rfl)
theorem dX6_agree_55 : decode cX6_agree 55 = .ok (.ireturn, 1) := by decide +kernel
theorem rX6_agree_55 {R : zP} {x0 x1 x2 x3 : Option zV} {M : zM} {a : Int} : uX6_agree R 55 [x0, x1, x2, x3] [.inl a] M ↔ ((a = 0 ∨ a = 1) ∧ R (some (.inl a)) M) := Iff.trans (zU_step dX6_agree_55 (Or.inl rfl)) ⟨fun h => ⟨zret2 rfl h.2.1, h.2.2⟩, fun h => ⟨rfl, Or.inr (Or.inl ⟨rfl, h.1⟩), h.2⟩⟩
theorem eX6_agree {R : zP} {M : zM} {a0 : Nat} {p0 : Int} {p1 : Nat} : tX6_agree [.inr (.inr a0), .inl p0, .inr (.inr p1)] M R ↔ uX6_agree R 0 [some (.inr (.inr a0)), some (.inl p0), some (.inr (.inr p1)), none] [] M := ⟨fun h => h.2, fun h => ⟨show 3 ≤ 4 by decide, h⟩⟩
def uX7_outside (R : zP) : zK := zU fX7 vX7_outside cX7_outside R
theorem dX7_outside_0 : decode cX7_outside 0 = .ok (.iload_n 0, 1) := by decide +kernel
theorem rX7_outside_0 {R : zP} {x1 : Option zV} {st : List zV} {M : zM} {a : Int} : uX7_outside R 0 [some (.inl a), x1] st M ↔ uX7_outside R 1 [some (.inl a), x1] (.inl a :: st) M := zU_step dX7_outside_0 (Or.inl rfl)
theorem dX7_outside_1 : decode cX7_outside 1 = .ok (.ifCond .lt 8, 3) := by decide +kernel
theorem rX7_outside_1 {R : zP} {x0 x1 : Option zV} {st : List zV} {M : zM} {a : Int} : uX7_outside R 1 [x0, x1] (.inl a :: st) M ↔ (zIR a ∧ if a < 0 then uX7_outside R 9 [x0, x1] st M else uX7_outside R 4 [x0, x1] st M) := Iff.trans (zU_step dX7_outside_1 (Or.inl rfl)) ⟨fun h => ⟨h.1.1, (zite (c := a < 0)).mpr h.2⟩, fun h => ⟨⟨h.1, by decide⟩, (zite (c := a < 0)).mp h.2⟩⟩
theorem dX7_outside_4 : decode cX7_outside 4 = .ok (.iload_n 0, 1) := by decide +kernel
theorem rX7_outside_4 {R : zP} {x1 : Option zV} {st : List zV} {M : zM} {a : Int} : uX7_outside R 4 [some (.inl a), x1] st M ↔ uX7_outside R 5 [some (.inl a), x1] (.inl a :: st) M := zU_step dX7_outside_4 (Or.inl rfl)
theorem dX7_outside_5 : decode cX7_outside 5 = .ok (.iload_n 1, 1) := by decide +kernel
theorem rX7_outside_5 {R : zP} {x0 : Option zV} {st : List zV} {M : zM} {a : Int} : uX7_outside R 5 [x0, some (.inl a)] st M ↔ uX7_outside R 6 [x0, some (.inl a)] (.inl a :: st) M := zU_step dX7_outside_5 (Or.inl rfl)
theorem dX7_outside_6 : decode cX7_outside 6 = .ok (.if_icmp .lt 7, 3) := by decide +kernel
theorem rX7_outside_6 {R : zP} {x0 x1 : Option zV} {st : List zV} {M : zM} {a b : Int} : uX7_outside R 6 [x0, x1] (.inl b :: .inl a :: st) M ↔ ((zIR a ∧ zIR b) ∧ if a < b then uX7_outside R 13 [x0, x1] st M else uX7_outside R 9 [x0, x1] st M) := Iff.trans (zU_step dX7_outside_6 (Or.inl rfl)) ⟨fun h => ⟨⟨h.1.1, h.1.2.1⟩, (zite (c := a < b)).mpr h.2⟩, fun h => ⟨⟨h.1.1, h.1.2, by decide⟩, (zite (c := a < b)).mp h.2⟩⟩
theorem dX7_outside_9 : decode cX7_outside 9 = .ok (.iconst 1, 1) := by decide +kernel
theorem rX7_outside_9 {R : zP} {x0 x1 : Option zV} {st : List zV} {M : zM} : uX7_outside R 9 [x0, x1] st M ↔ uX7_outside R 10 [x0, x1] (.inl (1) :: st) M := zU_step dX7_outside_9 (Or.inl rfl)
theorem dX7_outside_10 : decode cX7_outside 10 = .ok (.goto 4, 3) := by decide +kernel
theorem rX7_outside_10 {R : zP} {x0 x1 : Option zV} {st : List zV} {M : zM} : uX7_outside R 10 [x0, x1] st M ↔ uX7_outside R 14 [x0, x1] st M := Iff.trans (zU_step dX7_outside_10 (Or.inl rfl)) ⟨fun h => h.2, fun h => ⟨by decide, h⟩⟩
theorem dX7_outside_13 : decode cX7_outside 13 = .ok (.iconst 0, 1) := by decide +kernel
theorem rX7_outside_13 {R : zP} {x0 x1 : Option zV} {st : List zV} {M : zM} : uX7_outside R 13 [x0, x1] st M ↔ uX7_outside R 14 [x0, x1] (.inl (0) :: st) M := zU_step dX7_outside_13 (Or.inl rfl)
theorem dX7_outside_14 : decode cX7_outside 14 = .ok (.ireturn, 1) := by decide +kernel
theorem rX7_outside_14 {R : zP} {x0 x1 : Option zV} {M : zM} {a : Int} : uX7_outside R 14 [x0, x1] [.inl a] M ↔ ((a = 0 ∨ a = 1) ∧ R (some (.inl a)) M) := Iff.trans (zU_step dX7_outside_14 (Or.inl rfl)) ⟨fun h => ⟨zret2 rfl h.2.1, h.2.2⟩, fun h => ⟨rfl, Or.inr (Or.inl ⟨rfl, h.1⟩), h.2⟩⟩
theorem eX7_outside {R : zP} {M : zM} {p0 : Int} {p1 : Int} : tX7_outside [.inl p0, .inl p1] M R ↔ uX7_outside R 0 [some (.inl p0), some (.inl p1)] [] M := ⟨fun h => h.2, fun h => ⟨show 2 ≤ 2 by decide, h⟩⟩
def uX7_scroll (R : zP) : zK := zU fX7 vX7_scroll cX7_scroll R
theorem dX7_scroll_0 : decode cX7_scroll 0 = .ok (.iload_n 1, 1) := by decide +kernel
theorem rX7_scroll_0 {R : zP} {x0 : Option zV} {st : List zV} {M : zM} {a : Int} : uX7_scroll R 0 [x0, some (.inl a)] st M ↔ uX7_scroll R 1 [x0, some (.inl a)] (.inl a :: st) M := zU_step dX7_scroll_0 (Or.inl rfl)
theorem dX7_scroll_1 : decode cX7_scroll 1 = .ok (.ifCond .ne 10, 3) := by decide +kernel
theorem rX7_scroll_1 {R : zP} {x0 x1 : Option zV} {st : List zV} {M : zM} {a : Int} : uX7_scroll R 1 [x0, x1] (.inl a :: st) M ↔ (zIR a ∧ if a ≠ 0 then uX7_scroll R 11 [x0, x1] st M else uX7_scroll R 4 [x0, x1] st M) := Iff.trans (zU_step dX7_scroll_1 (Or.inl rfl)) ⟨fun h => ⟨h.1.1, (zite (c := a ≠ 0)).mpr h.2⟩, fun h => ⟨⟨h.1, by decide⟩, (zite (c := a ≠ 0)).mp h.2⟩⟩
theorem dX7_scroll_4 : decode cX7_scroll 4 = .ok (.aload_n 0, 1) := by decide +kernel
theorem rX7_scroll_4 {R : zP} {x1 : Option zV} {st : List zV} {M : zM} {a : Nat} : uX7_scroll R 4 [some (.inr (.inr a)), x1] st M ↔ uX7_scroll R 5 [some (.inr (.inr a)), x1] (.inr (.inr a) :: st) M := zU_step dX7_scroll_4 (Or.inl rfl)
theorem dX7_scroll_5 : decode cX7_scroll 5 = .ok (.getfield 14, 3) := by decide +kernel
theorem rX7_scroll_5 {R : zP} {x0 x1 : Option zV} {st : List zV} {M : zM} {r : Nat} : uX7_scroll R 5 [x0, x1] (.inr (.inr r) :: st) M ↔ zgetx fX7 14 r M (fun v => uX7_scroll R 8 [x0, x1] (v :: st) M) := zU_step dX7_scroll_5 (Or.inl rfl)
theorem dX7_scroll_8 : decode cX7_scroll 8 = .ok (.goto 7, 3) := by decide +kernel
theorem rX7_scroll_8 {R : zP} {x0 x1 : Option zV} {st : List zV} {M : zM} : uX7_scroll R 8 [x0, x1] st M ↔ uX7_scroll R 15 [x0, x1] st M := Iff.trans (zU_step dX7_scroll_8 (Or.inl rfl)) ⟨fun h => h.2, fun h => ⟨by decide, h⟩⟩
theorem dX7_scroll_11 : decode cX7_scroll 11 = .ok (.aload_n 0, 1) := by decide +kernel
theorem rX7_scroll_11 {R : zP} {x1 : Option zV} {st : List zV} {M : zM} {a : Nat} : uX7_scroll R 11 [some (.inr (.inr a)), x1] st M ↔ uX7_scroll R 12 [some (.inr (.inr a)), x1] (.inr (.inr a) :: st) M := zU_step dX7_scroll_11 (Or.inl rfl)
theorem dX7_scroll_12 : decode cX7_scroll 12 = .ok (.getfield 22, 3) := by decide +kernel
theorem rX7_scroll_12 {R : zP} {x0 x1 : Option zV} {st : List zV} {M : zM} {r : Nat} : uX7_scroll R 12 [x0, x1] (.inr (.inr r) :: st) M ↔ zgetx fX7 22 r M (fun v => uX7_scroll R 15 [x0, x1] (v :: st) M) := zU_step dX7_scroll_12 (Or.inl rfl)
theorem dX7_scroll_15 : decode cX7_scroll 15 = .ok (.areturn, 1) := by decide +kernel
theorem rX7_scroll_15 {R : zP} {x0 x1 : Option zV} {M : zM} {a : Nat} : uX7_scroll R 15 [x0, x1] [.inr (.inr a)] M ↔ R (some (.inr (.inr a))) M := Iff.trans (zU_step dX7_scroll_15 (Or.inl rfl)) ⟨fun h => h.2.2, fun h => ⟨rfl, rfl, h⟩⟩
theorem eX7_scroll {R : zP} {M : zM} {a0 : Nat} {p0 : Int} : tX7_scroll [.inr (.inr a0), .inl p0] M R ↔ uX7_scroll R 0 [some (.inr (.inr a0)), some (.inl p0)] [] M := ⟨fun h => h.2, fun h => ⟨show 2 ≤ 2 by decide, h⟩⟩
def uX7_type (R : zP) : zK := zU fX7 vX7_type cX7_type R
theorem dX7_type_0 : decode cX7_type 0 = .ok (.iload_n 1, 1) := by decide +kernel
theorem rX7_type_0 {R : zP} {x0 x2 : Option zV} {st : List zV} {M : zM} {a : Int} : uX7_type R 0 [x0, some (.inl a), x2] st M ↔ uX7_type R 1 [x0, some (.inl a), x2] (.inl a :: st) M := zU_step dX7_type_0 (Or.inl rfl)
theorem dX7_type_1 : decode cX7_type 1 = .ok (.iconst 2, 1) := by decide +kernel
theorem rX7_type_1 {R : zP} {x0 x1 x2 : Option zV} {st : List zV} {M : zM} : uX7_type R 1 [x0, x1, x2] st M ↔ uX7_type R 2 [x0, x1, x2] (.inl (2) :: st) M := zU_step dX7_type_1 (Or.inl rfl)
theorem dX7_type_2 : decode cX7_type 2 = .ok (.invokestatic 94, 3) := by decide +kernel
theorem rX7_type_2 {R : zP} {x0 x1 x2 : Option zV} {st : List zV} {M : zM} {a0 a1 : zV} : uX7_type R 2 [x0, x1, x2] (a1 :: a0 :: st) M ↔ (st.length ≤ 4 ∧ zcv tX7_outside [a0, a1] M (fun v M => uX7_type R 5 [x0, x1, x2] (v :: st) M)) := Iff.trans (zU_step dX7_type_2 (Or.inl rfl)) ⟨fun h => ⟨h.2.1, zcv_of h.2.2⟩, fun h => ⟨rfl, h.1, zcv_to h.2⟩⟩
theorem dX7_type_5 : decode cX7_type 5 = .ok (.ifCond .ne 13, 3) := by decide +kernel
theorem rX7_type_5 {R : zP} {x0 x1 x2 : Option zV} {st : List zV} {M : zM} {a : Int} : uX7_type R 5 [x0, x1, x2] (.inl a :: st) M ↔ (zIR a ∧ if a ≠ 0 then uX7_type R 18 [x0, x1, x2] st M else uX7_type R 8 [x0, x1, x2] st M) := Iff.trans (zU_step dX7_type_5 (Or.inl rfl)) ⟨fun h => ⟨h.1.1, (zite (c := a ≠ 0)).mpr h.2⟩, fun h => ⟨⟨h.1, by decide⟩, (zite (c := a ≠ 0)).mp h.2⟩⟩
theorem dX7_type_8 : decode cX7_type 8 = .ok (.iload_n 2, 1) := by decide +kernel
theorem rX7_type_8 {R : zP} {x0 x1 : Option zV} {st : List zV} {M : zM} {a : Int} : uX7_type R 8 [x0, x1, some (.inl a)] st M ↔ uX7_type R 9 [x0, x1, some (.inl a)] (.inl a :: st) M := zU_step dX7_type_8 (Or.inl rfl)
theorem dX7_type_9 : decode cX7_type 9 = .ok (.sipush 256, 3) := by decide +kernel
theorem rX7_type_9 {R : zP} {x0 x1 x2 : Option zV} {st : List zV} {M : zM} : uX7_type R 9 [x0, x1, x2] st M ↔ uX7_type R 12 [x0, x1, x2] (.inl (256) :: st) M := Iff.trans (zU_step dX7_type_9 (Or.inl rfl)) ⟨fun h => h.2, fun h => ⟨by decide, h⟩⟩
theorem dX7_type_12 : decode cX7_type 12 = .ok (.invokestatic 94, 3) := by decide +kernel
theorem rX7_type_12 {R : zP} {x0 x1 x2 : Option zV} {st : List zV} {M : zM} {a0 a1 : zV} : uX7_type R 12 [x0, x1, x2] (a1 :: a0 :: st) M ↔ (st.length ≤ 4 ∧ zcv tX7_outside [a0, a1] M (fun v M => uX7_type R 15 [x0, x1, x2] (v :: st) M)) := Iff.trans (zU_step dX7_type_12 (Or.inl rfl)) ⟨fun h => ⟨h.2.1, zcv_of h.2.2⟩, fun h => ⟨rfl, h.1, zcv_to h.2⟩⟩
theorem dX7_type_15 : decode cX7_type 15 = .ok (.ifCond .eq 6, 3) := by decide +kernel
theorem rX7_type_15 {R : zP} {x0 x1 x2 : Option zV} {st : List zV} {M : zM} {a : Int} : uX7_type R 15 [x0, x1, x2] (.inl a :: st) M ↔ (zIR a ∧ if a = 0 then uX7_type R 21 [x0, x1, x2] st M else uX7_type R 18 [x0, x1, x2] st M) := Iff.trans (zU_step dX7_type_15 (Or.inl rfl)) ⟨fun h => ⟨h.1.1, (zite (c := a = 0)).mpr h.2⟩, fun h => ⟨⟨h.1, by decide⟩, (zite (c := a = 0)).mp h.2⟩⟩
theorem dX7_type_18 : decode cX7_type 18 = .ok (.bipush (-2), 2) := by decide +kernel
theorem rX7_type_18 {R : zP} {x0 x1 x2 : Option zV} {st : List zV} {M : zM} : uX7_type R 18 [x0, x1, x2] st M ↔ uX7_type R 20 [x0, x1, x2] (.inl (-2) :: st) M := Iff.trans (zU_step dX7_type_18 (Or.inl rfl)) ⟨fun h => h.2, fun h => ⟨by decide, h⟩⟩
theorem dX7_type_20 : decode cX7_type 20 = .ok (.ireturn, 1) := by decide +kernel
theorem rX7_type_20 {R : zP} {x0 x1 x2 : Option zV} {M : zM} {a : Int} : uX7_type R 20 [x0, x1, x2] [.inl a] M ↔ R (some (.inl a)) M := Iff.trans (zU_step dX7_type_20 (Or.inl rfl)) ⟨fun h => h.2.2, fun h => ⟨rfl, Or.inl rfl, h⟩⟩
theorem dX7_type_21 : decode cX7_type 21 = .ok (.aload_n 0, 1) := by decide +kernel
theorem rX7_type_21 {R : zP} {x1 x2 : Option zV} {st : List zV} {M : zM} {a : Nat} : uX7_type R 21 [some (.inr (.inr a)), x1, x2] st M ↔ uX7_type R 22 [some (.inr (.inr a)), x1, x2] (.inr (.inr a) :: st) M := zU_step dX7_type_21 (Or.inl rfl)
theorem dX7_type_22 : decode cX7_type 22 = .ok (.iload_n 1, 1) := by decide +kernel
theorem rX7_type_22 {R : zP} {x0 x2 : Option zV} {st : List zV} {M : zM} {a : Int} : uX7_type R 22 [x0, some (.inl a), x2] st M ↔ uX7_type R 23 [x0, some (.inl a), x2] (.inl a :: st) M := zU_step dX7_type_22 (Or.inl rfl)
theorem dX7_type_23 : decode cX7_type 23 = .ok (.invokevirtual 98, 3) := by decide +kernel
theorem rX7_type_23 {R : zP} {x0 x1 x2 : Option zV} {st : List zV} {M : zM} {a0 a1 : zV} : uX7_type R 23 [x0, x1, x2] (a1 :: a0 :: st) M ↔ (st.length ≤ 4 ∧ zcv (zv 7 tX7_scroll) [a0, a1] M (fun v M => uX7_type R 26 [x0, x1, x2] (v :: st) M)) := Iff.trans (zU_step dX7_type_23 (Or.inl rfl)) ⟨fun h => ⟨h.2.1, zcv_of h.2.2⟩, fun h => ⟨rfl, h.1, zcv_to h.2⟩⟩
theorem dX7_type_26 : decode cX7_type 26 = .ok (.iload_n 2, 1) := by decide +kernel
theorem rX7_type_26 {R : zP} {x0 x1 : Option zV} {st : List zV} {M : zM} {a : Int} : uX7_type R 26 [x0, x1, some (.inl a)] st M ↔ uX7_type R 27 [x0, x1, some (.inl a)] (.inl a :: st) M := zU_step dX7_type_26 (Or.inl rfl)
theorem dX7_type_27 : decode cX7_type 27 = .ok (.invokevirtual 102, 3) := by decide +kernel
theorem rX7_type_27 {R : zP} {x0 x1 x2 : Option zV} {st : List zV} {M : zM} {a0 a1 : zV} : uX7_type R 27 [x0, x1, x2] (a1 :: a0 :: st) M ↔ (st.length ≤ 4 ∧ zcv (zv 5 tX5_append) [a0, a1] M (fun v M => uX7_type R 30 [x0, x1, x2] (v :: st) M)) := Iff.trans (zU_step dX7_type_27 (Or.inl rfl)) ⟨fun h => ⟨h.2.1, zcv_of h.2.2⟩, fun h => ⟨rfl, h.1, zcv_to h.2⟩⟩
theorem dX7_type_30 : decode cX7_type 30 = .ok (.ireturn, 1) := by decide +kernel
theorem rX7_type_30 {R : zP} {x0 x1 x2 : Option zV} {M : zM} {a : Int} : uX7_type R 30 [x0, x1, x2] [.inl a] M ↔ R (some (.inl a)) M := Iff.trans (zU_step dX7_type_30 (Or.inl rfl)) ⟨fun h => h.2.2, fun h => ⟨rfl, Or.inl rfl, h⟩⟩
theorem eX7_type {R : zP} {M : zM} {a0 : Nat} {p0 : Int} {p1 : Int} : tX7_type [.inr (.inr a0), .inl p0, .inl p1] M R ↔ uX7_type R 0 [some (.inr (.inr a0)), some (.inl p0), some (.inl p1)] [] M := ⟨fun h => h.2, fun h => ⟨show 3 ≤ 3 by decide, h⟩⟩
def uX7_wipe (R : zP) : zK := zU fX7 vX7_wipe cX7_wipe R
theorem dX7_wipe_0 : decode cX7_wipe 0 = .ok (.iload_n 1, 1) := by decide +kernel
theorem rX7_wipe_0 {R : zP} {x0 : Option zV} {st : List zV} {M : zM} {a : Int} : uX7_wipe R 0 [x0, some (.inl a)] st M ↔ uX7_wipe R 1 [x0, some (.inl a)] (.inl a :: st) M := zU_step dX7_wipe_0 (Or.inl rfl)
theorem dX7_wipe_1 : decode cX7_wipe 1 = .ok (.iconst 2, 1) := by decide +kernel
theorem rX7_wipe_1 {R : zP} {x0 x1 : Option zV} {st : List zV} {M : zM} : uX7_wipe R 1 [x0, x1] st M ↔ uX7_wipe R 2 [x0, x1] (.inl (2) :: st) M := zU_step dX7_wipe_1 (Or.inl rfl)
theorem dX7_wipe_2 : decode cX7_wipe 2 = .ok (.invokestatic 94, 3) := by decide +kernel
theorem rX7_wipe_2 {R : zP} {x0 x1 : Option zV} {st : List zV} {M : zM} {a0 a1 : zV} : uX7_wipe R 2 [x0, x1] (a1 :: a0 :: st) M ↔ (st.length ≤ 4 ∧ zcv tX7_outside [a0, a1] M (fun v M => uX7_wipe R 5 [x0, x1] (v :: st) M)) := Iff.trans (zU_step dX7_wipe_2 (Or.inl rfl)) ⟨fun h => ⟨h.2.1, zcv_of h.2.2⟩, fun h => ⟨rfl, h.1, zcv_to h.2⟩⟩
theorem dX7_wipe_5 : decode cX7_wipe 5 = .ok (.ifCond .eq 6, 3) := by decide +kernel
theorem rX7_wipe_5 {R : zP} {x0 x1 : Option zV} {st : List zV} {M : zM} {a : Int} : uX7_wipe R 5 [x0, x1] (.inl a :: st) M ↔ (zIR a ∧ if a = 0 then uX7_wipe R 11 [x0, x1] st M else uX7_wipe R 8 [x0, x1] st M) := Iff.trans (zU_step dX7_wipe_5 (Or.inl rfl)) ⟨fun h => ⟨h.1.1, (zite (c := a = 0)).mpr h.2⟩, fun h => ⟨⟨h.1, by decide⟩, (zite (c := a = 0)).mp h.2⟩⟩
theorem dX7_wipe_8 : decode cX7_wipe 8 = .ok (.bipush (-2), 2) := by decide +kernel
theorem rX7_wipe_8 {R : zP} {x0 x1 : Option zV} {st : List zV} {M : zM} : uX7_wipe R 8 [x0, x1] st M ↔ uX7_wipe R 10 [x0, x1] (.inl (-2) :: st) M := Iff.trans (zU_step dX7_wipe_8 (Or.inl rfl)) ⟨fun h => h.2, fun h => ⟨by decide, h⟩⟩
theorem dX7_wipe_10 : decode cX7_wipe 10 = .ok (.ireturn, 1) := by decide +kernel
theorem rX7_wipe_10 {R : zP} {x0 x1 : Option zV} {M : zM} {a : Int} : uX7_wipe R 10 [x0, x1] [.inl a] M ↔ R (some (.inl a)) M := Iff.trans (zU_step dX7_wipe_10 (Or.inl rfl)) ⟨fun h => h.2.2, fun h => ⟨rfl, Or.inl rfl, h⟩⟩
theorem dX7_wipe_11 : decode cX7_wipe 11 = .ok (.aload_n 0, 1) := by decide +kernel
theorem rX7_wipe_11 {R : zP} {x1 : Option zV} {st : List zV} {M : zM} {a : Nat} : uX7_wipe R 11 [some (.inr (.inr a)), x1] st M ↔ uX7_wipe R 12 [some (.inr (.inr a)), x1] (.inr (.inr a) :: st) M := zU_step dX7_wipe_11 (Or.inl rfl)
theorem dX7_wipe_12 : decode cX7_wipe 12 = .ok (.iload_n 1, 1) := by decide +kernel
theorem rX7_wipe_12 {R : zP} {x0 : Option zV} {st : List zV} {M : zM} {a : Int} : uX7_wipe R 12 [x0, some (.inl a)] st M ↔ uX7_wipe R 13 [x0, some (.inl a)] (.inl a :: st) M := zU_step dX7_wipe_12 (Or.inl rfl)
theorem dX7_wipe_13 : decode cX7_wipe 13 = .ok (.invokevirtual 98, 3) := by decide +kernel
theorem rX7_wipe_13 {R : zP} {x0 x1 : Option zV} {st : List zV} {M : zM} {a0 a1 : zV} : uX7_wipe R 13 [x0, x1] (a1 :: a0 :: st) M ↔ (st.length ≤ 4 ∧ zcv (zv 7 tX7_scroll) [a0, a1] M (fun v M => uX7_wipe R 16 [x0, x1] (v :: st) M)) := Iff.trans (zU_step dX7_wipe_13 (Or.inl rfl)) ⟨fun h => ⟨h.2.1, zcv_of h.2.2⟩, fun h => ⟨rfl, h.1, zcv_to h.2⟩⟩
theorem dX7_wipe_16 : decode cX7_wipe 16 = .ok (.invokevirtual 106, 3) := by decide +kernel
theorem rX7_wipe_16 {R : zP} {x0 x1 : Option zV} {st : List zV} {M : zM} {a0 : zV} : uX7_wipe R 16 [x0, x1] (a0 :: st) M ↔ (st.length ≤ 4 ∧ zcv (zv 5 tX5_clear) [a0] M (fun v M => uX7_wipe R 19 [x0, x1] (v :: st) M)) := Iff.trans (zU_step dX7_wipe_16 (Or.inl rfl)) ⟨fun h => ⟨h.2.1, zcv_of h.2.2⟩, fun h => ⟨rfl, h.1, zcv_to h.2⟩⟩
theorem dX7_wipe_19 : decode cX7_wipe 19 = .ok (.ireturn, 1) := by decide +kernel
theorem rX7_wipe_19 {R : zP} {x0 x1 : Option zV} {M : zM} {a : Int} : uX7_wipe R 19 [x0, x1] [.inl a] M ↔ R (some (.inl a)) M := Iff.trans (zU_step dX7_wipe_19 (Or.inl rfl)) ⟨fun h => h.2.2, fun h => ⟨rfl, Or.inl rfl, h⟩⟩
theorem eX7_wipe {R : zP} {M : zM} {a0 : Nat} {p0 : Int} : tX7_wipe [.inr (.inr a0), .inl p0] M R ↔ uX7_wipe R 0 [some (.inr (.inr a0)), some (.inl p0)] [] M := ⟨fun h => h.2, fun h => ⟨show 2 ≤ 2 by decide, h⟩⟩
def uX7_undo (R : zP) : zK := zU fX7 vX7_undo cX7_undo R
theorem dX7_undo_0 : decode cX7_undo 0 = .ok (.iload_n 1, 1) := by decide +kernel
theorem rX7_undo_0 {R : zP} {x0 : Option zV} {st : List zV} {M : zM} {a : Int} : uX7_undo R 0 [x0, some (.inl a)] st M ↔ uX7_undo R 1 [x0, some (.inl a)] (.inl a :: st) M := zU_step dX7_undo_0 (Or.inl rfl)
theorem dX7_undo_1 : decode cX7_undo 1 = .ok (.iconst 2, 1) := by decide +kernel
theorem rX7_undo_1 {R : zP} {x0 x1 : Option zV} {st : List zV} {M : zM} : uX7_undo R 1 [x0, x1] st M ↔ uX7_undo R 2 [x0, x1] (.inl (2) :: st) M := zU_step dX7_undo_1 (Or.inl rfl)
theorem dX7_undo_2 : decode cX7_undo 2 = .ok (.invokestatic 94, 3) := by decide +kernel
theorem rX7_undo_2 {R : zP} {x0 x1 : Option zV} {st : List zV} {M : zM} {a0 a1 : zV} : uX7_undo R 2 [x0, x1] (a1 :: a0 :: st) M ↔ (st.length ≤ 4 ∧ zcv tX7_outside [a0, a1] M (fun v M => uX7_undo R 5 [x0, x1] (v :: st) M)) := Iff.trans (zU_step dX7_undo_2 (Or.inl rfl)) ⟨fun h => ⟨h.2.1, zcv_of h.2.2⟩, fun h => ⟨rfl, h.1, zcv_to h.2⟩⟩
theorem dX7_undo_5 : decode cX7_undo 5 = .ok (.ifCond .eq 6, 3) := by decide +kernel
theorem rX7_undo_5 {R : zP} {x0 x1 : Option zV} {st : List zV} {M : zM} {a : Int} : uX7_undo R 5 [x0, x1] (.inl a :: st) M ↔ (zIR a ∧ if a = 0 then uX7_undo R 11 [x0, x1] st M else uX7_undo R 8 [x0, x1] st M) := Iff.trans (zU_step dX7_undo_5 (Or.inl rfl)) ⟨fun h => ⟨h.1.1, (zite (c := a = 0)).mpr h.2⟩, fun h => ⟨⟨h.1, by decide⟩, (zite (c := a = 0)).mp h.2⟩⟩
theorem dX7_undo_8 : decode cX7_undo 8 = .ok (.bipush (-2), 2) := by decide +kernel
theorem rX7_undo_8 {R : zP} {x0 x1 : Option zV} {st : List zV} {M : zM} : uX7_undo R 8 [x0, x1] st M ↔ uX7_undo R 10 [x0, x1] (.inl (-2) :: st) M := Iff.trans (zU_step dX7_undo_8 (Or.inl rfl)) ⟨fun h => h.2, fun h => ⟨by decide, h⟩⟩
theorem dX7_undo_10 : decode cX7_undo 10 = .ok (.ireturn, 1) := by decide +kernel
theorem rX7_undo_10 {R : zP} {x0 x1 : Option zV} {M : zM} {a : Int} : uX7_undo R 10 [x0, x1] [.inl a] M ↔ R (some (.inl a)) M := Iff.trans (zU_step dX7_undo_10 (Or.inl rfl)) ⟨fun h => h.2.2, fun h => ⟨rfl, Or.inl rfl, h⟩⟩
theorem dX7_undo_11 : decode cX7_undo 11 = .ok (.aload_n 0, 1) := by decide +kernel
theorem rX7_undo_11 {R : zP} {x1 : Option zV} {st : List zV} {M : zM} {a : Nat} : uX7_undo R 11 [some (.inr (.inr a)), x1] st M ↔ uX7_undo R 12 [some (.inr (.inr a)), x1] (.inr (.inr a) :: st) M := zU_step dX7_undo_11 (Or.inl rfl)
theorem dX7_undo_12 : decode cX7_undo 12 = .ok (.iload_n 1, 1) := by decide +kernel
theorem rX7_undo_12 {R : zP} {x0 : Option zV} {st : List zV} {M : zM} {a : Int} : uX7_undo R 12 [x0, some (.inl a)] st M ↔ uX7_undo R 13 [x0, some (.inl a)] (.inl a :: st) M := zU_step dX7_undo_12 (Or.inl rfl)
theorem dX7_undo_13 : decode cX7_undo 13 = .ok (.invokevirtual 98, 3) := by decide +kernel
theorem rX7_undo_13 {R : zP} {x0 x1 : Option zV} {st : List zV} {M : zM} {a0 a1 : zV} : uX7_undo R 13 [x0, x1] (a1 :: a0 :: st) M ↔ (st.length ≤ 4 ∧ zcv (zv 7 tX7_scroll) [a0, a1] M (fun v M => uX7_undo R 16 [x0, x1] (v :: st) M)) := Iff.trans (zU_step dX7_undo_13 (Or.inl rfl)) ⟨fun h => ⟨h.2.1, zcv_of h.2.2⟩, fun h => ⟨rfl, h.1, zcv_to h.2⟩⟩
theorem dX7_undo_16 : decode cX7_undo 16 = .ok (.invokevirtual 110, 3) := by decide +kernel
theorem rX7_undo_16 {R : zP} {x0 x1 : Option zV} {st : List zV} {M : zM} {a0 : zV} : uX7_undo R 16 [x0, x1] (a0 :: st) M ↔ (st.length ≤ 4 ∧ zcv (zv 5 tX5_dropLast) [a0] M (fun v M => uX7_undo R 19 [x0, x1] (v :: st) M)) := Iff.trans (zU_step dX7_undo_16 (Or.inl rfl)) ⟨fun h => ⟨h.2.1, zcv_of h.2.2⟩, fun h => ⟨rfl, h.1, zcv_to h.2⟩⟩
theorem dX7_undo_19 : decode cX7_undo 19 = .ok (.ireturn, 1) := by decide +kernel
theorem rX7_undo_19 {R : zP} {x0 x1 : Option zV} {M : zM} {a : Int} : uX7_undo R 19 [x0, x1] [.inl a] M ↔ R (some (.inl a)) M := Iff.trans (zU_step dX7_undo_19 (Or.inl rfl)) ⟨fun h => h.2.2, fun h => ⟨rfl, Or.inl rfl, h⟩⟩
theorem eX7_undo {R : zP} {M : zM} {a0 : Nat} {p0 : Int} : tX7_undo [.inr (.inr a0), .inl p0] M R ↔ uX7_undo R 0 [some (.inr (.inr a0)), some (.inl p0)] [] M := ⟨fun h => h.2, fun h => ⟨show 2 ≤ 2 by decide, h⟩⟩
def uX7_fault (R : zP) : zK := zU fX7 vX7_fault cX7_fault R
theorem dX7_fault_0 : decode cX7_fault 0 = .ok (.iload_n 1, 1) := by decide +kernel
theorem rX7_fault_0 {R : zP} {x0 : Option zV} {st : List zV} {M : zM} {a : Int} : uX7_fault R 0 [x0, some (.inl a)] st M ↔ uX7_fault R 1 [x0, some (.inl a)] (.inl a :: st) M := zU_step dX7_fault_0 (Or.inl rfl)
theorem dX7_fault_1 : decode cX7_fault 1 = .ok (.iconst 2, 1) := by decide +kernel
theorem rX7_fault_1 {R : zP} {x0 x1 : Option zV} {st : List zV} {M : zM} : uX7_fault R 1 [x0, x1] st M ↔ uX7_fault R 2 [x0, x1] (.inl (2) :: st) M := zU_step dX7_fault_1 (Or.inl rfl)
theorem dX7_fault_2 : decode cX7_fault 2 = .ok (.invokestatic 94, 3) := by decide +kernel
theorem rX7_fault_2 {R : zP} {x0 x1 : Option zV} {st : List zV} {M : zM} {a0 a1 : zV} : uX7_fault R 2 [x0, x1] (a1 :: a0 :: st) M ↔ (st.length ≤ 4 ∧ zcv tX7_outside [a0, a1] M (fun v M => uX7_fault R 5 [x0, x1] (v :: st) M)) := Iff.trans (zU_step dX7_fault_2 (Or.inl rfl)) ⟨fun h => ⟨h.2.1, zcv_of h.2.2⟩, fun h => ⟨rfl, h.1, zcv_to h.2⟩⟩
theorem dX7_fault_5 : decode cX7_fault 5 = .ok (.ifCond .eq 6, 3) := by decide +kernel
theorem rX7_fault_5 {R : zP} {x0 x1 : Option zV} {st : List zV} {M : zM} {a : Int} : uX7_fault R 5 [x0, x1] (.inl a :: st) M ↔ (zIR a ∧ if a = 0 then uX7_fault R 11 [x0, x1] st M else uX7_fault R 8 [x0, x1] st M) := Iff.trans (zU_step dX7_fault_5 (Or.inl rfl)) ⟨fun h => ⟨h.1.1, (zite (c := a = 0)).mpr h.2⟩, fun h => ⟨⟨h.1, by decide⟩, (zite (c := a = 0)).mp h.2⟩⟩
theorem dX7_fault_8 : decode cX7_fault 8 = .ok (.bipush (-2), 2) := by decide +kernel
theorem rX7_fault_8 {R : zP} {x0 x1 : Option zV} {st : List zV} {M : zM} : uX7_fault R 8 [x0, x1] st M ↔ uX7_fault R 10 [x0, x1] (.inl (-2) :: st) M := Iff.trans (zU_step dX7_fault_8 (Or.inl rfl)) ⟨fun h => h.2, fun h => ⟨by decide, h⟩⟩
theorem dX7_fault_10 : decode cX7_fault 10 = .ok (.ireturn, 1) := by decide +kernel
theorem rX7_fault_10 {R : zP} {x0 x1 : Option zV} {M : zM} {a : Int} : uX7_fault R 10 [x0, x1] [.inl a] M ↔ R (some (.inl a)) M := Iff.trans (zU_step dX7_fault_10 (Or.inl rfl)) ⟨fun h => h.2.2, fun h => ⟨rfl, Or.inl rfl, h⟩⟩
theorem dX7_fault_11 : decode cX7_fault 11 = .ok (.aload_n 0, 1) := by decide +kernel
theorem rX7_fault_11 {R : zP} {x1 : Option zV} {st : List zV} {M : zM} {a : Nat} : uX7_fault R 11 [some (.inr (.inr a)), x1] st M ↔ uX7_fault R 12 [some (.inr (.inr a)), x1] (.inr (.inr a) :: st) M := zU_step dX7_fault_11 (Or.inl rfl)
theorem dX7_fault_12 : decode cX7_fault 12 = .ok (.iload_n 1, 1) := by decide +kernel
theorem rX7_fault_12 {R : zP} {x0 : Option zV} {st : List zV} {M : zM} {a : Int} : uX7_fault R 12 [x0, some (.inl a)] st M ↔ uX7_fault R 13 [x0, some (.inl a)] (.inl a :: st) M := zU_step dX7_fault_12 (Or.inl rfl)
theorem dX7_fault_13 : decode cX7_fault 13 = .ok (.invokevirtual 98, 3) := by decide +kernel
theorem rX7_fault_13 {R : zP} {x0 x1 : Option zV} {st : List zV} {M : zM} {a0 a1 : zV} : uX7_fault R 13 [x0, x1] (a1 :: a0 :: st) M ↔ (st.length ≤ 4 ∧ zcv (zv 7 tX7_scroll) [a0, a1] M (fun v M => uX7_fault R 16 [x0, x1] (v :: st) M)) := Iff.trans (zU_step dX7_fault_13 (Or.inl rfl)) ⟨fun h => ⟨h.2.1, zcv_of h.2.2⟩, fun h => ⟨rfl, h.1, zcv_to h.2⟩⟩
theorem dX7_fault_16 : decode cX7_fault 16 = .ok (.getfield 113, 3) := by decide +kernel
theorem rX7_fault_16 {R : zP} {x0 x1 : Option zV} {st : List zV} {M : zM} {r : Nat} : uX7_fault R 16 [x0, x1] (.inr (.inr r) :: st) M ↔ zgetx fX7 113 r M (fun v => uX7_fault R 19 [x0, x1] (v :: st) M) := zU_step dX7_fault_16 (Or.inl rfl)
theorem dX7_fault_19 : decode cX7_fault 19 = .ok (.ireturn, 1) := by decide +kernel
theorem rX7_fault_19 {R : zP} {x0 x1 : Option zV} {M : zM} {a : Int} : uX7_fault R 19 [x0, x1] [.inl a] M ↔ R (some (.inl a)) M := Iff.trans (zU_step dX7_fault_19 (Or.inl rfl)) ⟨fun h => h.2.2, fun h => ⟨rfl, Or.inl rfl, h⟩⟩
theorem eX7_fault {R : zP} {M : zM} {a0 : Nat} {p0 : Int} : tX7_fault [.inr (.inr a0), .inl p0] M R ↔ uX7_fault R 0 [some (.inr (.inr a0)), some (.inl p0)] [] M := ⟨fun h => h.2, fun h => ⟨show 2 ≤ 2 by decide, h⟩⟩
