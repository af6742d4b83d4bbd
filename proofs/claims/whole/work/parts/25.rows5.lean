def uX8_power (R : zP) : zK := zU fX8 vX8_power cX8_power R
theorem dX8_power_0 : decode cX8_power 0 = .ok (.aload_n 0, 1) := by decide +kernel
theorem rX8_power_0 {R : zP} {x1 x2 x3 : Option zV} {st : List zV} {M : zM} {a : Nat} : uX8_power R 0 [some (.inr (.inr a)), x1, x2, x3] st M ↔ uX8_power R 1 [some (.inr (.inr a)), x1, x2, x3] (.inr (.inr a) :: st) M := zU_step dX8_power_0 (Or.inl rfl)
theorem dX8_power_1 : decode cX8_power 1 = .ok (.iload_n 1, 1) := by decide +kernel
theorem rX8_power_1 {R : zP} {x0 x2 x3 : Option zV} {st : List zV} {M : zM} {a : Int} : uX8_power R 1 [x0, some (.inl a), x2, x3] st M ↔ uX8_power R 2 [x0, some (.inl a), x2, x3] (.inl a :: st) M := zU_step dX8_power_1 (Or.inl rfl)
theorem dX8_power_2 : decode cX8_power 2 = .ok (.invokevirtual 148, 3) := by decide +kernel
theorem rX8_power_2 {R : zP} {x0 x1 x2 x3 : Option zV} {st : List zV} {M : zM} {a0 a1 : zV} : uX8_power R 2 [x0, x1, x2, x3] (a1 :: a0 :: st) M ↔ (st.length ≤ 4 ∧ zcv (zv 8 tX8_isMember) [a0, a1] M (fun v M => uX8_power R 5 [x0, x1, x2, x3] (v :: st) M)) := Iff.trans (zU_step dX8_power_2 (Or.inl rfl)) ⟨fun h => ⟨h.2.1, zcv_of h.2.2⟩, fun h => ⟨rfl, h.1, zcv_to h.2⟩⟩
theorem dX8_power_5 : decode cX8_power 5 = .ok (.ifCond .eq 29, 3) := by decide +kernel
theorem rX8_power_5 {R : zP} {x0 x1 x2 x3 : Option zV} {st : List zV} {M : zM} {a : Int} : uX8_power R 5 [x0, x1, x2, x3] (.inl a :: st) M ↔ (zIR a ∧ if a = 0 then uX8_power R 34 [x0, x1, x2, x3] st M else uX8_power R 8 [x0, x1, x2, x3] st M) := Iff.trans (zU_step dX8_power_5 (Or.inl rfl)) ⟨fun h => ⟨h.1.1, (zite (c := a = 0)).mpr h.2⟩, fun h => ⟨⟨h.1, by decide⟩, (zite (c := a = 0)).mp h.2⟩⟩
theorem dX8_power_8 : decode cX8_power 8 = .ok (.iload_n 2, 1) := by decide +kernel
theorem rX8_power_8 {R : zP} {x0 x1 x3 : Option zV} {st : List zV} {M : zM} {a : Int} : uX8_power R 8 [x0, x1, some (.inl a), x3] st M ↔ uX8_power R 9 [x0, x1, some (.inl a), x3] (.inl a :: st) M := zU_step dX8_power_8 (Or.inl rfl)
theorem dX8_power_9 : decode cX8_power 9 = .ok (.invokestatic 208, 3) := by decide +kernel
theorem rX8_power_9 {R : zP} {x0 x1 x2 x3 : Option zV} {st : List zV} {M : zM} {a0 : zV} : uX8_power R 9 [x0, x1, x2, x3] (a0 :: st) M ↔ (st.length ≤ 4 ∧ zcv tX8_isQuestion [a0] M (fun v M => uX8_power R 12 [x0, x1, x2, x3] (v :: st) M)) := Iff.trans (zU_step dX8_power_9 (Or.inl rfl)) ⟨fun h => ⟨h.2.1, zcv_of h.2.2⟩, fun h => ⟨rfl, h.1, zcv_to h.2⟩⟩
theorem dX8_power_12 : decode cX8_power 12 = .ok (.ifCond .eq 22, 3) := by decide +kernel
theorem rX8_power_12 {R : zP} {x0 x1 x2 x3 : Option zV} {st : List zV} {M : zM} {a : Int} : uX8_power R 12 [x0, x1, x2, x3] (.inl a :: st) M ↔ (zIR a ∧ if a = 0 then uX8_power R 34 [x0, x1, x2, x3] st M else uX8_power R 15 [x0, x1, x2, x3] st M) := Iff.trans (zU_step dX8_power_12 (Or.inl rfl)) ⟨fun h => ⟨h.1.1, (zite (c := a = 0)).mpr h.2⟩, fun h => ⟨⟨h.1, by decide⟩, (zite (c := a = 0)).mp h.2⟩⟩
theorem dX8_power_15 : decode cX8_power 15 = .ok (.iload_n 3, 1) := by decide +kernel
theorem rX8_power_15 {R : zP} {x0 x1 x2 : Option zV} {st : List zV} {M : zM} {a : Int} : uX8_power R 15 [x0, x1, x2, some (.inl a)] st M ↔ uX8_power R 16 [x0, x1, x2, some (.inl a)] (.inl a :: st) M := zU_step dX8_power_15 (Or.inl rfl)
theorem dX8_power_16 : decode cX8_power 16 = .ok (.iconst 0, 1) := by decide +kernel
theorem rX8_power_16 {R : zP} {x0 x1 x2 x3 : Option zV} {st : List zV} {M : zM} : uX8_power R 16 [x0, x1, x2, x3] st M ↔ uX8_power R 17 [x0, x1, x2, x3] (.inl (0) :: st) M := zU_step dX8_power_16 (Or.inl rfl)
theorem dX8_power_17 : decode cX8_power 17 = .ok (.iconst 1, 1) := by decide +kernel
theorem rX8_power_17 {R : zP} {x0 x1 x2 x3 : Option zV} {st : List zV} {M : zM} : uX8_power R 17 [x0, x1, x2, x3] st M ↔ uX8_power R 18 [x0, x1, x2, x3] (.inl (1) :: st) M := zU_step dX8_power_17 (Or.inl rfl)
theorem dX8_power_18 : decode cX8_power 18 = .ok (.invokestatic 112, 3) := by decide +kernel
theorem rX8_power_18 {R : zP} {x0 x1 x2 x3 : Option zV} {st : List zV} {M : zM} {a0 a1 a2 : zV} : uX8_power R 18 [x0, x1, x2, x3] (a2 :: a1 :: a0 :: st) M ↔ (st.length ≤ 4 ∧ zcv tX8_in [a0, a1, a2] M (fun v M => uX8_power R 21 [x0, x1, x2, x3] (v :: st) M)) := Iff.trans (zU_step dX8_power_18 (Or.inl rfl)) ⟨fun h => ⟨h.2.1, zcv_of h.2.2⟩, fun h => ⟨rfl, h.1, zcv_to h.2⟩⟩
theorem dX8_power_21 : decode cX8_power 21 = .ok (.ifCond .eq 13, 3) := by decide +kernel
theorem rX8_power_21 {R : zP} {x0 x1 x2 x3 : Option zV} {st : List zV} {M : zM} {a : Int} : uX8_power R 21 [x0, x1, x2, x3] (.inl a :: st) M ↔ (zIR a ∧ if a = 0 then uX8_power R 34 [x0, x1, x2, x3] st M else uX8_power R 24 [x0, x1, x2, x3] st M) := Iff.trans (zU_step dX8_power_21 (Or.inl rfl)) ⟨fun h => ⟨h.1.1, (zite (c := a = 0)).mpr h.2⟩, fun h => ⟨⟨h.1, by decide⟩, (zite (c := a = 0)).mp h.2⟩⟩
theorem dX8_power_24 : decode cX8_power 24 = .ok (.aload_n 0, 1) := by decide +kernel
theorem rX8_power_24 {R : zP} {x1 x2 x3 : Option zV} {st : List zV} {M : zM} {a : Nat} : uX8_power R 24 [some (.inr (.inr a)), x1, x2, x3] st M ↔ uX8_power R 25 [some (.inr (.inr a)), x1, x2, x3] (.inr (.inr a) :: st) M := zU_step dX8_power_24 (Or.inl rfl)
theorem dX8_power_25 : decode cX8_power 25 = .ok (.iload_n 1, 1) := by decide +kernel
theorem rX8_power_25 {R : zP} {x0 x2 x3 : Option zV} {st : List zV} {M : zM} {a : Int} : uX8_power R 25 [x0, some (.inl a), x2, x3] st M ↔ uX8_power R 26 [x0, some (.inl a), x2, x3] (.inl a :: st) M := zU_step dX8_power_25 (Or.inl rfl)
theorem dX8_power_26 : decode cX8_power 26 = .ok (.iload_n 2, 1) := by decide +kernel
theorem rX8_power_26 {R : zP} {x0 x1 x3 : Option zV} {st : List zV} {M : zM} {a : Int} : uX8_power R 26 [x0, x1, some (.inl a), x3] st M ↔ uX8_power R 27 [x0, x1, some (.inl a), x3] (.inl a :: st) M := zU_step dX8_power_26 (Or.inl rfl)
theorem dX8_power_27 : decode cX8_power 27 = .ok (.iload_n 3, 1) := by decide +kernel
theorem rX8_power_27 {R : zP} {x0 x1 x2 : Option zV} {st : List zV} {M : zM} {a : Int} : uX8_power R 27 [x0, x1, x2, some (.inl a)] st M ↔ uX8_power R 28 [x0, x1, x2, some (.inl a)] (.inl a :: st) M := zU_step dX8_power_27 (Or.inl rfl)
theorem dX8_power_28 : decode cX8_power 28 = .ok (.invokevirtual 260, 3) := by decide +kernel
theorem rX8_power_28 {R : zP} {x0 x1 x2 x3 : Option zV} {st : List zV} {M : zM} {a0 a1 a2 a3 : zV} : uX8_power R 28 [x0, x1, x2, x3] (a3 :: a2 :: a1 :: a0 :: st) M ↔ (st.length ≤ 4 ∧ zcv (zv 8 tX8_powerOf) [a0, a1, a2, a3] M (fun v M => uX8_power R 31 [x0, x1, x2, x3] (v :: st) M)) := Iff.trans (zU_step dX8_power_28 (Or.inl rfl)) ⟨fun h => ⟨h.2.1, zcv_of h.2.2⟩, fun h => ⟨rfl, h.1, zcv_to h.2⟩⟩
theorem dX8_power_31 : decode cX8_power 31 = .ok (.goto 8, 3) := by decide +kernel
theorem rX8_power_31 {R : zP} {x0 x1 x2 x3 : Option zV} {st : List zV} {M : zM} : uX8_power R 31 [x0, x1, x2, x3] st M ↔ uX8_power R 39 [x0, x1, x2, x3] st M := Iff.trans (zU_step dX8_power_31 (Or.inl rfl)) ⟨fun h => h.2, fun h => ⟨by decide, h⟩⟩
theorem dX8_power_34 : decode cX8_power 34 = .ok (.bipush (-2), 2) := by decide +kernel
theorem rX8_power_34 {R : zP} {x0 x1 x2 x3 : Option zV} {st : List zV} {M : zM} : uX8_power R 34 [x0, x1, x2, x3] st M ↔ uX8_power R 36 [x0, x1, x2, x3] (.inl (-2) :: st) M := Iff.trans (zU_step dX8_power_34 (Or.inl rfl)) ⟨fun h => h.2, fun h => ⟨by decide, h⟩⟩
theorem dX8_power_36 : decode cX8_power 36 = .ok (.invokestatic 264, 3) := by decide +kernel
theorem rX8_power_36 {R : zP} {x0 x1 x2 x3 : Option zV} {st : List zV} {M : zM} {a0 : zV} : uX8_power R 36 [x0, x1, x2, x3] (a0 :: st) M ↔ (st.length ≤ 4 ∧ zcv tX8_no [a0] M (fun v M => uX8_power R 39 [x0, x1, x2, x3] (v :: st) M)) := Iff.trans (zU_step dX8_power_36 (Or.inl rfl)) ⟨fun h => ⟨h.2.1, zcv_of h.2.2⟩, fun h => ⟨rfl, h.1, zcv_to h.2⟩⟩
theorem dX8_power_39 : decode cX8_power 39 = .ok (.lreturn, 1) := by decide +kernel
theorem rX8_power_39 {R : zP} {x0 x1 x2 x3 : Option zV} {M : zM} {a : Int} : uX8_power R 39 [x0, x1, x2, x3] [.inr (.inl a)] M ↔ R (some (.inr (.inl a))) M := Iff.trans (zU_step dX8_power_39 (Or.inl rfl)) ⟨fun h => h.2.2, fun h => ⟨rfl, rfl, h⟩⟩
theorem eX8_power {R : zP} {M : zM} {a0 : Nat} {p0 : Int} {p1 : Int} {p2 : Int} : tX8_power [.inr (.inr a0), .inl p0, .inl p1, .inl p2] M R ↔ uX8_power R 0 [some (.inr (.inr a0)), some (.inl p0), some (.inl p1), some (.inl p2)] [] M := ⟨fun h => h.2, fun h => ⟨show 4 ≤ 4 by decide, h⟩⟩
def uX8_more (R : zP) : zK := zU fX8 vX8_more cX8_more R
theorem dX8_more_0 : decode cX8_more 0 = .ok (.aload_n 0, 1) := by decide +kernel
theorem rX8_more_0 {R : zP} {x1 x2 x3 x4 : Option zV} {st : List zV} {M : zM} {a : Nat} : uX8_more R 0 [some (.inr (.inr a)), x1, x2, x3, x4] st M ↔ uX8_more R 1 [some (.inr (.inr a)), x1, x2, x3, x4] (.inr (.inr a) :: st) M := zU_step dX8_more_0 (Or.inl rfl)
theorem dX8_more_1 : decode cX8_more 1 = .ok (.getfield 37, 3) := by decide +kernel
theorem rX8_more_1 {R : zP} {x0 x1 x2 x3 x4 : Option zV} {st : List zV} {M : zM} {r : Nat} : uX8_more R 1 [x0, x1, x2, x3, x4] (.inr (.inr r) :: st) M ↔ zgetx fX8 37 r M (fun v => uX8_more R 4 [x0, x1, x2, x3, x4] (v :: st) M) := zU_step dX8_more_1 (Or.inl rfl)
theorem dX8_more_4 : decode cX8_more 4 = .ok (.iload_n 1, 1) := by decide +kernel
theorem rX8_more_4 {R : zP} {x0 x2 x3 x4 : Option zV} {st : List zV} {M : zM} {a : Int} : uX8_more R 4 [x0, some (.inl a), x2, x3, x4] st M ↔ uX8_more R 5 [x0, some (.inl a), x2, x3, x4] (.inl a :: st) M := zU_step dX8_more_4 (Or.inl rfl)
theorem dX8_more_5 : decode cX8_more 5 = .ok (.iload_n 2, 1) := by decide +kernel
theorem rX8_more_5 {R : zP} {x0 x1 x3 x4 : Option zV} {st : List zV} {M : zM} {a : Int} : uX8_more R 5 [x0, x1, some (.inl a), x3, x4] st M ↔ uX8_more R 6 [x0, x1, some (.inl a), x3, x4] (.inl a :: st) M := zU_step dX8_more_5 (Or.inl rfl)
theorem dX8_more_6 : decode cX8_more 6 = .ok (.iastore, 1) := by decide +kernel
theorem rX8_more_6 {R : zP} {x0 x1 x2 x3 x4 : Option zV} {st : List zV} {M : zM} {i v : Int} {r : Nat} : uX8_more R 6 [x0, x1, x2, x3, x4] (.inl v :: .inl i :: .inr (.inr r) :: st) M ↔ zwrite 0 r i (uX8_more R 7 [x0, x1, x2, x3, x4] st (zup M r i v)) := zU_step dX8_more_6 (Or.inl rfl)
theorem dX8_more_7 : decode cX8_more 7 = .ok (.aload_n 0, 1) := by decide +kernel
theorem rX8_more_7 {R : zP} {x1 x2 x3 x4 : Option zV} {st : List zV} {M : zM} {a : Nat} : uX8_more R 7 [some (.inr (.inr a)), x1, x2, x3, x4] st M ↔ uX8_more R 8 [some (.inr (.inr a)), x1, x2, x3, x4] (.inr (.inr a) :: st) M := zU_step dX8_more_7 (Or.inl rfl)
theorem dX8_more_8 : decode cX8_more 8 = .ok (.getfield 40, 3) := by decide +kernel
theorem rX8_more_8 {R : zP} {x0 x1 x2 x3 x4 : Option zV} {st : List zV} {M : zM} {r : Nat} : uX8_more R 8 [x0, x1, x2, x3, x4] (.inr (.inr r) :: st) M ↔ zgetx fX8 40 r M (fun v => uX8_more R 11 [x0, x1, x2, x3, x4] (v :: st) M) := zU_step dX8_more_8 (Or.inl rfl)
theorem dX8_more_11 : decode cX8_more 11 = .ok (.iload_n 1, 1) := by decide +kernel
theorem rX8_more_11 {R : zP} {x0 x2 x3 x4 : Option zV} {st : List zV} {M : zM} {a : Int} : uX8_more R 11 [x0, some (.inl a), x2, x3, x4] st M ↔ uX8_more R 12 [x0, some (.inl a), x2, x3, x4] (.inl a :: st) M := zU_step dX8_more_11 (Or.inl rfl)
theorem dX8_more_12 : decode cX8_more 12 = .ok (.iload_n 3, 1) := by decide +kernel
theorem rX8_more_12 {R : zP} {x0 x1 x2 x4 : Option zV} {st : List zV} {M : zM} {a : Int} : uX8_more R 12 [x0, x1, x2, some (.inl a), x4] st M ↔ uX8_more R 13 [x0, x1, x2, some (.inl a), x4] (.inl a :: st) M := zU_step dX8_more_12 (Or.inl rfl)
theorem dX8_more_13 : decode cX8_more 13 = .ok (.iastore, 1) := by decide +kernel
theorem rX8_more_13 {R : zP} {x0 x1 x2 x3 x4 : Option zV} {st : List zV} {M : zM} {i v : Int} {r : Nat} : uX8_more R 13 [x0, x1, x2, x3, x4] (.inl v :: .inl i :: .inr (.inr r) :: st) M ↔ zwrite 0 r i (uX8_more R 14 [x0, x1, x2, x3, x4] st (zup M r i v)) := zU_step dX8_more_13 (Or.inl rfl)
theorem dX8_more_14 : decode cX8_more 14 = .ok (.aload_n 0, 1) := by decide +kernel
theorem rX8_more_14 {R : zP} {x1 x2 x3 x4 : Option zV} {st : List zV} {M : zM} {a : Nat} : uX8_more R 14 [some (.inr (.inr a)), x1, x2, x3, x4] st M ↔ uX8_more R 15 [some (.inr (.inr a)), x1, x2, x3, x4] (.inr (.inr a) :: st) M := zU_step dX8_more_14 (Or.inl rfl)
theorem dX8_more_15 : decode cX8_more 15 = .ok (.getfield 43, 3) := by decide +kernel
theorem rX8_more_15 {R : zP} {x0 x1 x2 x3 x4 : Option zV} {st : List zV} {M : zM} {r : Nat} : uX8_more R 15 [x0, x1, x2, x3, x4] (.inr (.inr r) :: st) M ↔ zgetx fX8 43 r M (fun v => uX8_more R 18 [x0, x1, x2, x3, x4] (v :: st) M) := zU_step dX8_more_15 (Or.inl rfl)
theorem dX8_more_18 : decode cX8_more 18 = .ok (.iload_n 1, 1) := by decide +kernel
theorem rX8_more_18 {R : zP} {x0 x2 x3 x4 : Option zV} {st : List zV} {M : zM} {a : Int} : uX8_more R 18 [x0, some (.inl a), x2, x3, x4] st M ↔ uX8_more R 19 [x0, some (.inl a), x2, x3, x4] (.inl a :: st) M := zU_step dX8_more_18 (Or.inl rfl)
theorem dX8_more_19 : decode cX8_more 19 = .ok (.iload 4, 2) := by decide +kernel
theorem rX8_more_19 {R : zP} {x0 x1 x2 x3 : Option zV} {st : List zV} {M : zM} {a : Int} : uX8_more R 19 [x0, x1, x2, x3, some (.inl a)] st M ↔ uX8_more R 21 [x0, x1, x2, x3, some (.inl a)] (.inl a :: st) M := zU_step dX8_more_19 (Or.inl rfl)
theorem dX8_more_21 : decode cX8_more 21 = .ok (.iastore, 1) := by decide +kernel
theorem rX8_more_21 {R : zP} {x0 x1 x2 x3 x4 : Option zV} {st : List zV} {M : zM} {i v : Int} {r : Nat} : uX8_more R 21 [x0, x1, x2, x3, x4] (.inl v :: .inl i :: .inr (.inr r) :: st) M ↔ zwrite 0 r i (uX8_more R 22 [x0, x1, x2, x3, x4] st (zup M r i v)) := zU_step dX8_more_21 (Or.inl rfl)
theorem dX8_more_22 : decode cX8_more 22 = .ok (.return_, 1) := by decide +kernel
theorem rX8_more_22 {R : zP} {x0 x1 x2 x3 x4 : Option zV} {M : zM} : uX8_more R 22 [x0, x1, x2, x3, x4] [] M ↔ R none M := Iff.trans (zU_step dX8_more_22 (Or.inl rfl)) ⟨fun h => h.2.2, fun h => ⟨rfl, rfl, h⟩⟩
theorem eX8_more {R : zP} {M : zM} {a0 : Nat} {p0 : Int} {p1 : Int} {p2 : Int} {p3 : Int} : tX8_more [.inr (.inr a0), .inl p0, .inl p1, .inl p2, .inl p3] M R ↔ uX8_more R 0 [some (.inr (.inr a0)), some (.inl p0), some (.inl p1), some (.inl p2), some (.inl p3)] [] M := ⟨fun h => h.2, fun h => ⟨show 5 ≤ 5 by decide, h⟩⟩
def uX8_isReared (R : zP) : zK := zU fX8 vX8_isReared cX8_isReared R
theorem dX8_isReared_0 : decode cX8_isReared 0 = .ok (.aload_n 0, 1) := by decide +kernel
theorem rX8_isReared_0 {R : zP} {x1 x2 x3 x4 : Option zV} {st : List zV} {M : zM} {a : Nat} : uX8_isReared R 0 [some (.inr (.inr a)), x1, x2, x3, x4] st M ↔ uX8_isReared R 1 [some (.inr (.inr a)), x1, x2, x3, x4] (.inr (.inr a) :: st) M := zU_step dX8_isReared_0 (Or.inl rfl)
theorem dX8_isReared_1 : decode cX8_isReared 1 = .ok (.aload_n 0, 1) := by decide +kernel
theorem rX8_isReared_1 {R : zP} {x1 x2 x3 x4 : Option zV} {st : List zV} {M : zM} {a : Nat} : uX8_isReared R 1 [some (.inr (.inr a)), x1, x2, x3, x4] st M ↔ uX8_isReared R 2 [some (.inr (.inr a)), x1, x2, x3, x4] (.inr (.inr a) :: st) M := zU_step dX8_isReared_1 (Or.inl rfl)
theorem dX8_isReared_2 : decode cX8_isReared 2 = .ok (.getfield 166, 3) := by decide +kernel
theorem rX8_isReared_2 {R : zP} {x0 x1 x2 x3 x4 : Option zV} {st : List zV} {M : zM} {r : Nat} : uX8_isReared R 2 [x0, x1, x2, x3, x4] (.inr (.inr r) :: st) M ↔ zgetx fX8 166 r M (fun v => uX8_isReared R 5 [x0, x1, x2, x3, x4] (v :: st) M) := zU_step dX8_isReared_2 (Or.inl rfl)
theorem dX8_isReared_5 : decode cX8_isReared 5 = .ok (.iload_n 1, 1) := by decide +kernel
theorem rX8_isReared_5 {R : zP} {x0 x2 x3 x4 : Option zV} {st : List zV} {M : zM} {a : Int} : uX8_isReared R 5 [x0, some (.inl a), x2, x3, x4] st M ↔ uX8_isReared R 6 [x0, some (.inl a), x2, x3, x4] (.inl a :: st) M := zU_step dX8_isReared_5 (Or.inl rfl)
theorem dX8_isReared_6 : decode cX8_isReared 6 = .ok (.iadd, 1) := by decide +kernel
theorem rX8_isReared_6 {R : zP} {x0 x1 x2 x3 x4 : Option zV} {st : List zV} {M : zM} {a b : Int} : uX8_isReared R 6 [x0, x1, x2, x3, x4] (.inl b :: .inl a :: st) M ↔ uX8_isReared R 7 [x0, x1, x2, x3, x4] (.inl (a + b) :: st) M := zU_step dX8_isReared_6 (Or.inl rfl)
theorem dX8_isReared_7 : decode cX8_isReared 7 = .ok (.putfield 178, 3) := by decide +kernel
theorem rX8_isReared_7 {R : zP} {x0 x1 x2 x3 x4 : Option zV} {st : List zV} {M : zM} {r : Nat} {v : zV} : uX8_isReared R 7 [x0, x1, x2, x3, x4] (v :: .inr (.inr r) :: st) M ↔ zputx fX8 178 r M v (fun M => uX8_isReared R 10 [x0, x1, x2, x3, x4] st M) := zU_step dX8_isReared_7 (Or.inl rfl)
theorem dX8_isReared_10 : decode cX8_isReared 10 = .ok (.aload_n 0, 1) := by decide +kernel
theorem rX8_isReared_10 {R : zP} {x1 x2 x3 x4 : Option zV} {st : List zV} {M : zM} {a : Nat} : uX8_isReared R 10 [some (.inr (.inr a)), x1, x2, x3, x4] st M ↔ uX8_isReared R 11 [some (.inr (.inr a)), x1, x2, x3, x4] (.inr (.inr a) :: st) M := zU_step dX8_isReared_10 (Or.inl rfl)
theorem dX8_isReared_11 : decode cX8_isReared 11 = .ok (.invokevirtual 202, 3) := by decide +kernel
theorem rX8_isReared_11 {R : zP} {x0 x1 x2 x3 x4 : Option zV} {st : List zV} {M : zM} {a0 : zV} : uX8_isReared R 11 [x0, x1, x2, x3, x4] (a0 :: st) M ↔ (st.length ≤ 4 ∧ zcn (zv 8 tX8_runs) [a0] M (fun M => uX8_isReared R 14 [x0, x1, x2, x3, x4] st M)) := Iff.trans (zU_step dX8_isReared_11 (Or.inl rfl)) ⟨fun h => ⟨h.2.1, zcn_of h.2.2⟩, fun h => ⟨rfl, h.1, zcn_to h.2⟩⟩
theorem dX8_isReared_14 : decode cX8_isReared 14 = .ok (.iload 4, 2) := by decide +kernel
theorem rX8_isReared_14 {R : zP} {x0 x1 x2 x3 : Option zV} {st : List zV} {M : zM} {a : Int} : uX8_isReared R 14 [x0, x1, x2, x3, some (.inl a)] st M ↔ uX8_isReared R 16 [x0, x1, x2, x3, some (.inl a)] (.inl a :: st) M := zU_step dX8_isReared_14 (Or.inl rfl)
theorem dX8_isReared_16 : decode cX8_isReared 16 = .ok (.aload_n 0, 1) := by decide +kernel
theorem rX8_isReared_16 {R : zP} {x1 x2 x3 x4 : Option zV} {st : List zV} {M : zM} {a : Nat} : uX8_isReared R 16 [some (.inr (.inr a)), x1, x2, x3, x4] st M ↔ uX8_isReared R 17 [some (.inr (.inr a)), x1, x2, x3, x4] (.inr (.inr a) :: st) M := zU_step dX8_isReared_16 (Or.inl rfl)
theorem dX8_isReared_17 : decode cX8_isReared 17 = .ok (.getfield 64, 3) := by decide +kernel
theorem rX8_isReared_17 {R : zP} {x0 x1 x2 x3 x4 : Option zV} {st : List zV} {M : zM} {r : Nat} : uX8_isReared R 17 [x0, x1, x2, x3, x4] (.inr (.inr r) :: st) M ↔ zgetx fX8 64 r M (fun v => uX8_isReared R 20 [x0, x1, x2, x3, x4] (v :: st) M) := zU_step dX8_isReared_17 (Or.inl rfl)
theorem dX8_isReared_20 : decode cX8_isReared 20 = .ok (.sipush 608, 3) := by decide +kernel
theorem rX8_isReared_20 {R : zP} {x0 x1 x2 x3 x4 : Option zV} {st : List zV} {M : zM} : uX8_isReared R 20 [x0, x1, x2, x3, x4] st M ↔ uX8_isReared R 23 [x0, x1, x2, x3, x4] (.inl (608) :: st) M := Iff.trans (zU_step dX8_isReared_20 (Or.inl rfl)) ⟨fun h => h.2, fun h => ⟨by decide, h⟩⟩
theorem dX8_isReared_23 : decode cX8_isReared 23 = .ok (.iconst 4, 1) := by decide +kernel
theorem rX8_isReared_23 {R : zP} {x0 x1 x2 x3 x4 : Option zV} {st : List zV} {M : zM} : uX8_isReared R 23 [x0, x1, x2, x3, x4] st M ↔ uX8_isReared R 24 [x0, x1, x2, x3, x4] (.inl (4) :: st) M := zU_step dX8_isReared_23 (Or.inl rfl)
theorem dX8_isReared_24 : decode cX8_isReared 24 = .ok (.iload_n 2, 1) := by decide +kernel
theorem rX8_isReared_24 {R : zP} {x0 x1 x3 x4 : Option zV} {st : List zV} {M : zM} {a : Int} : uX8_isReared R 24 [x0, x1, some (.inl a), x3, x4] st M ↔ uX8_isReared R 25 [x0, x1, some (.inl a), x3, x4] (.inl a :: st) M := zU_step dX8_isReared_24 (Or.inl rfl)
theorem dX8_isReared_25 : decode cX8_isReared 25 = .ok (.imul, 1) := by decide +kernel
theorem rX8_isReared_25 {R : zP} {x0 x1 x2 x3 x4 : Option zV} {st : List zV} {M : zM} {a b : Int} : uX8_isReared R 25 [x0, x1, x2, x3, x4] (.inl b :: .inl a :: st) M ↔ uX8_isReared R 26 [x0, x1, x2, x3, x4] (.inl (a * b) :: st) M := zU_step dX8_isReared_25 (Or.inl rfl)
theorem dX8_isReared_26 : decode cX8_isReared 26 = .ok (.iadd, 1) := by decide +kernel
theorem rX8_isReared_26 {R : zP} {x0 x1 x2 x3 x4 : Option zV} {st : List zV} {M : zM} {a b : Int} : uX8_isReared R 26 [x0, x1, x2, x3, x4] (.inl b :: .inl a :: st) M ↔ uX8_isReared R 27 [x0, x1, x2, x3, x4] (.inl (a + b) :: st) M := zU_step dX8_isReared_26 (Or.inl rfl)
theorem dX8_isReared_27 : decode cX8_isReared 27 = .ok (.iload_n 3, 1) := by decide +kernel
theorem rX8_isReared_27 {R : zP} {x0 x1 x2 x4 : Option zV} {st : List zV} {M : zM} {a : Int} : uX8_isReared R 27 [x0, x1, x2, some (.inl a), x4] st M ↔ uX8_isReared R 28 [x0, x1, x2, some (.inl a), x4] (.inl a :: st) M := zU_step dX8_isReared_27 (Or.inl rfl)
theorem dX8_isReared_28 : decode cX8_isReared 28 = .ok (.iadd, 1) := by decide +kernel
theorem rX8_isReared_28 {R : zP} {x0 x1 x2 x3 x4 : Option zV} {st : List zV} {M : zM} {a b : Int} : uX8_isReared R 28 [x0, x1, x2, x3, x4] (.inl b :: .inl a :: st) M ↔ uX8_isReared R 29 [x0, x1, x2, x3, x4] (.inl (a + b) :: st) M := zU_step dX8_isReared_28 (Or.inl rfl)
theorem dX8_isReared_29 : decode cX8_isReared 29 = .ok (.iaload, 1) := by decide +kernel
theorem rX8_isReared_29 {R : zP} {x0 x1 x2 x3 x4 : Option zV} {st : List zV} {M : zM} {i : Int} {r : Nat} : uX8_isReared R 29 [x0, x1, x2, x3, x4] (.inl i :: .inr (.inr r) :: st) M ↔ zread fX8 0 r M i (fun v => uX8_isReared R 30 [x0, x1, x2, x3, x4] (.inl v :: st) M) := zU_step dX8_isReared_29 (Or.inl rfl)
theorem dX8_isReared_30 : decode cX8_isReared 30 = .ok (.aload_n 0, 1) := by decide +kernel
theorem rX8_isReared_30 {R : zP} {x1 x2 x3 x4 : Option zV} {st : List zV} {M : zM} {a : Nat} : uX8_isReared R 30 [some (.inr (.inr a)), x1, x2, x3, x4] st M ↔ uX8_isReared R 31 [some (.inr (.inr a)), x1, x2, x3, x4] (.inr (.inr a) :: st) M := zU_step dX8_isReared_30 (Or.inl rfl)
theorem dX8_isReared_31 : decode cX8_isReared 31 = .ok (.getfield 67, 3) := by decide +kernel
theorem rX8_isReared_31 {R : zP} {x0 x1 x2 x3 x4 : Option zV} {st : List zV} {M : zM} {r : Nat} : uX8_isReared R 31 [x0, x1, x2, x3, x4] (.inr (.inr r) :: st) M ↔ zgetx fX8 67 r M (fun v => uX8_isReared R 34 [x0, x1, x2, x3, x4] (v :: st) M) := zU_step dX8_isReared_31 (Or.inl rfl)
theorem dX8_isReared_34 : decode cX8_isReared 34 = .ok (.sipush 608, 3) := by decide +kernel
theorem rX8_isReared_34 {R : zP} {x0 x1 x2 x3 x4 : Option zV} {st : List zV} {M : zM} : uX8_isReared R 34 [x0, x1, x2, x3, x4] st M ↔ uX8_isReared R 37 [x0, x1, x2, x3, x4] (.inl (608) :: st) M := Iff.trans (zU_step dX8_isReared_34 (Or.inl rfl)) ⟨fun h => h.2, fun h => ⟨by decide, h⟩⟩
theorem dX8_isReared_37 : decode cX8_isReared 37 = .ok (.iconst 4, 1) := by decide +kernel
theorem rX8_isReared_37 {R : zP} {x0 x1 x2 x3 x4 : Option zV} {st : List zV} {M : zM} : uX8_isReared R 37 [x0, x1, x2, x3, x4] st M ↔ uX8_isReared R 38 [x0, x1, x2, x3, x4] (.inl (4) :: st) M := zU_step dX8_isReared_37 (Or.inl rfl)
theorem dX8_isReared_38 : decode cX8_isReared 38 = .ok (.iload_n 2, 1) := by decide +kernel
theorem rX8_isReared_38 {R : zP} {x0 x1 x3 x4 : Option zV} {st : List zV} {M : zM} {a : Int} : uX8_isReared R 38 [x0, x1, some (.inl a), x3, x4] st M ↔ uX8_isReared R 39 [x0, x1, some (.inl a), x3, x4] (.inl a :: st) M := zU_step dX8_isReared_38 (Or.inl rfl)
theorem dX8_isReared_39 : decode cX8_isReared 39 = .ok (.imul, 1) := by decide +kernel
theorem rX8_isReared_39 {R : zP} {x0 x1 x2 x3 x4 : Option zV} {st : List zV} {M : zM} {a b : Int} : uX8_isReared R 39 [x0, x1, x2, x3, x4] (.inl b :: .inl a :: st) M ↔ uX8_isReared R 40 [x0, x1, x2, x3, x4] (.inl (a * b) :: st) M := zU_step dX8_isReared_39 (Or.inl rfl)
theorem dX8_isReared_40 : decode cX8_isReared 40 = .ok (.iadd, 1) := by decide +kernel
theorem rX8_isReared_40 {R : zP} {x0 x1 x2 x3 x4 : Option zV} {st : List zV} {M : zM} {a b : Int} : uX8_isReared R 40 [x0, x1, x2, x3, x4] (.inl b :: .inl a :: st) M ↔ uX8_isReared R 41 [x0, x1, x2, x3, x4] (.inl (a + b) :: st) M := zU_step dX8_isReared_40 (Or.inl rfl)
theorem dX8_isReared_41 : decode cX8_isReared 41 = .ok (.iload_n 3, 1) := by decide +kernel
theorem rX8_isReared_41 {R : zP} {x0 x1 x2 x4 : Option zV} {st : List zV} {M : zM} {a : Int} : uX8_isReared R 41 [x0, x1, x2, some (.inl a), x4] st M ↔ uX8_isReared R 42 [x0, x1, x2, some (.inl a), x4] (.inl a :: st) M := zU_step dX8_isReared_41 (Or.inl rfl)
theorem dX8_isReared_42 : decode cX8_isReared 42 = .ok (.iadd, 1) := by decide +kernel
theorem rX8_isReared_42 {R : zP} {x0 x1 x2 x3 x4 : Option zV} {st : List zV} {M : zM} {a b : Int} : uX8_isReared R 42 [x0, x1, x2, x3, x4] (.inl b :: .inl a :: st) M ↔ uX8_isReared R 43 [x0, x1, x2, x3, x4] (.inl (a + b) :: st) M := zU_step dX8_isReared_42 (Or.inl rfl)
theorem dX8_isReared_43 : decode cX8_isReared 43 = .ok (.iaload, 1) := by decide +kernel
theorem rX8_isReared_43 {R : zP} {x0 x1 x2 x3 x4 : Option zV} {st : List zV} {M : zM} {i : Int} {r : Nat} : uX8_isReared R 43 [x0, x1, x2, x3, x4] (.inl i :: .inr (.inr r) :: st) M ↔ zread fX8 0 r M i (fun v => uX8_isReared R 44 [x0, x1, x2, x3, x4] (.inl v :: st) M) := zU_step dX8_isReared_43 (Or.inl rfl)
theorem dX8_isReared_44 : decode cX8_isReared 44 = .ok (.invokestatic 112, 3) := by decide +kernel
theorem rX8_isReared_44 {R : zP} {x0 x1 x2 x3 x4 : Option zV} {st : List zV} {M : zM} {a0 a1 a2 : zV} : uX8_isReared R 44 [x0, x1, x2, x3, x4] (a2 :: a1 :: a0 :: st) M ↔ (st.length ≤ 4 ∧ zcv tX8_in [a0, a1, a2] M (fun v M => uX8_isReared R 47 [x0, x1, x2, x3, x4] (v :: st) M)) := Iff.trans (zU_step dX8_isReared_44 (Or.inl rfl)) ⟨fun h => ⟨h.2.1, zcv_of h.2.2⟩, fun h => ⟨rfl, h.1, zcv_to h.2⟩⟩
theorem dX8_isReared_47 : decode cX8_isReared 47 = .ok (.ireturn, 1) := by decide +kernel
theorem rX8_isReared_47 {R : zP} {x0 x1 x2 x3 x4 : Option zV} {M : zM} {a : Int} : uX8_isReared R 47 [x0, x1, x2, x3, x4] [.inl a] M ↔ ((a = 0 ∨ a = 1) ∧ R (some (.inl a)) M) := Iff.trans (zU_step dX8_isReared_47 (Or.inl rfl)) ⟨fun h => ⟨zret2 rfl h.2.1, h.2.2⟩, fun h => ⟨rfl, Or.inr (Or.inl ⟨rfl, h.1⟩), h.2⟩⟩
theorem eX8_isReared {R : zP} {M : zM} {a0 : Nat} {p0 : Int} {p1 : Int} {p2 : Int} {p3 : Int} : tX8_isReared [.inr (.inr a0), .inl p0, .inl p1, .inl p2, .inl p3] M R ↔ uX8_isReared R 0 [some (.inr (.inr a0)), some (.inl p0), some (.inl p1), some (.inl p2), some (.inl p3)] [] M := ⟨fun h => h.2, fun h => ⟨show 5 ≤ 5 by decide, h⟩⟩
def uX8_rearBy (R : zP) : zK := zU fX8 vX8_rearBy cX8_rearBy R
theorem dX8_rearBy_0 : decode cX8_rearBy 0 = .ok (.aload_n 0, 1) := by decide +kernel
theorem rX8_rearBy_0 {R : zP} {x1 x2 x3 x4 x5 : Option zV} {st : List zV} {M : zM} {a : Nat} : uX8_rearBy R 0 [some (.inr (.inr a)), x1, x2, x3, x4, x5] st M ↔ uX8_rearBy R 1 [some (.inr (.inr a)), x1, x2, x3, x4, x5] (.inr (.inr a) :: st) M := zU_step dX8_rearBy_0 (Or.inl rfl)
theorem dX8_rearBy_1 : decode cX8_rearBy 1 = .ok (.invokevirtual 199, 3) := by decide +kernel
theorem rX8_rearBy_1 {R : zP} {x0 x1 x2 x3 x4 x5 : Option zV} {st : List zV} {M : zM} {a0 : zV} : uX8_rearBy R 1 [x0, x1, x2, x3, x4, x5] (a0 :: st) M ↔ (st.length ≤ 4 ∧ zcn (zv 8 tX8_asTold) [a0] M (fun M => uX8_rearBy R 4 [x0, x1, x2, x3, x4, x5] st M)) := Iff.trans (zU_step dX8_rearBy_1 (Or.inl rfl)) ⟨fun h => ⟨h.2.1, zcn_of h.2.2⟩, fun h => ⟨rfl, h.1, zcn_to h.2⟩⟩
theorem dX8_rearBy_4 : decode cX8_rearBy 4 = .ok (.aload_n 0, 1) := by decide +kernel
theorem rX8_rearBy_4 {R : zP} {x1 x2 x3 x4 x5 : Option zV} {st : List zV} {M : zM} {a : Nat} : uX8_rearBy R 4 [some (.inr (.inr a)), x1, x2, x3, x4, x5] st M ↔ uX8_rearBy R 5 [some (.inr (.inr a)), x1, x2, x3, x4, x5] (.inr (.inr a) :: st) M := zU_step dX8_rearBy_4 (Or.inl rfl)
theorem dX8_rearBy_5 : decode cX8_rearBy 5 = .ok (.iconst 0, 1) := by decide +kernel
theorem rX8_rearBy_5 {R : zP} {x0 x1 x2 x3 x4 x5 : Option zV} {st : List zV} {M : zM} : uX8_rearBy R 5 [x0, x1, x2, x3, x4, x5] st M ↔ uX8_rearBy R 6 [x0, x1, x2, x3, x4, x5] (.inl (0) :: st) M := zU_step dX8_rearBy_5 (Or.inl rfl)
theorem dX8_rearBy_6 : decode cX8_rearBy 6 = .ok (.iload_n 1, 1) := by decide +kernel
theorem rX8_rearBy_6 {R : zP} {x0 x2 x3 x4 x5 : Option zV} {st : List zV} {M : zM} {a : Int} : uX8_rearBy R 6 [x0, some (.inl a), x2, x3, x4, x5] st M ↔ uX8_rearBy R 7 [x0, some (.inl a), x2, x3, x4, x5] (.inl a :: st) M := zU_step dX8_rearBy_6 (Or.inl rfl)
theorem dX8_rearBy_7 : decode cX8_rearBy 7 = .ok (.iload_n 2, 1) := by decide +kernel
theorem rX8_rearBy_7 {R : zP} {x0 x1 x3 x4 x5 : Option zV} {st : List zV} {M : zM} {a : Int} : uX8_rearBy R 7 [x0, x1, some (.inl a), x3, x4, x5] st M ↔ uX8_rearBy R 8 [x0, x1, some (.inl a), x3, x4, x5] (.inl a :: st) M := zU_step dX8_rearBy_7 (Or.inl rfl)
theorem dX8_rearBy_8 : decode cX8_rearBy 8 = .ok (.iload_n 3, 1) := by decide +kernel
theorem rX8_rearBy_8 {R : zP} {x0 x1 x2 x4 x5 : Option zV} {st : List zV} {M : zM} {a : Int} : uX8_rearBy R 8 [x0, x1, x2, some (.inl a), x4, x5] st M ↔ uX8_rearBy R 9 [x0, x1, x2, some (.inl a), x4, x5] (.inl a :: st) M := zU_step dX8_rearBy_8 (Or.inl rfl)
theorem dX8_rearBy_9 : decode cX8_rearBy 9 = .ok (.invokevirtual 267, 3) := by decide +kernel
theorem rX8_rearBy_9 {R : zP} {x0 x1 x2 x3 x4 x5 : Option zV} {st : List zV} {M : zM} {a0 a1 a2 a3 a4 : zV} : uX8_rearBy R 9 [x0, x1, x2, x3, x4, x5] (a4 :: a3 :: a2 :: a1 :: a0 :: st) M ↔ (st.length ≤ 4 ∧ zcv (zv 8 tX8_isReared) [a0, a1, a2, a3, a4] M (fun v M => uX8_rearBy R 12 [x0, x1, x2, x3, x4, x5] (v :: st) M)) := Iff.trans (zU_step dX8_rearBy_9 (Or.inl rfl)) ⟨fun h => ⟨h.2.1, zcv_of h.2.2⟩, fun h => ⟨rfl, h.1, zcv_to h.2⟩⟩
theorem dX8_rearBy_12 : decode cX8_rearBy 12 = .ok (.ifCond .eq 5, 3) := by decide +kernel
theorem rX8_rearBy_12 {R : zP} {x0 x1 x2 x3 x4 x5 : Option zV} {st : List zV} {M : zM} {a : Int} : uX8_rearBy R 12 [x0, x1, x2, x3, x4, x5] (.inl a :: st) M ↔ (zIR a ∧ if a = 0 then uX8_rearBy R 17 [x0, x1, x2, x3, x4, x5] st M else uX8_rearBy R 15 [x0, x1, x2, x3, x4, x5] st M) := Iff.trans (zU_step dX8_rearBy_12 (Or.inl rfl)) ⟨fun h => ⟨h.1.1, (zite (c := a = 0)).mpr h.2⟩, fun h => ⟨⟨h.1, by decide⟩, (zite (c := a = 0)).mp h.2⟩⟩
theorem dX8_rearBy_15 : decode cX8_rearBy 15 = .ok (.iconst 0, 1) := by decide +kernel
theorem rX8_rearBy_15 {R : zP} {x0 x1 x2 x3 x4 x5 : Option zV} {st : List zV} {M : zM} : uX8_rearBy R 15 [x0, x1, x2, x3, x4, x5] st M ↔ uX8_rearBy R 16 [x0, x1, x2, x3, x4, x5] (.inl (0) :: st) M := zU_step dX8_rearBy_15 (Or.inl rfl)
theorem dX8_rearBy_16 : decode cX8_rearBy 16 = .ok (.ireturn, 1) := by decide +kernel
theorem rX8_rearBy_16 {R : zP} {x0 x1 x2 x3 x4 x5 : Option zV} {M : zM} {a : Int} : uX8_rearBy R 16 [x0, x1, x2, x3, x4, x5] [.inl a] M ↔ R (some (.inl a)) M := Iff.trans (zU_step dX8_rearBy_16 (Or.inl rfl)) ⟨fun h => h.2.2, fun h => ⟨rfl, Or.inl rfl, h⟩⟩
theorem dX8_rearBy_17 : decode cX8_rearBy 17 = .ok (.iconst 0, 1) := by decide +kernel
theorem rX8_rearBy_17 {R : zP} {x0 x1 x2 x3 x4 x5 : Option zV} {st : List zV} {M : zM} : uX8_rearBy R 17 [x0, x1, x2, x3, x4, x5] st M ↔ uX8_rearBy R 18 [x0, x1, x2, x3, x4, x5] (.inl (0) :: st) M := zU_step dX8_rearBy_17 (Or.inl rfl)
theorem dX8_rearBy_18 : decode cX8_rearBy 18 = .ok (.istore 4, 2) := by decide +kernel
theorem rX8_rearBy_18 {R : zP} {x0 x1 x2 x4 x5 : Option zV} {st : List zV} {M : zM} {a : Int} {y : Int} : uX8_rearBy R 18 [x0, x1, x2, some (.inl y), x4, x5] (.inl a :: st) M ↔ uX8_rearBy R 20 [x0, x1, x2, some (.inl y), some (.inl a), x5] st M := Iff.trans (zU_step dX8_rearBy_18 (Or.inl rfl)) ⟨fun h => h.2, fun h => ⟨show 4 < 6 by decide, h⟩⟩
theorem rX8_rearBy_18z {R : zP} {x0 x1 x2 x3 x4 x5 : Option zV} {st : List zV} {M : zM} {a : Int} : uX8_rearBy R 18 [x0, x1, x2, x3, x4, x5] (.inl a :: st) M ↔ uX8_rearBy R 20 [x0, x1, x2, zkeep x3, some (.inl a), x5] st M := Iff.trans (zU_step dX8_rearBy_18 (Or.inl rfl)) ⟨fun h => h.2, fun h => ⟨show 4 < 6 by decide, h⟩⟩
theorem dX8_rearBy_20 : decode cX8_rearBy 20 = .ok (.iload 4, 2) := by decide +kernel
theorem rX8_rearBy_20 {R : zP} {x0 x1 x2 x3 x5 : Option zV} {st : List zV} {M : zM} {a : Int} : uX8_rearBy R 20 [x0, x1, x2, x3, some (.inl a), x5] st M ↔ uX8_rearBy R 22 [x0, x1, x2, x3, some (.inl a), x5] (.inl a :: st) M := zU_step dX8_rearBy_20 (Or.inl rfl)
theorem dX8_rearBy_22 : decode cX8_rearBy 22 = .ok (.aload_n 0, 1) := by decide +kernel
theorem rX8_rearBy_22 {R : zP} {x1 x2 x3 x4 x5 : Option zV} {st : List zV} {M : zM} {a : Nat} : uX8_rearBy R 22 [some (.inr (.inr a)), x1, x2, x3, x4, x5] st M ↔ uX8_rearBy R 23 [some (.inr (.inr a)), x1, x2, x3, x4, x5] (.inr (.inr a) :: st) M := zU_step dX8_rearBy_22 (Or.inl rfl)
theorem dX8_rearBy_23 : decode cX8_rearBy 23 = .ok (.getfield 131, 3) := by decide +kernel
theorem rX8_rearBy_23 {R : zP} {x0 x1 x2 x3 x4 x5 : Option zV} {st : List zV} {M : zM} {r : Nat} : uX8_rearBy R 23 [x0, x1, x2, x3, x4, x5] (.inr (.inr r) :: st) M ↔ zgetx fX8 131 r M (fun v => uX8_rearBy R 26 [x0, x1, x2, x3, x4, x5] (v :: st) M) := zU_step dX8_rearBy_23 (Or.inl rfl)
theorem dX8_rearBy_26 : decode cX8_rearBy 26 = .ok (.if_icmp .ge 43, 3) := by decide +kernel
theorem rX8_rearBy_26 {R : zP} {x0 x1 x2 x3 x4 x5 : Option zV} {st : List zV} {M : zM} {a b : Int} : uX8_rearBy R 26 [x0, x1, x2, x3, x4, x5] (.inl b :: .inl a :: st) M ↔ ((zIR a ∧ zIR b) ∧ if b ≤ a then uX8_rearBy R 69 [x0, x1, x2, x3, x4, x5] st M else uX8_rearBy R 29 [x0, x1, x2, x3, x4, x5] st M) := Iff.trans (zU_step dX8_rearBy_26 (Or.inl rfl)) ⟨fun h => ⟨⟨h.1.1, h.1.2.1⟩, (zite (c := b ≤ a)).mpr h.2⟩, fun h => ⟨⟨h.1.1, h.1.2, by decide⟩, (zite (c := b ≤ a)).mp h.2⟩⟩
theorem dX8_rearBy_29 : decode cX8_rearBy 29 = .ok (.aload_n 0, 1) := by decide +kernel
theorem rX8_rearBy_29 {R : zP} {x1 x2 x3 x4 x5 : Option zV} {st : List zV} {M : zM} {a : Nat} : uX8_rearBy R 29 [some (.inr (.inr a)), x1, x2, x3, x4, x5] st M ↔ uX8_rearBy R 30 [some (.inr (.inr a)), x1, x2, x3, x4, x5] (.inr (.inr a) :: st) M := zU_step dX8_rearBy_29 (Or.inl rfl)
theorem dX8_rearBy_30 : decode cX8_rearBy 30 = .ok (.getfield 76, 3) := by decide +kernel
theorem rX8_rearBy_30 {R : zP} {x0 x1 x2 x3 x4 x5 : Option zV} {st : List zV} {M : zM} {r : Nat} : uX8_rearBy R 30 [x0, x1, x2, x3, x4, x5] (.inr (.inr r) :: st) M ↔ zgetx fX8 76 r M (fun v => uX8_rearBy R 33 [x0, x1, x2, x3, x4, x5] (v :: st) M) := zU_step dX8_rearBy_30 (Or.inl rfl)
theorem dX8_rearBy_33 : decode cX8_rearBy 33 = .ok (.iconst 0, 1) := by decide +kernel
theorem rX8_rearBy_33 {R : zP} {x0 x1 x2 x3 x4 x5 : Option zV} {st : List zV} {M : zM} : uX8_rearBy R 33 [x0, x1, x2, x3, x4, x5] st M ↔ uX8_rearBy R 34 [x0, x1, x2, x3, x4, x5] (.inl (0) :: st) M := zU_step dX8_rearBy_33 (Or.inl rfl)
theorem dX8_rearBy_34 : decode cX8_rearBy 34 = .ok (.iload 4, 2) := by decide +kernel
theorem rX8_rearBy_34 {R : zP} {x0 x1 x2 x3 x5 : Option zV} {st : List zV} {M : zM} {a : Int} : uX8_rearBy R 34 [x0, x1, x2, x3, some (.inl a), x5] st M ↔ uX8_rearBy R 36 [x0, x1, x2, x3, some (.inl a), x5] (.inl a :: st) M := zU_step dX8_rearBy_34 (Or.inl rfl)
theorem dX8_rearBy_36 : decode cX8_rearBy 36 = .ok (.iastore, 1) := by decide +kernel
theorem rX8_rearBy_36 {R : zP} {x0 x1 x2 x3 x4 x5 : Option zV} {st : List zV} {M : zM} {i v : Int} {r : Nat} : uX8_rearBy R 36 [x0, x1, x2, x3, x4, x5] (.inl v :: .inl i :: .inr (.inr r) :: st) M ↔ zwrite 0 r i (uX8_rearBy R 37 [x0, x1, x2, x3, x4, x5] st (zup M r i v)) := zU_step dX8_rearBy_36 (Or.inl rfl)
theorem dX8_rearBy_37 : decode cX8_rearBy 37 = .ok (.aload_n 0, 1) := by decide +kernel
theorem rX8_rearBy_37 {R : zP} {x1 x2 x3 x4 x5 : Option zV} {st : List zV} {M : zM} {a : Nat} : uX8_rearBy R 37 [some (.inr (.inr a)), x1, x2, x3, x4, x5] st M ↔ uX8_rearBy R 38 [some (.inr (.inr a)), x1, x2, x3, x4, x5] (.inr (.inr a) :: st) M := zU_step dX8_rearBy_37 (Or.inl rfl)
theorem dX8_rearBy_38 : decode cX8_rearBy 38 = .ok (.aload_n 0, 1) := by decide +kernel
theorem rX8_rearBy_38 {R : zP} {x1 x2 x3 x4 x5 : Option zV} {st : List zV} {M : zM} {a : Nat} : uX8_rearBy R 38 [some (.inr (.inr a)), x1, x2, x3, x4, x5] st M ↔ uX8_rearBy R 39 [some (.inr (.inr a)), x1, x2, x3, x4, x5] (.inr (.inr a) :: st) M := zU_step dX8_rearBy_38 (Or.inl rfl)
theorem dX8_rearBy_39 : decode cX8_rearBy 39 = .ok (.getfield 166, 3) := by decide +kernel
theorem rX8_rearBy_39 {R : zP} {x0 x1 x2 x3 x4 x5 : Option zV} {st : List zV} {M : zM} {r : Nat} : uX8_rearBy R 39 [x0, x1, x2, x3, x4, x5] (.inr (.inr r) :: st) M ↔ zgetx fX8 166 r M (fun v => uX8_rearBy R 42 [x0, x1, x2, x3, x4, x5] (v :: st) M) := zU_step dX8_rearBy_39 (Or.inl rfl)
theorem dX8_rearBy_42 : decode cX8_rearBy 42 = .ok (.bipush 19, 2) := by decide +kernel
theorem rX8_rearBy_42 {R : zP} {x0 x1 x2 x3 x4 x5 : Option zV} {st : List zV} {M : zM} : uX8_rearBy R 42 [x0, x1, x2, x3, x4, x5] st M ↔ uX8_rearBy R 44 [x0, x1, x2, x3, x4, x5] (.inl (19) :: st) M := Iff.trans (zU_step dX8_rearBy_42 (Or.inl rfl)) ⟨fun h => h.2, fun h => ⟨by decide, h⟩⟩
theorem dX8_rearBy_44 : decode cX8_rearBy 44 = .ok (.iload_n 1, 1) := by decide +kernel
theorem rX8_rearBy_44 {R : zP} {x0 x2 x3 x4 x5 : Option zV} {st : List zV} {M : zM} {a : Int} : uX8_rearBy R 44 [x0, some (.inl a), x2, x3, x4, x5] st M ↔ uX8_rearBy R 45 [x0, some (.inl a), x2, x3, x4, x5] (.inl a :: st) M := zU_step dX8_rearBy_44 (Or.inl rfl)
theorem dX8_rearBy_45 : decode cX8_rearBy 45 = .ok (.iload 4, 2) := by decide +kernel
theorem rX8_rearBy_45 {R : zP} {x0 x1 x2 x3 x5 : Option zV} {st : List zV} {M : zM} {a : Int} : uX8_rearBy R 45 [x0, x1, x2, x3, some (.inl a), x5] st M ↔ uX8_rearBy R 47 [x0, x1, x2, x3, some (.inl a), x5] (.inl a :: st) M := zU_step dX8_rearBy_45 (Or.inl rfl)
theorem dX8_rearBy_47 : decode cX8_rearBy 47 = .ok (.invokevirtual 271, 3) := by decide +kernel
theorem rX8_rearBy_47 {R : zP} {x0 x1 x2 x3 x4 x5 : Option zV} {st : List zV} {M : zM} {a0 a1 a2 a3 a4 : zV} : uX8_rearBy R 47 [x0, x1, x2, x3, x4, x5] (a4 :: a3 :: a2 :: a1 :: a0 :: st) M ↔ (st.length ≤ 4 ∧ zcn (zv 8 tX8_more) [a0, a1, a2, a3, a4] M (fun M => uX8_rearBy R 50 [x0, x1, x2, x3, x4, x5] st M)) := Iff.trans (zU_step dX8_rearBy_47 (Or.inl rfl)) ⟨fun h => ⟨h.2.1, zcn_of h.2.2⟩, fun h => ⟨rfl, h.1, zcn_to h.2⟩⟩
theorem dX8_rearBy_50 : decode cX8_rearBy 50 = .ok (.aload_n 0, 1) := by decide +kernel
theorem rX8_rearBy_50 {R : zP} {x1 x2 x3 x4 x5 : Option zV} {st : List zV} {M : zM} {a : Nat} : uX8_rearBy R 50 [some (.inr (.inr a)), x1, x2, x3, x4, x5] st M ↔ uX8_rearBy R 51 [some (.inr (.inr a)), x1, x2, x3, x4, x5] (.inr (.inr a) :: st) M := zU_step dX8_rearBy_50 (Or.inl rfl)
theorem dX8_rearBy_51 : decode cX8_rearBy 51 = .ok (.iconst 1, 1) := by decide +kernel
theorem rX8_rearBy_51 {R : zP} {x0 x1 x2 x3 x4 x5 : Option zV} {st : List zV} {M : zM} : uX8_rearBy R 51 [x0, x1, x2, x3, x4, x5] st M ↔ uX8_rearBy R 52 [x0, x1, x2, x3, x4, x5] (.inl (1) :: st) M := zU_step dX8_rearBy_51 (Or.inl rfl)
theorem dX8_rearBy_52 : decode cX8_rearBy 52 = .ok (.iload_n 1, 1) := by decide +kernel
theorem rX8_rearBy_52 {R : zP} {x0 x2 x3 x4 x5 : Option zV} {st : List zV} {M : zM} {a : Int} : uX8_rearBy R 52 [x0, some (.inl a), x2, x3, x4, x5] st M ↔ uX8_rearBy R 53 [x0, some (.inl a), x2, x3, x4, x5] (.inl a :: st) M := zU_step dX8_rearBy_52 (Or.inl rfl)
theorem dX8_rearBy_53 : decode cX8_rearBy 53 = .ok (.iload_n 2, 1) := by decide +kernel
theorem rX8_rearBy_53 {R : zP} {x0 x1 x3 x4 x5 : Option zV} {st : List zV} {M : zM} {a : Int} : uX8_rearBy R 53 [x0, x1, some (.inl a), x3, x4, x5] st M ↔ uX8_rearBy R 54 [x0, x1, some (.inl a), x3, x4, x5] (.inl a :: st) M := zU_step dX8_rearBy_53 (Or.inl rfl)
theorem dX8_rearBy_54 : decode cX8_rearBy 54 = .ok (.iload_n 3, 1) := by decide +kernel
theorem rX8_rearBy_54 {R : zP} {x0 x1 x2 x4 x5 : Option zV} {st : List zV} {M : zM} {a : Int} : uX8_rearBy R 54 [x0, x1, x2, some (.inl a), x4, x5] st M ↔ uX8_rearBy R 55 [x0, x1, x2, some (.inl a), x4, x5] (.inl a :: st) M := zU_step dX8_rearBy_54 (Or.inl rfl)
theorem dX8_rearBy_55 : decode cX8_rearBy 55 = .ok (.invokevirtual 267, 3) := by decide +kernel
theorem rX8_rearBy_55 {R : zP} {x0 x1 x2 x3 x4 x5 : Option zV} {st : List zV} {M : zM} {a0 a1 a2 a3 a4 : zV} : uX8_rearBy R 55 [x0, x1, x2, x3, x4, x5] (a4 :: a3 :: a2 :: a1 :: a0 :: st) M ↔ (st.length ≤ 4 ∧ zcv (zv 8 tX8_isReared) [a0, a1, a2, a3, a4] M (fun v M => uX8_rearBy R 58 [x0, x1, x2, x3, x4, x5] (v :: st) M)) := Iff.trans (zU_step dX8_rearBy_55 (Or.inl rfl)) ⟨fun h => ⟨h.2.1, zcv_of h.2.2⟩, fun h => ⟨rfl, h.1, zcv_to h.2⟩⟩
theorem dX8_rearBy_58 : decode cX8_rearBy 58 = .ok (.ifCond .eq 5, 3) := by decide +kernel
theorem rX8_rearBy_58 {R : zP} {x0 x1 x2 x3 x4 x5 : Option zV} {st : List zV} {M : zM} {a : Int} : uX8_rearBy R 58 [x0, x1, x2, x3, x4, x5] (.inl a :: st) M ↔ (zIR a ∧ if a = 0 then uX8_rearBy R 63 [x0, x1, x2, x3, x4, x5] st M else uX8_rearBy R 61 [x0, x1, x2, x3, x4, x5] st M) := Iff.trans (zU_step dX8_rearBy_58 (Or.inl rfl)) ⟨fun h => ⟨h.1.1, (zite (c := a = 0)).mpr h.2⟩, fun h => ⟨⟨h.1, by decide⟩, (zite (c := a = 0)).mp h.2⟩⟩
theorem dX8_rearBy_61 : decode cX8_rearBy 61 = .ok (.iconst 1, 1) := by decide +kernel
theorem rX8_rearBy_61 {R : zP} {x0 x1 x2 x3 x4 x5 : Option zV} {st : List zV} {M : zM} : uX8_rearBy R 61 [x0, x1, x2, x3, x4, x5] st M ↔ uX8_rearBy R 62 [x0, x1, x2, x3, x4, x5] (.inl (1) :: st) M := zU_step dX8_rearBy_61 (Or.inl rfl)
theorem dX8_rearBy_62 : decode cX8_rearBy 62 = .ok (.ireturn, 1) := by decide +kernel
theorem rX8_rearBy_62 {R : zP} {x0 x1 x2 x3 x4 x5 : Option zV} {M : zM} {a : Int} : uX8_rearBy R 62 [x0, x1, x2, x3, x4, x5] [.inl a] M ↔ R (some (.inl a)) M := Iff.trans (zU_step dX8_rearBy_62 (Or.inl rfl)) ⟨fun h => h.2.2, fun h => ⟨rfl, Or.inl rfl, h⟩⟩
theorem dX8_rearBy_63 : decode cX8_rearBy 63 = .ok (.iinc 4 1, 3) := by decide +kernel
theorem rX8_rearBy_63 {R : zP} {x0 x1 x2 x5 : Option zV} {st : List zV} {M : zM} {a : Int} {y : Int} : uX8_rearBy R 63 [x0, x1, x2, some (.inl y), some (.inl a), x5] st M ↔ uX8_rearBy R 66 [x0, x1, x2, some (.inl y), some (.inl (a + (1))), x5] st M := Iff.trans (zU_step dX8_rearBy_63 (Or.inl rfl)) ⟨fun h => h.2, fun h => ⟨show 4 < 6 by decide, h⟩⟩
theorem rX8_rearBy_63z {R : zP} {x0 x1 x2 x3 x5 : Option zV} {st : List zV} {M : zM} {a : Int} : uX8_rearBy R 63 [x0, x1, x2, x3, some (.inl a), x5] st M ↔ uX8_rearBy R 66 [x0, x1, x2, zkeep x3, some (.inl (a + (1))), x5] st M := Iff.trans (zU_step dX8_rearBy_63 (Or.inl rfl)) ⟨fun h => h.2, fun h => ⟨show 4 < 6 by decide, h⟩⟩
theorem dX8_rearBy_66 : decode cX8_rearBy 66 = .ok (.goto (-46), 3) := by decide +kernel
theorem rX8_rearBy_66 {R : zP} {x0 x1 x2 x3 x4 x5 : Option zV} {st : List zV} {M : zM} : uX8_rearBy R 66 [x0, x1, x2, x3, x4, x5] st M ↔ uX8_rearBy R 20 [x0, x1, x2, x3, x4, x5] st M := Iff.trans (zU_step dX8_rearBy_66 (Or.inl rfl)) ⟨fun h => h.2, fun h => ⟨by decide, h⟩⟩
theorem dX8_rearBy_69 : decode cX8_rearBy 69 = .ok (.iconst 0, 1) := by decide +kernel
theorem rX8_rearBy_69 {R : zP} {x0 x1 x2 x3 x4 x5 : Option zV} {st : List zV} {M : zM} : uX8_rearBy R 69 [x0, x1, x2, x3, x4, x5] st M ↔ uX8_rearBy R 70 [x0, x1, x2, x3, x4, x5] (.inl (0) :: st) M := zU_step dX8_rearBy_69 (Or.inl rfl)
theorem dX8_rearBy_70 : decode cX8_rearBy 70 = .ok (.istore 4, 2) := by decide +kernel
theorem rX8_rearBy_70 {R : zP} {x0 x1 x2 x4 x5 : Option zV} {st : List zV} {M : zM} {a : Int} {y : Int} : uX8_rearBy R 70 [x0, x1, x2, some (.inl y), x4, x5] (.inl a :: st) M ↔ uX8_rearBy R 72 [x0, x1, x2, some (.inl y), some (.inl a), x5] st M := Iff.trans (zU_step dX8_rearBy_70 (Or.inl rfl)) ⟨fun h => h.2, fun h => ⟨show 4 < 6 by decide, h⟩⟩
theorem rX8_rearBy_70z {R : zP} {x0 x1 x2 x3 x4 x5 : Option zV} {st : List zV} {M : zM} {a : Int} : uX8_rearBy R 70 [x0, x1, x2, x3, x4, x5] (.inl a :: st) M ↔ uX8_rearBy R 72 [x0, x1, x2, zkeep x3, some (.inl a), x5] st M := Iff.trans (zU_step dX8_rearBy_70 (Or.inl rfl)) ⟨fun h => h.2, fun h => ⟨show 4 < 6 by decide, h⟩⟩
theorem dX8_rearBy_72 : decode cX8_rearBy 72 = .ok (.iload 4, 2) := by decide +kernel
theorem rX8_rearBy_72 {R : zP} {x0 x1 x2 x3 x5 : Option zV} {st : List zV} {M : zM} {a : Int} : uX8_rearBy R 72 [x0, x1, x2, x3, some (.inl a), x5] st M ↔ uX8_rearBy R 74 [x0, x1, x2, x3, some (.inl a), x5] (.inl a :: st) M := zU_step dX8_rearBy_72 (Or.inl rfl)
theorem dX8_rearBy_74 : decode cX8_rearBy 74 = .ok (.aload_n 0, 1) := by decide +kernel
theorem rX8_rearBy_74 {R : zP} {x1 x2 x3 x4 x5 : Option zV} {st : List zV} {M : zM} {a : Nat} : uX8_rearBy R 74 [some (.inr (.inr a)), x1, x2, x3, x4, x5] st M ↔ uX8_rearBy R 75 [some (.inr (.inr a)), x1, x2, x3, x4, x5] (.inr (.inr a) :: st) M := zU_step dX8_rearBy_74 (Or.inl rfl)
theorem dX8_rearBy_75 : decode cX8_rearBy 75 = .ok (.getfield 131, 3) := by decide +kernel
theorem rX8_rearBy_75 {R : zP} {x0 x1 x2 x3 x4 x5 : Option zV} {st : List zV} {M : zM} {r : Nat} : uX8_rearBy R 75 [x0, x1, x2, x3, x4, x5] (.inr (.inr r) :: st) M ↔ zgetx fX8 131 r M (fun v => uX8_rearBy R 78 [x0, x1, x2, x3, x4, x5] (v :: st) M) := zU_step dX8_rearBy_75 (Or.inl rfl)
theorem dX8_rearBy_78 : decode cX8_rearBy 78 = .ok (.if_icmp .ge 84, 3) := by decide +kernel
theorem rX8_rearBy_78 {R : zP} {x0 x1 x2 x3 x4 x5 : Option zV} {st : List zV} {M : zM} {a b : Int} : uX8_rearBy R 78 [x0, x1, x2, x3, x4, x5] (.inl b :: .inl a :: st) M ↔ ((zIR a ∧ zIR b) ∧ if b ≤ a then uX8_rearBy R 162 [x0, x1, x2, x3, x4, x5] st M else uX8_rearBy R 81 [x0, x1, x2, x3, x4, x5] st M) := Iff.trans (zU_step dX8_rearBy_78 (Or.inl rfl)) ⟨fun h => ⟨⟨h.1.1, h.1.2.1⟩, (zite (c := b ≤ a)).mpr h.2⟩, fun h => ⟨⟨h.1.1, h.1.2, by decide⟩, (zite (c := b ≤ a)).mp h.2⟩⟩
theorem dX8_rearBy_81 : decode cX8_rearBy 81 = .ok (.iconst 0, 1) := by decide +kernel
theorem rX8_rearBy_81 {R : zP} {x0 x1 x2 x3 x4 x5 : Option zV} {st : List zV} {M : zM} : uX8_rearBy R 81 [x0, x1, x2, x3, x4, x5] st M ↔ uX8_rearBy R 82 [x0, x1, x2, x3, x4, x5] (.inl (0) :: st) M := zU_step dX8_rearBy_81 (Or.inl rfl)
theorem dX8_rearBy_82 : decode cX8_rearBy 82 = .ok (.istore 5, 2) := by decide +kernel
theorem rX8_rearBy_82 {R : zP} {x0 x1 x2 x3 x5 : Option zV} {st : List zV} {M : zM} {a : Int} {y : Int} : uX8_rearBy R 82 [x0, x1, x2, x3, some (.inl y), x5] (.inl a :: st) M ↔ uX8_rearBy R 84 [x0, x1, x2, x3, some (.inl y), some (.inl a)] st M := Iff.trans (zU_step dX8_rearBy_82 (Or.inl rfl)) ⟨fun h => h.2, fun h => ⟨show 5 < 6 by decide, h⟩⟩
theorem rX8_rearBy_82z {R : zP} {x0 x1 x2 x3 x4 x5 : Option zV} {st : List zV} {M : zM} {a : Int} : uX8_rearBy R 82 [x0, x1, x2, x3, x4, x5] (.inl a :: st) M ↔ uX8_rearBy R 84 [x0, x1, x2, x3, zkeep x4, some (.inl a)] st M := Iff.trans (zU_step dX8_rearBy_82 (Or.inl rfl)) ⟨fun h => h.2, fun h => ⟨show 5 < 6 by decide, h⟩⟩
theorem dX8_rearBy_84 : decode cX8_rearBy 84 = .ok (.iload 5, 2) := by decide +kernel
theorem rX8_rearBy_84 {R : zP} {x0 x1 x2 x3 x4 : Option zV} {st : List zV} {M : zM} {a : Int} : uX8_rearBy R 84 [x0, x1, x2, x3, x4, some (.inl a)] st M ↔ uX8_rearBy R 86 [x0, x1, x2, x3, x4, some (.inl a)] (.inl a :: st) M := zU_step dX8_rearBy_84 (Or.inl rfl)
theorem dX8_rearBy_86 : decode cX8_rearBy 86 = .ok (.aload_n 0, 1) := by decide +kernel
theorem rX8_rearBy_86 {R : zP} {x1 x2 x3 x4 x5 : Option zV} {st : List zV} {M : zM} {a : Nat} : uX8_rearBy R 86 [some (.inr (.inr a)), x1, x2, x3, x4, x5] st M ↔ uX8_rearBy R 87 [some (.inr (.inr a)), x1, x2, x3, x4, x5] (.inr (.inr a) :: st) M := zU_step dX8_rearBy_86 (Or.inl rfl)
theorem dX8_rearBy_87 : decode cX8_rearBy 87 = .ok (.getfield 131, 3) := by decide +kernel
theorem rX8_rearBy_87 {R : zP} {x0 x1 x2 x3 x4 x5 : Option zV} {st : List zV} {M : zM} {r : Nat} : uX8_rearBy R 87 [x0, x1, x2, x3, x4, x5] (.inr (.inr r) :: st) M ↔ zgetx fX8 131 r M (fun v => uX8_rearBy R 90 [x0, x1, x2, x3, x4, x5] (v :: st) M) := zU_step dX8_rearBy_87 (Or.inl rfl)
theorem dX8_rearBy_90 : decode cX8_rearBy 90 = .ok (.if_icmp .ge 66, 3) := by decide +kernel
theorem rX8_rearBy_90 {R : zP} {x0 x1 x2 x3 x4 x5 : Option zV} {st : List zV} {M : zM} {a b : Int} : uX8_rearBy R 90 [x0, x1, x2, x3, x4, x5] (.inl b :: .inl a :: st) M ↔ ((zIR a ∧ zIR b) ∧ if b ≤ a then uX8_rearBy R 156 [x0, x1, x2, x3, x4, x5] st M else uX8_rearBy R 93 [x0, x1, x2, x3, x4, x5] st M) := Iff.trans (zU_step dX8_rearBy_90 (Or.inl rfl)) ⟨fun h => ⟨⟨h.1.1, h.1.2.1⟩, (zite (c := b ≤ a)).mpr h.2⟩, fun h => ⟨⟨h.1.1, h.1.2, by decide⟩, (zite (c := b ≤ a)).mp h.2⟩⟩
theorem dX8_rearBy_93 : decode cX8_rearBy 93 = .ok (.aload_n 0, 1) := by decide +kernel
theorem rX8_rearBy_93 {R : zP} {x1 x2 x3 x4 x5 : Option zV} {st : List zV} {M : zM} {a : Nat} : uX8_rearBy R 93 [some (.inr (.inr a)), x1, x2, x3, x4, x5] st M ↔ uX8_rearBy R 94 [some (.inr (.inr a)), x1, x2, x3, x4, x5] (.inr (.inr a) :: st) M := zU_step dX8_rearBy_93 (Or.inl rfl)
theorem dX8_rearBy_94 : decode cX8_rearBy 94 = .ok (.getfield 76, 3) := by decide +kernel
theorem rX8_rearBy_94 {R : zP} {x0 x1 x2 x3 x4 x5 : Option zV} {st : List zV} {M : zM} {r : Nat} : uX8_rearBy R 94 [x0, x1, x2, x3, x4, x5] (.inr (.inr r) :: st) M ↔ zgetx fX8 76 r M (fun v => uX8_rearBy R 97 [x0, x1, x2, x3, x4, x5] (v :: st) M) := zU_step dX8_rearBy_94 (Or.inl rfl)
theorem dX8_rearBy_97 : decode cX8_rearBy 97 = .ok (.iconst 0, 1) := by decide +kernel
theorem rX8_rearBy_97 {R : zP} {x0 x1 x2 x3 x4 x5 : Option zV} {st : List zV} {M : zM} : uX8_rearBy R 97 [x0, x1, x2, x3, x4, x5] st M ↔ uX8_rearBy R 98 [x0, x1, x2, x3, x4, x5] (.inl (0) :: st) M := zU_step dX8_rearBy_97 (Or.inl rfl)
theorem dX8_rearBy_98 : decode cX8_rearBy 98 = .ok (.iload 4, 2) := by decide +kernel
theorem rX8_rearBy_98 {R : zP} {x0 x1 x2 x3 x5 : Option zV} {st : List zV} {M : zM} {a : Int} : uX8_rearBy R 98 [x0, x1, x2, x3, some (.inl a), x5] st M ↔ uX8_rearBy R 100 [x0, x1, x2, x3, some (.inl a), x5] (.inl a :: st) M := zU_step dX8_rearBy_98 (Or.inl rfl)
theorem dX8_rearBy_100 : decode cX8_rearBy 100 = .ok (.iastore, 1) := by decide +kernel
theorem rX8_rearBy_100 {R : zP} {x0 x1 x2 x3 x4 x5 : Option zV} {st : List zV} {M : zM} {i v : Int} {r : Nat} : uX8_rearBy R 100 [x0, x1, x2, x3, x4, x5] (.inl v :: .inl i :: .inr (.inr r) :: st) M ↔ zwrite 0 r i (uX8_rearBy R 101 [x0, x1, x2, x3, x4, x5] st (zup M r i v)) := zU_step dX8_rearBy_100 (Or.inl rfl)
theorem dX8_rearBy_101 : decode cX8_rearBy 101 = .ok (.aload_n 0, 1) := by decide +kernel
theorem rX8_rearBy_101 {R : zP} {x1 x2 x3 x4 x5 : Option zV} {st : List zV} {M : zM} {a : Nat} : uX8_rearBy R 101 [some (.inr (.inr a)), x1, x2, x3, x4, x5] st M ↔ uX8_rearBy R 102 [some (.inr (.inr a)), x1, x2, x3, x4, x5] (.inr (.inr a) :: st) M := zU_step dX8_rearBy_101 (Or.inl rfl)
theorem dX8_rearBy_102 : decode cX8_rearBy 102 = .ok (.getfield 76, 3) := by decide +kernel
theorem rX8_rearBy_102 {R : zP} {x0 x1 x2 x3 x4 x5 : Option zV} {st : List zV} {M : zM} {r : Nat} : uX8_rearBy R 102 [x0, x1, x2, x3, x4, x5] (.inr (.inr r) :: st) M ↔ zgetx fX8 76 r M (fun v => uX8_rearBy R 105 [x0, x1, x2, x3, x4, x5] (v :: st) M) := zU_step dX8_rearBy_102 (Or.inl rfl)
theorem dX8_rearBy_105 : decode cX8_rearBy 105 = .ok (.iconst 1, 1) := by decide +kernel
theorem rX8_rearBy_105 {R : zP} {x0 x1 x2 x3 x4 x5 : Option zV} {st : List zV} {M : zM} : uX8_rearBy R 105 [x0, x1, x2, x3, x4, x5] st M ↔ uX8_rearBy R 106 [x0, x1, x2, x3, x4, x5] (.inl (1) :: st) M := zU_step dX8_rearBy_105 (Or.inl rfl)
theorem dX8_rearBy_106 : decode cX8_rearBy 106 = .ok (.iload 5, 2) := by decide +kernel
theorem rX8_rearBy_106 {R : zP} {x0 x1 x2 x3 x4 : Option zV} {st : List zV} {M : zM} {a : Int} : uX8_rearBy R 106 [x0, x1, x2, x3, x4, some (.inl a)] st M ↔ uX8_rearBy R 108 [x0, x1, x2, x3, x4, some (.inl a)] (.inl a :: st) M := zU_step dX8_rearBy_106 (Or.inl rfl)
theorem dX8_rearBy_108 : decode cX8_rearBy 108 = .ok (.iastore, 1) := by decide +kernel
theorem rX8_rearBy_108 {R : zP} {x0 x1 x2 x3 x4 x5 : Option zV} {st : List zV} {M : zM} {i v : Int} {r : Nat} : uX8_rearBy R 108 [x0, x1, x2, x3, x4, x5] (.inl v :: .inl i :: .inr (.inr r) :: st) M ↔ zwrite 0 r i (uX8_rearBy R 109 [x0, x1, x2, x3, x4, x5] st (zup M r i v)) := zU_step dX8_rearBy_108 (Or.inl rfl)
theorem dX8_rearBy_109 : decode cX8_rearBy 109 = .ok (.aload_n 0, 1) := by decide +kernel
theorem rX8_rearBy_109 {R : zP} {x1 x2 x3 x4 x5 : Option zV} {st : List zV} {M : zM} {a : Nat} : uX8_rearBy R 109 [some (.inr (.inr a)), x1, x2, x3, x4, x5] st M ↔ uX8_rearBy R 110 [some (.inr (.inr a)), x1, x2, x3, x4, x5] (.inr (.inr a) :: st) M := zU_step dX8_rearBy_109 (Or.inl rfl)
theorem dX8_rearBy_110 : decode cX8_rearBy 110 = .ok (.aload_n 0, 1) := by decide +kernel
theorem rX8_rearBy_110 {R : zP} {x1 x2 x3 x4 x5 : Option zV} {st : List zV} {M : zM} {a : Nat} : uX8_rearBy R 110 [some (.inr (.inr a)), x1, x2, x3, x4, x5] st M ↔ uX8_rearBy R 111 [some (.inr (.inr a)), x1, x2, x3, x4, x5] (.inr (.inr a) :: st) M := zU_step dX8_rearBy_110 (Or.inl rfl)
theorem dX8_rearBy_111 : decode cX8_rearBy 111 = .ok (.getfield 166, 3) := by decide +kernel
theorem rX8_rearBy_111 {R : zP} {x0 x1 x2 x3 x4 x5 : Option zV} {st : List zV} {M : zM} {r : Nat} : uX8_rearBy R 111 [x0, x1, x2, x3, x4, x5] (.inr (.inr r) :: st) M ↔ zgetx fX8 166 r M (fun v => uX8_rearBy R 114 [x0, x1, x2, x3, x4, x5] (v :: st) M) := zU_step dX8_rearBy_111 (Or.inl rfl)
theorem dX8_rearBy_114 : decode cX8_rearBy 114 = .ok (.bipush 19, 2) := by decide +kernel
theorem rX8_rearBy_114 {R : zP} {x0 x1 x2 x3 x4 x5 : Option zV} {st : List zV} {M : zM} : uX8_rearBy R 114 [x0, x1, x2, x3, x4, x5] st M ↔ uX8_rearBy R 116 [x0, x1, x2, x3, x4, x5] (.inl (19) :: st) M := Iff.trans (zU_step dX8_rearBy_114 (Or.inl rfl)) ⟨fun h => h.2, fun h => ⟨by decide, h⟩⟩
theorem dX8_rearBy_116 : decode cX8_rearBy 116 = .ok (.iload_n 1, 1) := by decide +kernel
theorem rX8_rearBy_116 {R : zP} {x0 x2 x3 x4 x5 : Option zV} {st : List zV} {M : zM} {a : Int} : uX8_rearBy R 116 [x0, some (.inl a), x2, x3, x4, x5] st M ↔ uX8_rearBy R 117 [x0, some (.inl a), x2, x3, x4, x5] (.inl a :: st) M := zU_step dX8_rearBy_116 (Or.inl rfl)
theorem dX8_rearBy_117 : decode cX8_rearBy 117 = .ok (.iload 4, 2) := by decide +kernel
theorem rX8_rearBy_117 {R : zP} {x0 x1 x2 x3 x5 : Option zV} {st : List zV} {M : zM} {a : Int} : uX8_rearBy R 117 [x0, x1, x2, x3, some (.inl a), x5] st M ↔ uX8_rearBy R 119 [x0, x1, x2, x3, some (.inl a), x5] (.inl a :: st) M := zU_step dX8_rearBy_117 (Or.inl rfl)
theorem dX8_rearBy_119 : decode cX8_rearBy 119 = .ok (.invokevirtual 271, 3) := by decide +kernel
theorem rX8_rearBy_119 {R : zP} {x0 x1 x2 x3 x4 x5 : Option zV} {st : List zV} {M : zM} {a0 a1 a2 a3 a4 : zV} : uX8_rearBy R 119 [x0, x1, x2, x3, x4, x5] (a4 :: a3 :: a2 :: a1 :: a0 :: st) M ↔ (st.length ≤ 4 ∧ zcn (zv 8 tX8_more) [a0, a1, a2, a3, a4] M (fun M => uX8_rearBy R 122 [x0, x1, x2, x3, x4, x5] st M)) := Iff.trans (zU_step dX8_rearBy_119 (Or.inl rfl)) ⟨fun h => ⟨h.2.1, zcn_of h.2.2⟩, fun h => ⟨rfl, h.1, zcn_to h.2⟩⟩
theorem dX8_rearBy_122 : decode cX8_rearBy 122 = .ok (.aload_n 0, 1) := by decide +kernel
theorem rX8_rearBy_122 {R : zP} {x1 x2 x3 x4 x5 : Option zV} {st : List zV} {M : zM} {a : Nat} : uX8_rearBy R 122 [some (.inr (.inr a)), x1, x2, x3, x4, x5] st M ↔ uX8_rearBy R 123 [some (.inr (.inr a)), x1, x2, x3, x4, x5] (.inr (.inr a) :: st) M := zU_step dX8_rearBy_122 (Or.inl rfl)
theorem dX8_rearBy_123 : decode cX8_rearBy 123 = .ok (.aload_n 0, 1) := by decide +kernel
theorem rX8_rearBy_123 {R : zP} {x1 x2 x3 x4 x5 : Option zV} {st : List zV} {M : zM} {a : Nat} : uX8_rearBy R 123 [some (.inr (.inr a)), x1, x2, x3, x4, x5] st M ↔ uX8_rearBy R 124 [some (.inr (.inr a)), x1, x2, x3, x4, x5] (.inr (.inr a) :: st) M := zU_step dX8_rearBy_123 (Or.inl rfl)
theorem dX8_rearBy_124 : decode cX8_rearBy 124 = .ok (.getfield 166, 3) := by decide +kernel
theorem rX8_rearBy_124 {R : zP} {x0 x1 x2 x3 x4 x5 : Option zV} {st : List zV} {M : zM} {r : Nat} : uX8_rearBy R 124 [x0, x1, x2, x3, x4, x5] (.inr (.inr r) :: st) M ↔ zgetx fX8 166 r M (fun v => uX8_rearBy R 127 [x0, x1, x2, x3, x4, x5] (v :: st) M) := zU_step dX8_rearBy_124 (Or.inl rfl)
theorem dX8_rearBy_127 : decode cX8_rearBy 127 = .ok (.iconst 1, 1) := by decide +kernel
theorem rX8_rearBy_127 {R : zP} {x0 x1 x2 x3 x4 x5 : Option zV} {st : List zV} {M : zM} : uX8_rearBy R 127 [x0, x1, x2, x3, x4, x5] st M ↔ uX8_rearBy R 128 [x0, x1, x2, x3, x4, x5] (.inl (1) :: st) M := zU_step dX8_rearBy_127 (Or.inl rfl)
theorem dX8_rearBy_128 : decode cX8_rearBy 128 = .ok (.iadd, 1) := by decide +kernel
theorem rX8_rearBy_128 {R : zP} {x0 x1 x2 x3 x4 x5 : Option zV} {st : List zV} {M : zM} {a b : Int} : uX8_rearBy R 128 [x0, x1, x2, x3, x4, x5] (.inl b :: .inl a :: st) M ↔ uX8_rearBy R 129 [x0, x1, x2, x3, x4, x5] (.inl (a + b) :: st) M := zU_step dX8_rearBy_128 (Or.inl rfl)
theorem dX8_rearBy_129 : decode cX8_rearBy 129 = .ok (.bipush 19, 2) := by decide +kernel
theorem rX8_rearBy_129 {R : zP} {x0 x1 x2 x3 x4 x5 : Option zV} {st : List zV} {M : zM} : uX8_rearBy R 129 [x0, x1, x2, x3, x4, x5] st M ↔ uX8_rearBy R 131 [x0, x1, x2, x3, x4, x5] (.inl (19) :: st) M := Iff.trans (zU_step dX8_rearBy_129 (Or.inl rfl)) ⟨fun h => h.2, fun h => ⟨by decide, h⟩⟩
theorem dX8_rearBy_131 : decode cX8_rearBy 131 = .ok (.iload_n 1, 1) := by decide +kernel
theorem rX8_rearBy_131 {R : zP} {x0 x2 x3 x4 x5 : Option zV} {st : List zV} {M : zM} {a : Int} : uX8_rearBy R 131 [x0, some (.inl a), x2, x3, x4, x5] st M ↔ uX8_rearBy R 132 [x0, some (.inl a), x2, x3, x4, x5] (.inl a :: st) M := zU_step dX8_rearBy_131 (Or.inl rfl)
theorem dX8_rearBy_132 : decode cX8_rearBy 132 = .ok (.iload 5, 2) := by decide +kernel
theorem rX8_rearBy_132 {R : zP} {x0 x1 x2 x3 x4 : Option zV} {st : List zV} {M : zM} {a : Int} : uX8_rearBy R 132 [x0, x1, x2, x3, x4, some (.inl a)] st M ↔ uX8_rearBy R 134 [x0, x1, x2, x3, x4, some (.inl a)] (.inl a :: st) M := zU_step dX8_rearBy_132 (Or.inl rfl)
theorem dX8_rearBy_134 : decode cX8_rearBy 134 = .ok (.invokevirtual 271, 3) := by decide +kernel
theorem rX8_rearBy_134 {R : zP} {x0 x1 x2 x3 x4 x5 : Option zV} {st : List zV} {M : zM} {a0 a1 a2 a3 a4 : zV} : uX8_rearBy R 134 [x0, x1, x2, x3, x4, x5] (a4 :: a3 :: a2 :: a1 :: a0 :: st) M ↔ (st.length ≤ 4 ∧ zcn (zv 8 tX8_more) [a0, a1, a2, a3, a4] M (fun M => uX8_rearBy R 137 [x0, x1, x2, x3, x4, x5] st M)) := Iff.trans (zU_step dX8_rearBy_134 (Or.inl rfl)) ⟨fun h => ⟨h.2.1, zcn_of h.2.2⟩, fun h => ⟨rfl, h.1, zcn_to h.2⟩⟩
theorem dX8_rearBy_137 : decode cX8_rearBy 137 = .ok (.aload_n 0, 1) := by decide +kernel
theorem rX8_rearBy_137 {R : zP} {x1 x2 x3 x4 x5 : Option zV} {st : List zV} {M : zM} {a : Nat} : uX8_rearBy R 137 [some (.inr (.inr a)), x1, x2, x3, x4, x5] st M ↔ uX8_rearBy R 138 [some (.inr (.inr a)), x1, x2, x3, x4, x5] (.inr (.inr a) :: st) M := zU_step dX8_rearBy_137 (Or.inl rfl)
theorem dX8_rearBy_138 : decode cX8_rearBy 138 = .ok (.iconst 2, 1) := by decide +kernel
theorem rX8_rearBy_138 {R : zP} {x0 x1 x2 x3 x4 x5 : Option zV} {st : List zV} {M : zM} : uX8_rearBy R 138 [x0, x1, x2, x3, x4, x5] st M ↔ uX8_rearBy R 139 [x0, x1, x2, x3, x4, x5] (.inl (2) :: st) M := zU_step dX8_rearBy_138 (Or.inl rfl)
theorem dX8_rearBy_139 : decode cX8_rearBy 139 = .ok (.iload_n 1, 1) := by decide +kernel
theorem rX8_rearBy_139 {R : zP} {x0 x2 x3 x4 x5 : Option zV} {st : List zV} {M : zM} {a : Int} : uX8_rearBy R 139 [x0, some (.inl a), x2, x3, x4, x5] st M ↔ uX8_rearBy R 140 [x0, some (.inl a), x2, x3, x4, x5] (.inl a :: st) M := zU_step dX8_rearBy_139 (Or.inl rfl)
theorem dX8_rearBy_140 : decode cX8_rearBy 140 = .ok (.iload_n 2, 1) := by decide +kernel
theorem rX8_rearBy_140 {R : zP} {x0 x1 x3 x4 x5 : Option zV} {st : List zV} {M : zM} {a : Int} : uX8_rearBy R 140 [x0, x1, some (.inl a), x3, x4, x5] st M ↔ uX8_rearBy R 141 [x0, x1, some (.inl a), x3, x4, x5] (.inl a :: st) M := zU_step dX8_rearBy_140 (Or.inl rfl)
theorem dX8_rearBy_141 : decode cX8_rearBy 141 = .ok (.iload_n 3, 1) := by decide +kernel
theorem rX8_rearBy_141 {R : zP} {x0 x1 x2 x4 x5 : Option zV} {st : List zV} {M : zM} {a : Int} : uX8_rearBy R 141 [x0, x1, x2, some (.inl a), x4, x5] st M ↔ uX8_rearBy R 142 [x0, x1, x2, some (.inl a), x4, x5] (.inl a :: st) M := zU_step dX8_rearBy_141 (Or.inl rfl)
theorem dX8_rearBy_142 : decode cX8_rearBy 142 = .ok (.invokevirtual 267, 3) := by decide +kernel
theorem rX8_rearBy_142 {R : zP} {x0 x1 x2 x3 x4 x5 : Option zV} {st : List zV} {M : zM} {a0 a1 a2 a3 a4 : zV} : uX8_rearBy R 142 [x0, x1, x2, x3, x4, x5] (a4 :: a3 :: a2 :: a1 :: a0 :: st) M ↔ (st.length ≤ 4 ∧ zcv (zv 8 tX8_isReared) [a0, a1, a2, a3, a4] M (fun v M => uX8_rearBy R 145 [x0, x1, x2, x3, x4, x5] (v :: st) M)) := Iff.trans (zU_step dX8_rearBy_142 (Or.inl rfl)) ⟨fun h => ⟨h.2.1, zcv_of h.2.2⟩, fun h => ⟨rfl, h.1, zcv_to h.2⟩⟩
theorem dX8_rearBy_145 : decode cX8_rearBy 145 = .ok (.ifCond .eq 5, 3) := by decide +kernel
theorem rX8_rearBy_145 {R : zP} {x0 x1 x2 x3 x4 x5 : Option zV} {st : List zV} {M : zM} {a : Int} : uX8_rearBy R 145 [x0, x1, x2, x3, x4, x5] (.inl a :: st) M ↔ (zIR a ∧ if a = 0 then uX8_rearBy R 150 [x0, x1, x2, x3, x4, x5] st M else uX8_rearBy R 148 [x0, x1, x2, x3, x4, x5] st M) := Iff.trans (zU_step dX8_rearBy_145 (Or.inl rfl)) ⟨fun h => ⟨h.1.1, (zite (c := a = 0)).mpr h.2⟩, fun h => ⟨⟨h.1, by decide⟩, (zite (c := a = 0)).mp h.2⟩⟩
theorem dX8_rearBy_148 : decode cX8_rearBy 148 = .ok (.iconst 2, 1) := by decide +kernel
theorem rX8_rearBy_148 {R : zP} {x0 x1 x2 x3 x4 x5 : Option zV} {st : List zV} {M : zM} : uX8_rearBy R 148 [x0, x1, x2, x3, x4, x5] st M ↔ uX8_rearBy R 149 [x0, x1, x2, x3, x4, x5] (.inl (2) :: st) M := zU_step dX8_rearBy_148 (Or.inl rfl)
theorem dX8_rearBy_149 : decode cX8_rearBy 149 = .ok (.ireturn, 1) := by decide +kernel
theorem rX8_rearBy_149 {R : zP} {x0 x1 x2 x3 x4 x5 : Option zV} {M : zM} {a : Int} : uX8_rearBy R 149 [x0, x1, x2, x3, x4, x5] [.inl a] M ↔ R (some (.inl a)) M := Iff.trans (zU_step dX8_rearBy_149 (Or.inl rfl)) ⟨fun h => h.2.2, fun h => ⟨rfl, Or.inl rfl, h⟩⟩
theorem dX8_rearBy_150 : decode cX8_rearBy 150 = .ok (.iinc 5 1, 3) := by decide +kernel
theorem rX8_rearBy_150 {R : zP} {x0 x1 x2 x3 : Option zV} {st : List zV} {M : zM} {a : Int} {y : Int} : uX8_rearBy R 150 [x0, x1, x2, x3, some (.inl y), some (.inl a)] st M ↔ uX8_rearBy R 153 [x0, x1, x2, x3, some (.inl y), some (.inl (a + (1)))] st M := Iff.trans (zU_step dX8_rearBy_150 (Or.inl rfl)) ⟨fun h => h.2, fun h => ⟨show 5 < 6 by decide, h⟩⟩
theorem rX8_rearBy_150z {R : zP} {x0 x1 x2 x3 x4 : Option zV} {st : List zV} {M : zM} {a : Int} : uX8_rearBy R 150 [x0, x1, x2, x3, x4, some (.inl a)] st M ↔ uX8_rearBy R 153 [x0, x1, x2, x3, zkeep x4, some (.inl (a + (1)))] st M := Iff.trans (zU_step dX8_rearBy_150 (Or.inl rfl)) ⟨fun h => h.2, fun h => ⟨show 5 < 6 by decide, h⟩⟩
theorem dX8_rearBy_153 : decode cX8_rearBy 153 = .ok (.goto (-69), 3) := by decide +kernel
theorem rX8_rearBy_153 {R : zP} {x0 x1 x2 x3 x4 x5 : Option zV} {st : List zV} {M : zM} : uX8_rearBy R 153 [x0, x1, x2, x3, x4, x5] st M ↔ uX8_rearBy R 84 [x0, x1, x2, x3, x4, x5] st M := Iff.trans (zU_step dX8_rearBy_153 (Or.inl rfl)) ⟨fun h => h.2, fun h => ⟨by decide, h⟩⟩
theorem dX8_rearBy_156 : decode cX8_rearBy 156 = .ok (.iinc 4 1, 3) := by decide +kernel
theorem rX8_rearBy_156 {R : zP} {x0 x1 x2 x5 : Option zV} {st : List zV} {M : zM} {a : Int} {y : Int} : uX8_rearBy R 156 [x0, x1, x2, some (.inl y), some (.inl a), x5] st M ↔ uX8_rearBy R 159 [x0, x1, x2, some (.inl y), some (.inl (a + (1))), x5] st M := Iff.trans (zU_step dX8_rearBy_156 (Or.inl rfl)) ⟨fun h => h.2, fun h => ⟨show 4 < 6 by decide, h⟩⟩
theorem rX8_rearBy_156z {R : zP} {x0 x1 x2 x3 x5 : Option zV} {st : List zV} {M : zM} {a : Int} : uX8_rearBy R 156 [x0, x1, x2, x3, some (.inl a), x5] st M ↔ uX8_rearBy R 159 [x0, x1, x2, zkeep x3, some (.inl (a + (1))), x5] st M := Iff.trans (zU_step dX8_rearBy_156 (Or.inl rfl)) ⟨fun h => h.2, fun h => ⟨show 4 < 6 by decide, h⟩⟩
theorem dX8_rearBy_159 : decode cX8_rearBy 159 = .ok (.goto (-87), 3) := by decide +kernel
theorem rX8_rearBy_159 {R : zP} {x0 x1 x2 x3 x4 x5 : Option zV} {st : List zV} {M : zM} : uX8_rearBy R 159 [x0, x1, x2, x3, x4, x5] st M ↔ uX8_rearBy R 72 [x0, x1, x2, x3, x4, x5] st M := Iff.trans (zU_step dX8_rearBy_159 (Or.inl rfl)) ⟨fun h => h.2, fun h => ⟨by decide, h⟩⟩
theorem dX8_rearBy_162 : decode cX8_rearBy 162 = .ok (.iconst (-1), 1) := by decide +kernel
theorem rX8_rearBy_162 {R : zP} {x0 x1 x2 x3 x4 x5 : Option zV} {st : List zV} {M : zM} : uX8_rearBy R 162 [x0, x1, x2, x3, x4, x5] st M ↔ uX8_rearBy R 163 [x0, x1, x2, x3, x4, x5] (.inl (-1) :: st) M := zU_step dX8_rearBy_162 (Or.inl rfl)
theorem dX8_rearBy_163 : decode cX8_rearBy 163 = .ok (.ireturn, 1) := by decide +kernel
theorem rX8_rearBy_163 {R : zP} {x0 x1 x2 x3 x4 x5 : Option zV} {M : zM} {a : Int} : uX8_rearBy R 163 [x0, x1, x2, x3, x4, x5] [.inl a] M ↔ R (some (.inl a)) M := Iff.trans (zU_step dX8_rearBy_163 (Or.inl rfl)) ⟨fun h => h.2.2, fun h => ⟨rfl, Or.inl rfl, h⟩⟩
theorem eX8_rearBy {R : zP} {M : zM} {a0 : Nat} {p0 : Int} {p1 : Int} {p2 : Int} : tX8_rearBy [.inr (.inr a0), .inl p0, .inl p1, .inl p2] M R ↔ uX8_rearBy R 0 [some (.inr (.inr a0)), some (.inl p0), some (.inl p1), some (.inl p2), none, none] [] M := ⟨fun h => h.2, fun h => ⟨show 4 ≤ 6 by decide, h⟩⟩
def uX8_ofRow (R : zP) : zK := zU fX8 vX8_ofRow cX8_ofRow R
theorem dX8_ofRow_0 : decode cX8_ofRow 0 = .ok (.iload_n 2, 1) := by decide +kernel
theorem rX8_ofRow_0 {R : zP} {x0 x1 : Option zV} {st : List zV} {M : zM} {a : Int} : uX8_ofRow R 0 [x0, x1, some (.inl a)] st M ↔ uX8_ofRow R 1 [x0, x1, some (.inl a)] (.inl a :: st) M := zU_step dX8_ofRow_0 (Or.inl rfl)
theorem dX8_ofRow_1 : decode cX8_ofRow 1 = .ok (.iconst (-1), 1) := by decide +kernel
theorem rX8_ofRow_1 {R : zP} {x0 x1 x2 : Option zV} {st : List zV} {M : zM} : uX8_ofRow R 1 [x0, x1, x2] st M ↔ uX8_ofRow R 2 [x0, x1, x2] (.inl (-1) :: st) M := zU_step dX8_ofRow_1 (Or.inl rfl)
theorem dX8_ofRow_2 : decode cX8_ofRow 2 = .ok (.if_icmp .ne 7, 3) := by decide +kernel
theorem rX8_ofRow_2 {R : zP} {x0 x1 x2 : Option zV} {st : List zV} {M : zM} {a b : Int} : uX8_ofRow R 2 [x0, x1, x2] (.inl b :: .inl a :: st) M ↔ ((zIR a ∧ zIR b) ∧ if a ≠ b then uX8_ofRow R 9 [x0, x1, x2] st M else uX8_ofRow R 5 [x0, x1, x2] st M) := Iff.trans (zU_step dX8_ofRow_2 (Or.inl rfl)) ⟨fun h => ⟨⟨h.1.1, h.1.2.1⟩, (zite (c := a ≠ b)).mpr h.2⟩, fun h => ⟨⟨h.1.1, h.1.2, by decide⟩, (zite (c := a ≠ b)).mp h.2⟩⟩
theorem dX8_ofRow_5 : decode cX8_ofRow 5 = .ok (.iload_n 1, 1) := by decide +kernel
theorem rX8_ofRow_5 {R : zP} {x0 x2 : Option zV} {st : List zV} {M : zM} {a : Int} : uX8_ofRow R 5 [x0, some (.inl a), x2] st M ↔ uX8_ofRow R 6 [x0, some (.inl a), x2] (.inl a :: st) M := zU_step dX8_ofRow_5 (Or.inl rfl)
theorem dX8_ofRow_6 : decode cX8_ofRow 6 = .ok (.goto 18, 3) := by decide +kernel
theorem rX8_ofRow_6 {R : zP} {x0 x1 x2 : Option zV} {st : List zV} {M : zM} : uX8_ofRow R 6 [x0, x1, x2] st M ↔ uX8_ofRow R 24 [x0, x1, x2] st M := Iff.trans (zU_step dX8_ofRow_6 (Or.inl rfl)) ⟨fun h => h.2, fun h => ⟨by decide, h⟩⟩
theorem dX8_ofRow_9 : decode cX8_ofRow 9 = .ok (.iload_n 2, 1) := by decide +kernel
theorem rX8_ofRow_9 {R : zP} {x0 x1 : Option zV} {st : List zV} {M : zM} {a : Int} : uX8_ofRow R 9 [x0, x1, some (.inl a)] st M ↔ uX8_ofRow R 10 [x0, x1, some (.inl a)] (.inl a :: st) M := zU_step dX8_ofRow_9 (Or.inl rfl)
theorem dX8_ofRow_10 : decode cX8_ofRow 10 = .ok (.iload_n 1, 1) := by decide +kernel
theorem rX8_ofRow_10 {R : zP} {x0 x2 : Option zV} {st : List zV} {M : zM} {a : Int} : uX8_ofRow R 10 [x0, some (.inl a), x2] st M ↔ uX8_ofRow R 11 [x0, some (.inl a), x2] (.inl a :: st) M := zU_step dX8_ofRow_10 (Or.inl rfl)
theorem dX8_ofRow_11 : decode cX8_ofRow 11 = .ok (.if_icmp .ge 12, 3) := by decide +kernel
theorem rX8_ofRow_11 {R : zP} {x0 x1 x2 : Option zV} {st : List zV} {M : zM} {a b : Int} : uX8_ofRow R 11 [x0, x1, x2] (.inl b :: .inl a :: st) M ↔ ((zIR a ∧ zIR b) ∧ if b ≤ a then uX8_ofRow R 23 [x0, x1, x2] st M else uX8_ofRow R 14 [x0, x1, x2] st M) := Iff.trans (zU_step dX8_ofRow_11 (Or.inl rfl)) ⟨fun h => ⟨⟨h.1.1, h.1.2.1⟩, (zite (c := b ≤ a)).mpr h.2⟩, fun h => ⟨⟨h.1.1, h.1.2, by decide⟩, (zite (c := b ≤ a)).mp h.2⟩⟩
theorem dX8_ofRow_14 : decode cX8_ofRow 14 = .ok (.aload_n 0, 1) := by decide +kernel
theorem rX8_ofRow_14 {R : zP} {x1 x2 : Option zV} {st : List zV} {M : zM} {a : Nat} : uX8_ofRow R 14 [some (.inr (.inr a)), x1, x2] st M ↔ uX8_ofRow R 15 [some (.inr (.inr a)), x1, x2] (.inr (.inr a) :: st) M := zU_step dX8_ofRow_14 (Or.inl rfl)
theorem dX8_ofRow_15 : decode cX8_ofRow 15 = .ok (.getfield 76, 3) := by decide +kernel
theorem rX8_ofRow_15 {R : zP} {x0 x1 x2 : Option zV} {st : List zV} {M : zM} {r : Nat} : uX8_ofRow R 15 [x0, x1, x2] (.inr (.inr r) :: st) M ↔ zgetx fX8 76 r M (fun v => uX8_ofRow R 18 [x0, x1, x2] (v :: st) M) := zU_step dX8_ofRow_15 (Or.inl rfl)
theorem dX8_ofRow_18 : decode cX8_ofRow 18 = .ok (.iload_n 2, 1) := by decide +kernel
theorem rX8_ofRow_18 {R : zP} {x0 x1 : Option zV} {st : List zV} {M : zM} {a : Int} : uX8_ofRow R 18 [x0, x1, some (.inl a)] st M ↔ uX8_ofRow R 19 [x0, x1, some (.inl a)] (.inl a :: st) M := zU_step dX8_ofRow_18 (Or.inl rfl)
theorem dX8_ofRow_19 : decode cX8_ofRow 19 = .ok (.iaload, 1) := by decide +kernel
theorem rX8_ofRow_19 {R : zP} {x0 x1 x2 : Option zV} {st : List zV} {M : zM} {i : Int} {r : Nat} : uX8_ofRow R 19 [x0, x1, x2] (.inl i :: .inr (.inr r) :: st) M ↔ zread fX8 0 r M i (fun v => uX8_ofRow R 20 [x0, x1, x2] (.inl v :: st) M) := zU_step dX8_ofRow_19 (Or.inl rfl)
theorem dX8_ofRow_20 : decode cX8_ofRow 20 = .ok (.goto 4, 3) := by decide +kernel
theorem rX8_ofRow_20 {R : zP} {x0 x1 x2 : Option zV} {st : List zV} {M : zM} : uX8_ofRow R 20 [x0, x1, x2] st M ↔ uX8_ofRow R 24 [x0, x1, x2] st M := Iff.trans (zU_step dX8_ofRow_20 (Or.inl rfl)) ⟨fun h => h.2, fun h => ⟨by decide, h⟩⟩
theorem dX8_ofRow_23 : decode cX8_ofRow 23 = .ok (.iconst (-1), 1) := by decide +kernel
theorem rX8_ofRow_23 {R : zP} {x0 x1 x2 : Option zV} {st : List zV} {M : zM} : uX8_ofRow R 23 [x0, x1, x2] st M ↔ uX8_ofRow R 24 [x0, x1, x2] (.inl (-1) :: st) M := zU_step dX8_ofRow_23 (Or.inl rfl)
theorem dX8_ofRow_24 : decode cX8_ofRow 24 = .ok (.ireturn, 1) := by decide +kernel
theorem rX8_ofRow_24 {R : zP} {x0 x1 x2 : Option zV} {M : zM} {a : Int} : uX8_ofRow R 24 [x0, x1, x2] [.inl a] M ↔ R (some (.inl a)) M := Iff.trans (zU_step dX8_ofRow_24 (Or.inl rfl)) ⟨fun h => h.2.2, fun h => ⟨rfl, Or.inl rfl, h⟩⟩
theorem eX8_ofRow {R : zP} {M : zM} {a0 : Nat} {p0 : Int} {p1 : Int} : tX8_ofRow [.inr (.inr a0), .inl p0, .inl p1] M R ↔ uX8_ofRow R 0 [some (.inr (.inr a0)), some (.inl p0), some (.inl p1)] [] M := ⟨fun h => h.2, fun h => ⟨show 3 ≤ 3 by decide, h⟩⟩
def uX8_rear (R : zP) : zK := zU fX8 vX8_rear cX8_rear R
theorem dX8_rear_0 : decode cX8_rear 0 = .ok (.aload_n 0, 1) := by decide +kernel
theorem rX8_rear_0 {R : zP} {x1 x2 x3 x4 : Option zV} {st : List zV} {M : zM} {a : Nat} : uX8_rear R 0 [some (.inr (.inr a)), x1, x2, x3, x4] st M ↔ uX8_rear R 1 [some (.inr (.inr a)), x1, x2, x3, x4] (.inr (.inr a) :: st) M := zU_step dX8_rear_0 (Or.inl rfl)
theorem dX8_rear_1 : decode cX8_rear 1 = .ok (.iload_n 1, 1) := by decide +kernel
theorem rX8_rear_1 {R : zP} {x0 x2 x3 x4 : Option zV} {st : List zV} {M : zM} {a : Int} : uX8_rear R 1 [x0, some (.inl a), x2, x3, x4] st M ↔ uX8_rear R 2 [x0, some (.inl a), x2, x3, x4] (.inl a :: st) M := zU_step dX8_rear_1 (Or.inl rfl)
theorem dX8_rear_2 : decode cX8_rear 2 = .ok (.invokevirtual 148, 3) := by decide +kernel
theorem rX8_rear_2 {R : zP} {x0 x1 x2 x3 x4 : Option zV} {st : List zV} {M : zM} {a0 a1 : zV} : uX8_rear R 2 [x0, x1, x2, x3, x4] (a1 :: a0 :: st) M ↔ (st.length ≤ 4 ∧ zcv (zv 8 tX8_isMember) [a0, a1] M (fun v M => uX8_rear R 5 [x0, x1, x2, x3, x4] (v :: st) M)) := Iff.trans (zU_step dX8_rear_2 (Or.inl rfl)) ⟨fun h => ⟨h.2.1, zcv_of h.2.2⟩, fun h => ⟨rfl, h.1, zcv_to h.2⟩⟩
theorem dX8_rear_5 : decode cX8_rear 5 = .ok (.ifCond .eq 46, 3) := by decide +kernel
theorem rX8_rear_5 {R : zP} {x0 x1 x2 x3 x4 : Option zV} {st : List zV} {M : zM} {a : Int} : uX8_rear R 5 [x0, x1, x2, x3, x4] (.inl a :: st) M ↔ (zIR a ∧ if a = 0 then uX8_rear R 51 [x0, x1, x2, x3, x4] st M else uX8_rear R 8 [x0, x1, x2, x3, x4] st M) := Iff.trans (zU_step dX8_rear_5 (Or.inl rfl)) ⟨fun h => ⟨h.1.1, (zite (c := a = 0)).mpr h.2⟩, fun h => ⟨⟨h.1, by decide⟩, (zite (c := a = 0)).mp h.2⟩⟩
theorem dX8_rear_8 : decode cX8_rear 8 = .ok (.iload_n 2, 1) := by decide +kernel
theorem rX8_rear_8 {R : zP} {x0 x1 x3 x4 : Option zV} {st : List zV} {M : zM} {a : Int} : uX8_rear R 8 [x0, x1, some (.inl a), x3, x4] st M ↔ uX8_rear R 9 [x0, x1, some (.inl a), x3, x4] (.inl a :: st) M := zU_step dX8_rear_8 (Or.inl rfl)
theorem dX8_rear_9 : decode cX8_rear 9 = .ok (.invokestatic 208, 3) := by decide +kernel
theorem rX8_rear_9 {R : zP} {x0 x1 x2 x3 x4 : Option zV} {st : List zV} {M : zM} {a0 : zV} : uX8_rear R 9 [x0, x1, x2, x3, x4] (a0 :: st) M ↔ (st.length ≤ 4 ∧ zcv tX8_isQuestion [a0] M (fun v M => uX8_rear R 12 [x0, x1, x2, x3, x4] (v :: st) M)) := Iff.trans (zU_step dX8_rear_9 (Or.inl rfl)) ⟨fun h => ⟨h.2.1, zcv_of h.2.2⟩, fun h => ⟨rfl, h.1, zcv_to h.2⟩⟩
theorem dX8_rear_12 : decode cX8_rear 12 = .ok (.ifCond .eq 39, 3) := by decide +kernel
theorem rX8_rear_12 {R : zP} {x0 x1 x2 x3 x4 : Option zV} {st : List zV} {M : zM} {a : Int} : uX8_rear R 12 [x0, x1, x2, x3, x4] (.inl a :: st) M ↔ (zIR a ∧ if a = 0 then uX8_rear R 51 [x0, x1, x2, x3, x4] st M else uX8_rear R 15 [x0, x1, x2, x3, x4] st M) := Iff.trans (zU_step dX8_rear_12 (Or.inl rfl)) ⟨fun h => ⟨h.1.1, (zite (c := a = 0)).mpr h.2⟩, fun h => ⟨⟨h.1, by decide⟩, (zite (c := a = 0)).mp h.2⟩⟩
theorem dX8_rear_15 : decode cX8_rear 15 = .ok (.iload_n 3, 1) := by decide +kernel
theorem rX8_rear_15 {R : zP} {x0 x1 x2 x4 : Option zV} {st : List zV} {M : zM} {a : Int} : uX8_rear R 15 [x0, x1, x2, some (.inl a), x4] st M ↔ uX8_rear R 16 [x0, x1, x2, some (.inl a), x4] (.inl a :: st) M := zU_step dX8_rear_15 (Or.inl rfl)
theorem dX8_rear_16 : decode cX8_rear 16 = .ok (.iconst 0, 1) := by decide +kernel
theorem rX8_rear_16 {R : zP} {x0 x1 x2 x3 x4 : Option zV} {st : List zV} {M : zM} : uX8_rear R 16 [x0, x1, x2, x3, x4] st M ↔ uX8_rear R 17 [x0, x1, x2, x3, x4] (.inl (0) :: st) M := zU_step dX8_rear_16 (Or.inl rfl)
theorem dX8_rear_17 : decode cX8_rear 17 = .ok (.bipush 9, 2) := by decide +kernel
theorem rX8_rear_17 {R : zP} {x0 x1 x2 x3 x4 : Option zV} {st : List zV} {M : zM} : uX8_rear R 17 [x0, x1, x2, x3, x4] st M ↔ uX8_rear R 19 [x0, x1, x2, x3, x4] (.inl (9) :: st) M := Iff.trans (zU_step dX8_rear_17 (Or.inl rfl)) ⟨fun h => h.2, fun h => ⟨by decide, h⟩⟩
theorem dX8_rear_19 : decode cX8_rear 19 = .ok (.invokestatic 112, 3) := by decide +kernel
theorem rX8_rear_19 {R : zP} {x0 x1 x2 x3 x4 : Option zV} {st : List zV} {M : zM} {a0 a1 a2 : zV} : uX8_rear R 19 [x0, x1, x2, x3, x4] (a2 :: a1 :: a0 :: st) M ↔ (st.length ≤ 4 ∧ zcv tX8_in [a0, a1, a2] M (fun v M => uX8_rear R 22 [x0, x1, x2, x3, x4] (v :: st) M)) := Iff.trans (zU_step dX8_rear_19 (Or.inl rfl)) ⟨fun h => ⟨h.2.1, zcv_of h.2.2⟩, fun h => ⟨rfl, h.1, zcv_to h.2⟩⟩
theorem dX8_rear_22 : decode cX8_rear 22 = .ok (.ifCond .eq 29, 3) := by decide +kernel
theorem rX8_rear_22 {R : zP} {x0 x1 x2 x3 x4 : Option zV} {st : List zV} {M : zM} {a : Int} : uX8_rear R 22 [x0, x1, x2, x3, x4] (.inl a :: st) M ↔ (zIR a ∧ if a = 0 then uX8_rear R 51 [x0, x1, x2, x3, x4] st M else uX8_rear R 25 [x0, x1, x2, x3, x4] st M) := Iff.trans (zU_step dX8_rear_22 (Or.inl rfl)) ⟨fun h => ⟨h.1.1, (zite (c := a = 0)).mpr h.2⟩, fun h => ⟨⟨h.1, by decide⟩, (zite (c := a = 0)).mp h.2⟩⟩
theorem dX8_rear_25 : decode cX8_rear 25 = .ok (.iload 4, 2) := by decide +kernel
theorem rX8_rear_25 {R : zP} {x0 x1 x2 x3 : Option zV} {st : List zV} {M : zM} {a : Int} : uX8_rear R 25 [x0, x1, x2, x3, some (.inl a)] st M ↔ uX8_rear R 27 [x0, x1, x2, x3, some (.inl a)] (.inl a :: st) M := zU_step dX8_rear_25 (Or.inl rfl)
theorem dX8_rear_27 : decode cX8_rear 27 = .ok (.iconst (-1), 1) := by decide +kernel
theorem rX8_rear_27 {R : zP} {x0 x1 x2 x3 x4 : Option zV} {st : List zV} {M : zM} : uX8_rear R 27 [x0, x1, x2, x3, x4] st M ↔ uX8_rear R 28 [x0, x1, x2, x3, x4] (.inl (-1) :: st) M := zU_step dX8_rear_27 (Or.inl rfl)
theorem dX8_rear_28 : decode cX8_rear 28 = .ok (.iconst 1, 1) := by decide +kernel
theorem rX8_rear_28 {R : zP} {x0 x1 x2 x3 x4 : Option zV} {st : List zV} {M : zM} : uX8_rear R 28 [x0, x1, x2, x3, x4] st M ↔ uX8_rear R 29 [x0, x1, x2, x3, x4] (.inl (1) :: st) M := zU_step dX8_rear_28 (Or.inl rfl)
theorem dX8_rear_29 : decode cX8_rear 29 = .ok (.invokestatic 112, 3) := by decide +kernel
theorem rX8_rear_29 {R : zP} {x0 x1 x2 x3 x4 : Option zV} {st : List zV} {M : zM} {a0 a1 a2 : zV} : uX8_rear R 29 [x0, x1, x2, x3, x4] (a2 :: a1 :: a0 :: st) M ↔ (st.length ≤ 4 ∧ zcv tX8_in [a0, a1, a2] M (fun v M => uX8_rear R 32 [x0, x1, x2, x3, x4] (v :: st) M)) := Iff.trans (zU_step dX8_rear_29 (Or.inl rfl)) ⟨fun h => ⟨h.2.1, zcv_of h.2.2⟩, fun h => ⟨rfl, h.1, zcv_to h.2⟩⟩
theorem dX8_rear_32 : decode cX8_rear 32 = .ok (.ifCond .eq 19, 3) := by decide +kernel
theorem rX8_rear_32 {R : zP} {x0 x1 x2 x3 x4 : Option zV} {st : List zV} {M : zM} {a : Int} : uX8_rear R 32 [x0, x1, x2, x3, x4] (.inl a :: st) M ↔ (zIR a ∧ if a = 0 then uX8_rear R 51 [x0, x1, x2, x3, x4] st M else uX8_rear R 35 [x0, x1, x2, x3, x4] st M) := Iff.trans (zU_step dX8_rear_32 (Or.inl rfl)) ⟨fun h => ⟨h.1.1, (zite (c := a = 0)).mpr h.2⟩, fun h => ⟨⟨h.1, by decide⟩, (zite (c := a = 0)).mp h.2⟩⟩
theorem dX8_rear_35 : decode cX8_rear 35 = .ok (.aload_n 0, 1) := by decide +kernel
theorem rX8_rear_35 {R : zP} {x1 x2 x3 x4 : Option zV} {st : List zV} {M : zM} {a : Nat} : uX8_rear R 35 [some (.inr (.inr a)), x1, x2, x3, x4] st M ↔ uX8_rear R 36 [some (.inr (.inr a)), x1, x2, x3, x4] (.inr (.inr a) :: st) M := zU_step dX8_rear_35 (Or.inl rfl)
theorem dX8_rear_36 : decode cX8_rear 36 = .ok (.aload_n 0, 1) := by decide +kernel
theorem rX8_rear_36 {R : zP} {x1 x2 x3 x4 : Option zV} {st : List zV} {M : zM} {a : Nat} : uX8_rear R 36 [some (.inr (.inr a)), x1, x2, x3, x4] st M ↔ uX8_rear R 37 [some (.inr (.inr a)), x1, x2, x3, x4] (.inr (.inr a) :: st) M := zU_step dX8_rear_36 (Or.inl rfl)
theorem dX8_rear_37 : decode cX8_rear 37 = .ok (.iload_n 1, 1) := by decide +kernel
theorem rX8_rear_37 {R : zP} {x0 x2 x3 x4 : Option zV} {st : List zV} {M : zM} {a : Int} : uX8_rear R 37 [x0, some (.inl a), x2, x3, x4] st M ↔ uX8_rear R 38 [x0, some (.inl a), x2, x3, x4] (.inl a :: st) M := zU_step dX8_rear_37 (Or.inl rfl)
theorem dX8_rear_38 : decode cX8_rear 38 = .ok (.iload_n 2, 1) := by decide +kernel
theorem rX8_rear_38 {R : zP} {x0 x1 x3 x4 : Option zV} {st : List zV} {M : zM} {a : Int} : uX8_rear R 38 [x0, x1, some (.inl a), x3, x4] st M ↔ uX8_rear R 39 [x0, x1, some (.inl a), x3, x4] (.inl a :: st) M := zU_step dX8_rear_38 (Or.inl rfl)
theorem dX8_rear_39 : decode cX8_rear 39 = .ok (.iload_n 3, 1) := by decide +kernel
theorem rX8_rear_39 {R : zP} {x0 x1 x2 x4 : Option zV} {st : List zV} {M : zM} {a : Int} : uX8_rear R 39 [x0, x1, x2, some (.inl a), x4] st M ↔ uX8_rear R 40 [x0, x1, x2, some (.inl a), x4] (.inl a :: st) M := zU_step dX8_rear_39 (Or.inl rfl)
theorem dX8_rear_40 : decode cX8_rear 40 = .ok (.invokevirtual 275, 3) := by decide +kernel
theorem rX8_rear_40 {R : zP} {x0 x1 x2 x3 x4 : Option zV} {st : List zV} {M : zM} {a0 a1 a2 a3 : zV} : uX8_rear R 40 [x0, x1, x2, x3, x4] (a3 :: a2 :: a1 :: a0 :: st) M ↔ (st.length ≤ 4 ∧ zcv (zv 8 tX8_rearBy) [a0, a1, a2, a3] M (fun v M => uX8_rear R 43 [x0, x1, x2, x3, x4] (v :: st) M)) := Iff.trans (zU_step dX8_rear_40 (Or.inl rfl)) ⟨fun h => ⟨h.2.1, zcv_of h.2.2⟩, fun h => ⟨rfl, h.1, zcv_to h.2⟩⟩
theorem dX8_rear_43 : decode cX8_rear 43 = .ok (.iload 4, 2) := by decide +kernel
theorem rX8_rear_43 {R : zP} {x0 x1 x2 x3 : Option zV} {st : List zV} {M : zM} {a : Int} : uX8_rear R 43 [x0, x1, x2, x3, some (.inl a)] st M ↔ uX8_rear R 45 [x0, x1, x2, x3, some (.inl a)] (.inl a :: st) M := zU_step dX8_rear_43 (Or.inl rfl)
theorem dX8_rear_45 : decode cX8_rear 45 = .ok (.invokevirtual 278, 3) := by decide +kernel
theorem rX8_rear_45 {R : zP} {x0 x1 x2 x3 x4 : Option zV} {st : List zV} {M : zM} {a0 a1 a2 : zV} : uX8_rear R 45 [x0, x1, x2, x3, x4] (a2 :: a1 :: a0 :: st) M ↔ (st.length ≤ 4 ∧ zcv (zv 8 tX8_ofRow) [a0, a1, a2] M (fun v M => uX8_rear R 48 [x0, x1, x2, x3, x4] (v :: st) M)) := Iff.trans (zU_step dX8_rear_45 (Or.inl rfl)) ⟨fun h => ⟨h.2.1, zcv_of h.2.2⟩, fun h => ⟨rfl, h.1, zcv_to h.2⟩⟩
theorem dX8_rear_48 : decode cX8_rear 48 = .ok (.goto 5, 3) := by decide +kernel
theorem rX8_rear_48 {R : zP} {x0 x1 x2 x3 x4 : Option zV} {st : List zV} {M : zM} : uX8_rear R 48 [x0, x1, x2, x3, x4] st M ↔ uX8_rear R 53 [x0, x1, x2, x3, x4] st M := Iff.trans (zU_step dX8_rear_48 (Or.inl rfl)) ⟨fun h => h.2, fun h => ⟨by decide, h⟩⟩
theorem dX8_rear_51 : decode cX8_rear 51 = .ok (.bipush (-2), 2) := by decide +kernel
theorem rX8_rear_51 {R : zP} {x0 x1 x2 x3 x4 : Option zV} {st : List zV} {M : zM} : uX8_rear R 51 [x0, x1, x2, x3, x4] st M ↔ uX8_rear R 53 [x0, x1, x2, x3, x4] (.inl (-2) :: st) M := Iff.trans (zU_step dX8_rear_51 (Or.inl rfl)) ⟨fun h => h.2, fun h => ⟨by decide, h⟩⟩
theorem dX8_rear_53 : decode cX8_rear 53 = .ok (.ireturn, 1) := by decide +kernel
theorem rX8_rear_53 {R : zP} {x0 x1 x2 x3 x4 : Option zV} {M : zM} {a : Int} : uX8_rear R 53 [x0, x1, x2, x3, x4] [.inl a] M ↔ R (some (.inl a)) M := Iff.trans (zU_step dX8_rear_53 (Or.inl rfl)) ⟨fun h => h.2.2, fun h => ⟨rfl, Or.inl rfl, h⟩⟩
theorem eX8_rear {R : zP} {M : zM} {a0 : Nat} {p0 : Int} {p1 : Int} {p2 : Int} {p3 : Int} : tX8_rear [.inr (.inr a0), .inl p0, .inl p1, .inl p2, .inl p3] M R ↔ uX8_rear R 0 [some (.inr (.inr a0)), some (.inl p0), some (.inl p1), some (.inl p2), some (.inl p3)] [] M := ⟨fun h => h.2, fun h => ⟨show 5 ≤ 5 by decide, h⟩⟩
def uX8_carryOf (R : zP) : zK := zU fX8 vX8_carryOf cX8_carryOf R
theorem dX8_carryOf_0 : decode cX8_carryOf 0 = .ok (.aload_n 0, 1) := by decide +kernel
theorem rX8_carryOf_0 {R : zP} {x1 x2 x3 x4 x5 x6 x7 : Option zV} {st : List zV} {M : zM} {a : Nat} : uX8_carryOf R 0 [some (.inr (.inr a)), x1, x2, x3, x4, x5, x6, x7] st M ↔ uX8_carryOf R 1 [some (.inr (.inr a)), x1, x2, x3, x4, x5, x6, x7] (.inr (.inr a) :: st) M := zU_step dX8_carryOf_0 (Or.inl rfl)
theorem dX8_carryOf_1 : decode cX8_carryOf 1 = .ok (.invokevirtual 199, 3) := by decide +kernel
theorem rX8_carryOf_1 {R : zP} {x0 x1 x2 x3 x4 x5 x6 x7 : Option zV} {st : List zV} {M : zM} {a0 : zV} : uX8_carryOf R 1 [x0, x1, x2, x3, x4, x5, x6, x7] (a0 :: st) M ↔ (st.length ≤ 4 ∧ zcn (zv 8 tX8_asTold) [a0] M (fun M => uX8_carryOf R 4 [x0, x1, x2, x3, x4, x5, x6, x7] st M)) := Iff.trans (zU_step dX8_carryOf_1 (Or.inl rfl)) ⟨fun h => ⟨h.2.1, zcn_of h.2.2⟩, fun h => ⟨rfl, h.1, zcn_to h.2⟩⟩
theorem dX8_carryOf_4 : decode cX8_carryOf 4 = .ok (.iconst (-1), 1) := by decide +kernel
theorem rX8_carryOf_4 {R : zP} {x0 x1 x2 x3 x4 x5 x6 x7 : Option zV} {st : List zV} {M : zM} : uX8_carryOf R 4 [x0, x1, x2, x3, x4, x5, x6, x7] st M ↔ uX8_carryOf R 5 [x0, x1, x2, x3, x4, x5, x6, x7] (.inl (-1) :: st) M := zU_step dX8_carryOf_4 (Or.inl rfl)
theorem dX8_carryOf_5 : decode cX8_carryOf 5 = .ok (.istore 4, 2) := by decide +kernel
theorem rX8_carryOf_5 {R : zP} {x0 x1 x2 x4 x5 x6 x7 : Option zV} {st : List zV} {M : zM} {a : Int} {y : Int} : uX8_carryOf R 5 [x0, x1, x2, some (.inl y), x4, x5, x6, x7] (.inl a :: st) M ↔ uX8_carryOf R 7 [x0, x1, x2, some (.inl y), some (.inl a), x5, x6, x7] st M := Iff.trans (zU_step dX8_carryOf_5 (Or.inl rfl)) ⟨fun h => h.2, fun h => ⟨show 4 < 8 by decide, h⟩⟩
theorem rX8_carryOf_5z {R : zP} {x0 x1 x2 x3 x4 x5 x6 x7 : Option zV} {st : List zV} {M : zM} {a : Int} : uX8_carryOf R 5 [x0, x1, x2, x3, x4, x5, x6, x7] (.inl a :: st) M ↔ uX8_carryOf R 7 [x0, x1, x2, zkeep x3, some (.inl a), x5, x6, x7] st M := Iff.trans (zU_step dX8_carryOf_5 (Or.inl rfl)) ⟨fun h => h.2, fun h => ⟨show 4 < 8 by decide, h⟩⟩
theorem dX8_carryOf_7 : decode cX8_carryOf 7 = .ok (.iconst (-1), 1) := by decide +kernel
theorem rX8_carryOf_7 {R : zP} {x0 x1 x2 x3 x4 x5 x6 x7 : Option zV} {st : List zV} {M : zM} : uX8_carryOf R 7 [x0, x1, x2, x3, x4, x5, x6, x7] st M ↔ uX8_carryOf R 8 [x0, x1, x2, x3, x4, x5, x6, x7] (.inl (-1) :: st) M := zU_step dX8_carryOf_7 (Or.inl rfl)
theorem dX8_carryOf_8 : decode cX8_carryOf 8 = .ok (.istore 5, 2) := by decide +kernel
theorem rX8_carryOf_8 {R : zP} {x0 x1 x2 x3 x5 x6 x7 : Option zV} {st : List zV} {M : zM} {a : Int} {y : Int} : uX8_carryOf R 8 [x0, x1, x2, x3, some (.inl y), x5, x6, x7] (.inl a :: st) M ↔ uX8_carryOf R 10 [x0, x1, x2, x3, some (.inl y), some (.inl a), x6, x7] st M := Iff.trans (zU_step dX8_carryOf_8 (Or.inl rfl)) ⟨fun h => h.2, fun h => ⟨show 5 < 8 by decide, h⟩⟩
theorem rX8_carryOf_8z {R : zP} {x0 x1 x2 x3 x4 x5 x6 x7 : Option zV} {st : List zV} {M : zM} {a : Int} : uX8_carryOf R 8 [x0, x1, x2, x3, x4, x5, x6, x7] (.inl a :: st) M ↔ uX8_carryOf R 10 [x0, x1, x2, x3, zkeep x4, some (.inl a), x6, x7] st M := Iff.trans (zU_step dX8_carryOf_8 (Or.inl rfl)) ⟨fun h => h.2, fun h => ⟨show 5 < 8 by decide, h⟩⟩
theorem dX8_carryOf_10 : decode cX8_carryOf 10 = .ok (.aload_n 0, 1) := by decide +kernel
theorem rX8_carryOf_10 {R : zP} {x1 x2 x3 x4 x5 x6 x7 : Option zV} {st : List zV} {M : zM} {a : Nat} : uX8_carryOf R 10 [some (.inr (.inr a)), x1, x2, x3, x4, x5, x6, x7] st M ↔ uX8_carryOf R 11 [some (.inr (.inr a)), x1, x2, x3, x4, x5, x6, x7] (.inr (.inr a) :: st) M := zU_step dX8_carryOf_10 (Or.inl rfl)
theorem dX8_carryOf_11 : decode cX8_carryOf 11 = .ok (.aload_n 0, 1) := by decide +kernel
theorem rX8_carryOf_11 {R : zP} {x1 x2 x3 x4 x5 x6 x7 : Option zV} {st : List zV} {M : zM} {a : Nat} : uX8_carryOf R 11 [some (.inr (.inr a)), x1, x2, x3, x4, x5, x6, x7] st M ↔ uX8_carryOf R 12 [some (.inr (.inr a)), x1, x2, x3, x4, x5, x6, x7] (.inr (.inr a) :: st) M := zU_step dX8_carryOf_11 (Or.inl rfl)
theorem dX8_carryOf_12 : decode cX8_carryOf 12 = .ok (.getfield 166, 3) := by decide +kernel
theorem rX8_carryOf_12 {R : zP} {x0 x1 x2 x3 x4 x5 x6 x7 : Option zV} {st : List zV} {M : zM} {r : Nat} : uX8_carryOf R 12 [x0, x1, x2, x3, x4, x5, x6, x7] (.inr (.inr r) :: st) M ↔ zgetx fX8 166 r M (fun v => uX8_carryOf R 15 [x0, x1, x2, x3, x4, x5, x6, x7] (v :: st) M) := zU_step dX8_carryOf_12 (Or.inl rfl)
theorem dX8_carryOf_15 : decode cX8_carryOf 15 = .ok (.iconst 1, 1) := by decide +kernel
theorem rX8_carryOf_15 {R : zP} {x0 x1 x2 x3 x4 x5 x6 x7 : Option zV} {st : List zV} {M : zM} : uX8_carryOf R 15 [x0, x1, x2, x3, x4, x5, x6, x7] st M ↔ uX8_carryOf R 16 [x0, x1, x2, x3, x4, x5, x6, x7] (.inl (1) :: st) M := zU_step dX8_carryOf_15 (Or.inl rfl)
theorem dX8_carryOf_16 : decode cX8_carryOf 16 = .ok (.iadd, 1) := by decide +kernel
theorem rX8_carryOf_16 {R : zP} {x0 x1 x2 x3 x4 x5 x6 x7 : Option zV} {st : List zV} {M : zM} {a b : Int} : uX8_carryOf R 16 [x0, x1, x2, x3, x4, x5, x6, x7] (.inl b :: .inl a :: st) M ↔ uX8_carryOf R 17 [x0, x1, x2, x3, x4, x5, x6, x7] (.inl (a + b) :: st) M := zU_step dX8_carryOf_16 (Or.inl rfl)
theorem dX8_carryOf_17 : decode cX8_carryOf 17 = .ok (.putfield 178, 3) := by decide +kernel
theorem rX8_carryOf_17 {R : zP} {x0 x1 x2 x3 x4 x5 x6 x7 : Option zV} {st : List zV} {M : zM} {r : Nat} {v : zV} : uX8_carryOf R 17 [x0, x1, x2, x3, x4, x5, x6, x7] (v :: .inr (.inr r) :: st) M ↔ zputx fX8 178 r M v (fun M => uX8_carryOf R 20 [x0, x1, x2, x3, x4, x5, x6, x7] st M) := zU_step dX8_carryOf_17 (Or.inl rfl)
theorem dX8_carryOf_20 : decode cX8_carryOf 20 = .ok (.iconst 0, 1) := by decide +kernel
theorem rX8_carryOf_20 {R : zP} {x0 x1 x2 x3 x4 x5 x6 x7 : Option zV} {st : List zV} {M : zM} : uX8_carryOf R 20 [x0, x1, x2, x3, x4, x5, x6, x7] st M ↔ uX8_carryOf R 21 [x0, x1, x2, x3, x4, x5, x6, x7] (.inl (0) :: st) M := zU_step dX8_carryOf_20 (Or.inl rfl)
theorem dX8_carryOf_21 : decode cX8_carryOf 21 = .ok (.istore 6, 2) := by decide +kernel
theorem rX8_carryOf_21 {R : zP} {x0 x1 x2 x3 x4 x6 x7 : Option zV} {st : List zV} {M : zM} {a : Int} {y : Int} : uX8_carryOf R 21 [x0, x1, x2, x3, x4, some (.inl y), x6, x7] (.inl a :: st) M ↔ uX8_carryOf R 23 [x0, x1, x2, x3, x4, some (.inl y), some (.inl a), x7] st M := Iff.trans (zU_step dX8_carryOf_21 (Or.inl rfl)) ⟨fun h => h.2, fun h => ⟨show 6 < 8 by decide, h⟩⟩
theorem rX8_carryOf_21z {R : zP} {x0 x1 x2 x3 x4 x5 x6 x7 : Option zV} {st : List zV} {M : zM} {a : Int} : uX8_carryOf R 21 [x0, x1, x2, x3, x4, x5, x6, x7] (.inl a :: st) M ↔ uX8_carryOf R 23 [x0, x1, x2, x3, x4, zkeep x5, some (.inl a), x7] st M := Iff.trans (zU_step dX8_carryOf_21 (Or.inl rfl)) ⟨fun h => h.2, fun h => ⟨show 6 < 8 by decide, h⟩⟩
theorem dX8_carryOf_23 : decode cX8_carryOf 23 = .ok (.iload 6, 2) := by decide +kernel
theorem rX8_carryOf_23 {R : zP} {x0 x1 x2 x3 x4 x5 x7 : Option zV} {st : List zV} {M : zM} {a : Int} : uX8_carryOf R 23 [x0, x1, x2, x3, x4, x5, some (.inl a), x7] st M ↔ uX8_carryOf R 25 [x0, x1, x2, x3, x4, x5, some (.inl a), x7] (.inl a :: st) M := zU_step dX8_carryOf_23 (Or.inl rfl)
theorem dX8_carryOf_25 : decode cX8_carryOf 25 = .ok (.aload_n 0, 1) := by decide +kernel
theorem rX8_carryOf_25 {R : zP} {x1 x2 x3 x4 x5 x6 x7 : Option zV} {st : List zV} {M : zM} {a : Nat} : uX8_carryOf R 25 [some (.inr (.inr a)), x1, x2, x3, x4, x5, x6, x7] st M ↔ uX8_carryOf R 26 [some (.inr (.inr a)), x1, x2, x3, x4, x5, x6, x7] (.inr (.inr a) :: st) M := zU_step dX8_carryOf_25 (Or.inl rfl)
theorem dX8_carryOf_26 : decode cX8_carryOf 26 = .ok (.getfield 127, 3) := by decide +kernel
theorem rX8_carryOf_26 {R : zP} {x0 x1 x2 x3 x4 x5 x6 x7 : Option zV} {st : List zV} {M : zM} {r : Nat} : uX8_carryOf R 26 [x0, x1, x2, x3, x4, x5, x6, x7] (.inr (.inr r) :: st) M ↔ zgetx fX8 127 r M (fun v => uX8_carryOf R 29 [x0, x1, x2, x3, x4, x5, x6, x7] (v :: st) M) := zU_step dX8_carryOf_26 (Or.inl rfl)
theorem dX8_carryOf_29 : decode cX8_carryOf 29 = .ok (.aload_n 0, 1) := by decide +kernel
theorem rX8_carryOf_29 {R : zP} {x1 x2 x3 x4 x5 x6 x7 : Option zV} {st : List zV} {M : zM} {a : Nat} : uX8_carryOf R 29 [some (.inr (.inr a)), x1, x2, x3, x4, x5, x6, x7] st M ↔ uX8_carryOf R 30 [some (.inr (.inr a)), x1, x2, x3, x4, x5, x6, x7] (.inr (.inr a) :: st) M := zU_step dX8_carryOf_29 (Or.inl rfl)
theorem dX8_carryOf_30 : decode cX8_carryOf 30 = .ok (.getfield 131, 3) := by decide +kernel
theorem rX8_carryOf_30 {R : zP} {x0 x1 x2 x3 x4 x5 x6 x7 : Option zV} {st : List zV} {M : zM} {r : Nat} : uX8_carryOf R 30 [x0, x1, x2, x3, x4, x5, x6, x7] (.inr (.inr r) :: st) M ↔ zgetx fX8 131 r M (fun v => uX8_carryOf R 33 [x0, x1, x2, x3, x4, x5, x6, x7] (v :: st) M) := zU_step dX8_carryOf_30 (Or.inl rfl)
theorem dX8_carryOf_33 : decode cX8_carryOf 33 = .ok (.imul, 1) := by decide +kernel
theorem rX8_carryOf_33 {R : zP} {x0 x1 x2 x3 x4 x5 x6 x7 : Option zV} {st : List zV} {M : zM} {a b : Int} : uX8_carryOf R 33 [x0, x1, x2, x3, x4, x5, x6, x7] (.inl b :: .inl a :: st) M ↔ uX8_carryOf R 34 [x0, x1, x2, x3, x4, x5, x6, x7] (.inl (a * b) :: st) M := zU_step dX8_carryOf_33 (Or.inl rfl)
theorem dX8_carryOf_34 : decode cX8_carryOf 34 = .ok (.if_icmp .ge 77, 3) := by decide +kernel
theorem rX8_carryOf_34 {R : zP} {x0 x1 x2 x3 x4 x5 x6 x7 : Option zV} {st : List zV} {M : zM} {a b : Int} : uX8_carryOf R 34 [x0, x1, x2, x3, x4, x5, x6, x7] (.inl b :: .inl a :: st) M ↔ ((zIR a ∧ zIR b) ∧ if b ≤ a then uX8_carryOf R 111 [x0, x1, x2, x3, x4, x5, x6, x7] st M else uX8_carryOf R 37 [x0, x1, x2, x3, x4, x5, x6, x7] st M) := Iff.trans (zU_step dX8_carryOf_34 (Or.inl rfl)) ⟨fun h => ⟨⟨h.1.1, h.1.2.1⟩, (zite (c := b ≤ a)).mpr h.2⟩, fun h => ⟨⟨h.1.1, h.1.2, by decide⟩, (zite (c := b ≤ a)).mp h.2⟩⟩
theorem dX8_carryOf_37 : decode cX8_carryOf 37 = .ok (.aload_n 0, 1) := by decide +kernel
theorem rX8_carryOf_37 {R : zP} {x1 x2 x3 x4 x5 x6 x7 : Option zV} {st : List zV} {M : zM} {a : Nat} : uX8_carryOf R 37 [some (.inr (.inr a)), x1, x2, x3, x4, x5, x6, x7] st M ↔ uX8_carryOf R 38 [some (.inr (.inr a)), x1, x2, x3, x4, x5, x6, x7] (.inr (.inr a) :: st) M := zU_step dX8_carryOf_37 (Or.inl rfl)
theorem dX8_carryOf_38 : decode cX8_carryOf 38 = .ok (.aload_n 0, 1) := by decide +kernel
theorem rX8_carryOf_38 {R : zP} {x1 x2 x3 x4 x5 x6 x7 : Option zV} {st : List zV} {M : zM} {a : Nat} : uX8_carryOf R 38 [some (.inr (.inr a)), x1, x2, x3, x4, x5, x6, x7] st M ↔ uX8_carryOf R 39 [some (.inr (.inr a)), x1, x2, x3, x4, x5, x6, x7] (.inr (.inr a) :: st) M := zU_step dX8_carryOf_38 (Or.inl rfl)
theorem dX8_carryOf_39 : decode cX8_carryOf 39 = .ok (.getfield 166, 3) := by decide +kernel
theorem rX8_carryOf_39 {R : zP} {x0 x1 x2 x3 x4 x5 x6 x7 : Option zV} {st : List zV} {M : zM} {r : Nat} : uX8_carryOf R 39 [x0, x1, x2, x3, x4, x5, x6, x7] (.inr (.inr r) :: st) M ↔ zgetx fX8 166 r M (fun v => uX8_carryOf R 42 [x0, x1, x2, x3, x4, x5, x6, x7] (v :: st) M) := zU_step dX8_carryOf_39 (Or.inl rfl)
theorem dX8_carryOf_42 : decode cX8_carryOf 42 = .ok (.iload_n 1, 1) := by decide +kernel
theorem rX8_carryOf_42 {R : zP} {x0 x2 x3 x4 x5 x6 x7 : Option zV} {st : List zV} {M : zM} {a : Int} : uX8_carryOf R 42 [x0, some (.inl a), x2, x3, x4, x5, x6, x7] st M ↔ uX8_carryOf R 43 [x0, some (.inl a), x2, x3, x4, x5, x6, x7] (.inl a :: st) M := zU_step dX8_carryOf_42 (Or.inl rfl)
theorem dX8_carryOf_43 : decode cX8_carryOf 43 = .ok (.iload 6, 2) := by decide +kernel
theorem rX8_carryOf_43 {R : zP} {x0 x1 x2 x3 x4 x5 x7 : Option zV} {st : List zV} {M : zM} {a : Int} : uX8_carryOf R 43 [x0, x1, x2, x3, x4, x5, some (.inl a), x7] st M ↔ uX8_carryOf R 45 [x0, x1, x2, x3, x4, x5, some (.inl a), x7] (.inl a :: st) M := zU_step dX8_carryOf_43 (Or.inl rfl)
theorem dX8_carryOf_45 : decode cX8_carryOf 45 = .ok (.aload_n 0, 1) := by decide +kernel
theorem rX8_carryOf_45 {R : zP} {x1 x2 x3 x4 x5 x6 x7 : Option zV} {st : List zV} {M : zM} {a : Nat} : uX8_carryOf R 45 [some (.inr (.inr a)), x1, x2, x3, x4, x5, x6, x7] st M ↔ uX8_carryOf R 46 [some (.inr (.inr a)), x1, x2, x3, x4, x5, x6, x7] (.inr (.inr a) :: st) M := zU_step dX8_carryOf_45 (Or.inl rfl)
theorem dX8_carryOf_46 : decode cX8_carryOf 46 = .ok (.getfield 131, 3) := by decide +kernel
theorem rX8_carryOf_46 {R : zP} {x0 x1 x2 x3 x4 x5 x6 x7 : Option zV} {st : List zV} {M : zM} {r : Nat} : uX8_carryOf R 46 [x0, x1, x2, x3, x4, x5, x6, x7] (.inr (.inr r) :: st) M ↔ zgetx fX8 131 r M (fun v => uX8_carryOf R 49 [x0, x1, x2, x3, x4, x5, x6, x7] (v :: st) M) := zU_step dX8_carryOf_46 (Or.inl rfl)
theorem dX8_carryOf_49 : decode cX8_carryOf 49 = .ok (.idiv, 1) := by decide +kernel
theorem rX8_carryOf_49 {R : zP} {x0 x1 x2 x3 x4 x5 x6 x7 : Option zV} {st : List zV} {M : zM} {a b : Int} : uX8_carryOf R 49 [x0, x1, x2, x3, x4, x5, x6, x7] (.inl b :: .inl a :: st) M ↔ ((zIR a ∧ zIR b ∧ b ≠ 0) ∧ uX8_carryOf R 50 [x0, x1, x2, x3, x4, x5, x6, x7] (.inl (a.tdiv b) :: st) M) := zU_step dX8_carryOf_49 (Or.inl rfl)
theorem dX8_carryOf_50 : decode cX8_carryOf 50 = .ok (.iload 6, 2) := by decide +kernel
theorem rX8_carryOf_50 {R : zP} {x0 x1 x2 x3 x4 x5 x7 : Option zV} {st : List zV} {M : zM} {a : Int} : uX8_carryOf R 50 [x0, x1, x2, x3, x4, x5, some (.inl a), x7] st M ↔ uX8_carryOf R 52 [x0, x1, x2, x3, x4, x5, some (.inl a), x7] (.inl a :: st) M := zU_step dX8_carryOf_50 (Or.inl rfl)
theorem dX8_carryOf_52 : decode cX8_carryOf 52 = .ok (.aload_n 0, 1) := by decide +kernel
theorem rX8_carryOf_52 {R : zP} {x1 x2 x3 x4 x5 x6 x7 : Option zV} {st : List zV} {M : zM} {a : Nat} : uX8_carryOf R 52 [some (.inr (.inr a)), x1, x2, x3, x4, x5, x6, x7] st M ↔ uX8_carryOf R 53 [some (.inr (.inr a)), x1, x2, x3, x4, x5, x6, x7] (.inr (.inr a) :: st) M := zU_step dX8_carryOf_52 (Or.inl rfl)
theorem dX8_carryOf_53 : decode cX8_carryOf 53 = .ok (.getfield 131, 3) := by decide +kernel
theorem rX8_carryOf_53 {R : zP} {x0 x1 x2 x3 x4 x5 x6 x7 : Option zV} {st : List zV} {M : zM} {r : Nat} : uX8_carryOf R 53 [x0, x1, x2, x3, x4, x5, x6, x7] (.inr (.inr r) :: st) M ↔ zgetx fX8 131 r M (fun v => uX8_carryOf R 56 [x0, x1, x2, x3, x4, x5, x6, x7] (v :: st) M) := zU_step dX8_carryOf_53 (Or.inl rfl)
theorem dX8_carryOf_56 : decode cX8_carryOf 56 = .ok (.irem, 1) := by decide +kernel
theorem rX8_carryOf_56 {R : zP} {x0 x1 x2 x3 x4 x5 x6 x7 : Option zV} {st : List zV} {M : zM} {a b : Int} : uX8_carryOf R 56 [x0, x1, x2, x3, x4, x5, x6, x7] (.inl b :: .inl a :: st) M ↔ ((zIR a ∧ zIR b ∧ b ≠ 0) ∧ uX8_carryOf R 57 [x0, x1, x2, x3, x4, x5, x6, x7] (.inl (a.tmod b) :: st) M) := zU_step dX8_carryOf_56 (Or.inl rfl)
theorem dX8_carryOf_57 : decode cX8_carryOf 57 = .ok (.invokevirtual 271, 3) := by decide +kernel
theorem rX8_carryOf_57 {R : zP} {x0 x1 x2 x3 x4 x5 x6 x7 : Option zV} {st : List zV} {M : zM} {a0 a1 a2 a3 a4 : zV} : uX8_carryOf R 57 [x0, x1, x2, x3, x4, x5, x6, x7] (a4 :: a3 :: a2 :: a1 :: a0 :: st) M ↔ (st.length ≤ 4 ∧ zcn (zv 8 tX8_more) [a0, a1, a2, a3, a4] M (fun M => uX8_carryOf R 60 [x0, x1, x2, x3, x4, x5, x6, x7] st M)) := Iff.trans (zU_step dX8_carryOf_57 (Or.inl rfl)) ⟨fun h => ⟨h.2.1, zcn_of h.2.2⟩, fun h => ⟨rfl, h.1, zcn_to h.2⟩⟩
theorem dX8_carryOf_60 : decode cX8_carryOf 60 = .ok (.aload_n 0, 1) := by decide +kernel
theorem rX8_carryOf_60 {R : zP} {x1 x2 x3 x4 x5 x6 x7 : Option zV} {st : List zV} {M : zM} {a : Nat} : uX8_carryOf R 60 [some (.inr (.inr a)), x1, x2, x3, x4, x5, x6, x7] st M ↔ uX8_carryOf R 61 [some (.inr (.inr a)), x1, x2, x3, x4, x5, x6, x7] (.inr (.inr a) :: st) M := zU_step dX8_carryOf_60 (Or.inl rfl)
theorem dX8_carryOf_61 : decode cX8_carryOf 61 = .ok (.invokevirtual 202, 3) := by decide +kernel
theorem rX8_carryOf_61 {R : zP} {x0 x1 x2 x3 x4 x5 x6 x7 : Option zV} {st : List zV} {M : zM} {a0 : zV} : uX8_carryOf R 61 [x0, x1, x2, x3, x4, x5, x6, x7] (a0 :: st) M ↔ (st.length ≤ 4 ∧ zcn (zv 8 tX8_runs) [a0] M (fun M => uX8_carryOf R 64 [x0, x1, x2, x3, x4, x5, x6, x7] st M)) := Iff.trans (zU_step dX8_carryOf_61 (Or.inl rfl)) ⟨fun h => ⟨h.2.1, zcn_of h.2.2⟩, fun h => ⟨rfl, h.1, zcn_to h.2⟩⟩
theorem dX8_carryOf_64 : decode cX8_carryOf 64 = .ok (.aload_n 0, 1) := by decide +kernel
theorem rX8_carryOf_64 {R : zP} {x1 x2 x3 x4 x5 x6 x7 : Option zV} {st : List zV} {M : zM} {a : Nat} : uX8_carryOf R 64 [some (.inr (.inr a)), x1, x2, x3, x4, x5, x6, x7] st M ↔ uX8_carryOf R 65 [some (.inr (.inr a)), x1, x2, x3, x4, x5, x6, x7] (.inr (.inr a) :: st) M := zU_step dX8_carryOf_64 (Or.inl rfl)
theorem dX8_carryOf_65 : decode cX8_carryOf 65 = .ok (.bipush 19, 2) := by decide +kernel
theorem rX8_carryOf_65 {R : zP} {x0 x1 x2 x3 x4 x5 x6 x7 : Option zV} {st : List zV} {M : zM} : uX8_carryOf R 65 [x0, x1, x2, x3, x4, x5, x6, x7] st M ↔ uX8_carryOf R 67 [x0, x1, x2, x3, x4, x5, x6, x7] (.inl (19) :: st) M := Iff.trans (zU_step dX8_carryOf_65 (Or.inl rfl)) ⟨fun h => h.2, fun h => ⟨by decide, h⟩⟩
theorem dX8_carryOf_67 : decode cX8_carryOf 67 = .ok (.iload_n 2, 1) := by decide +kernel
theorem rX8_carryOf_67 {R : zP} {x0 x1 x3 x4 x5 x6 x7 : Option zV} {st : List zV} {M : zM} {a : Int} : uX8_carryOf R 67 [x0, x1, some (.inl a), x3, x4, x5, x6, x7] st M ↔ uX8_carryOf R 68 [x0, x1, some (.inl a), x3, x4, x5, x6, x7] (.inl a :: st) M := zU_step dX8_carryOf_67 (Or.inl rfl)
theorem dX8_carryOf_68 : decode cX8_carryOf 68 = .ok (.invokevirtual 224, 3) := by decide +kernel
theorem rX8_carryOf_68 {R : zP} {x0 x1 x2 x3 x4 x5 x6 x7 : Option zV} {st : List zV} {M : zM} {a0 a1 a2 : zV} : uX8_carryOf R 68 [x0, x1, x2, x3, x4, x5, x6, x7] (a2 :: a1 :: a0 :: st) M ↔ (st.length ≤ 4 ∧ zcv (zv 8 tX8_ayesNow) [a0, a1, a2] M (fun v M => uX8_carryOf R 71 [x0, x1, x2, x3, x4, x5, x6, x7] (v :: st) M)) := Iff.trans (zU_step dX8_carryOf_68 (Or.inl rfl)) ⟨fun h => ⟨h.2.1, zcv_of h.2.2⟩, fun h => ⟨rfl, h.1, zcv_to h.2⟩⟩
theorem dX8_carryOf_71 : decode cX8_carryOf 71 = .ok (.istore 7, 2) := by decide +kernel
theorem rX8_carryOf_71 {R : zP} {x0 x1 x2 x3 x4 x5 x7 : Option zV} {st : List zV} {M : zM} {a : Int} {y : Int} : uX8_carryOf R 71 [x0, x1, x2, x3, x4, x5, some (.inl y), x7] (.inl a :: st) M ↔ uX8_carryOf R 73 [x0, x1, x2, x3, x4, x5, some (.inl y), some (.inl a)] st M := Iff.trans (zU_step dX8_carryOf_71 (Or.inl rfl)) ⟨fun h => h.2, fun h => ⟨show 7 < 8 by decide, h⟩⟩
theorem rX8_carryOf_71z {R : zP} {x0 x1 x2 x3 x4 x5 x6 x7 : Option zV} {st : List zV} {M : zM} {a : Int} : uX8_carryOf R 71 [x0, x1, x2, x3, x4, x5, x6, x7] (.inl a :: st) M ↔ uX8_carryOf R 73 [x0, x1, x2, x3, x4, x5, zkeep x6, some (.inl a)] st M := Iff.trans (zU_step dX8_carryOf_71 (Or.inl rfl)) ⟨fun h => h.2, fun h => ⟨show 7 < 8 by decide, h⟩⟩
theorem dX8_carryOf_73 : decode cX8_carryOf 73 = .ok (.iload 7, 2) := by decide +kernel
theorem rX8_carryOf_73 {R : zP} {x0 x1 x2 x3 x4 x5 x6 : Option zV} {st : List zV} {M : zM} {a : Int} : uX8_carryOf R 73 [x0, x1, x2, x3, x4, x5, x6, some (.inl a)] st M ↔ uX8_carryOf R 75 [x0, x1, x2, x3, x4, x5, x6, some (.inl a)] (.inl a :: st) M := zU_step dX8_carryOf_73 (Or.inl rfl)
theorem dX8_carryOf_75 : decode cX8_carryOf 75 = .ok (.iload 5, 2) := by decide +kernel
theorem rX8_carryOf_75 {R : zP} {x0 x1 x2 x3 x4 x6 x7 : Option zV} {st : List zV} {M : zM} {a : Int} : uX8_carryOf R 75 [x0, x1, x2, x3, x4, some (.inl a), x6, x7] st M ↔ uX8_carryOf R 77 [x0, x1, x2, x3, x4, some (.inl a), x6, x7] (.inl a :: st) M := zU_step dX8_carryOf_75 (Or.inl rfl)
theorem dX8_carryOf_77 : decode cX8_carryOf 77 = .ok (.if_icmp .le 8, 3) := by decide +kernel
theorem rX8_carryOf_77 {R : zP} {x0 x1 x2 x3 x4 x5 x6 x7 : Option zV} {st : List zV} {M : zM} {a b : Int} : uX8_carryOf R 77 [x0, x1, x2, x3, x4, x5, x6, x7] (.inl b :: .inl a :: st) M ↔ ((zIR a ∧ zIR b) ∧ if a ≤ b then uX8_carryOf R 85 [x0, x1, x2, x3, x4, x5, x6, x7] st M else uX8_carryOf R 80 [x0, x1, x2, x3, x4, x5, x6, x7] st M) := Iff.trans (zU_step dX8_carryOf_77 (Or.inl rfl)) ⟨fun h => ⟨⟨h.1.1, h.1.2.1⟩, (zite (c := a ≤ b)).mpr h.2⟩, fun h => ⟨⟨h.1.1, h.1.2, by decide⟩, (zite (c := a ≤ b)).mp h.2⟩⟩
theorem dX8_carryOf_80 : decode cX8_carryOf 80 = .ok (.iload 6, 2) := by decide +kernel
theorem rX8_carryOf_80 {R : zP} {x0 x1 x2 x3 x4 x5 x7 : Option zV} {st : List zV} {M : zM} {a : Int} : uX8_carryOf R 80 [x0, x1, x2, x3, x4, x5, some (.inl a), x7] st M ↔ uX8_carryOf R 82 [x0, x1, x2, x3, x4, x5, some (.inl a), x7] (.inl a :: st) M := zU_step dX8_carryOf_80 (Or.inl rfl)
theorem dX8_carryOf_82 : decode cX8_carryOf 82 = .ok (.goto 5, 3) := by decide +kernel
theorem rX8_carryOf_82 {R : zP} {x0 x1 x2 x3 x4 x5 x6 x7 : Option zV} {st : List zV} {M : zM} : uX8_carryOf R 82 [x0, x1, x2, x3, x4, x5, x6, x7] st M ↔ uX8_carryOf R 87 [x0, x1, x2, x3, x4, x5, x6, x7] st M := Iff.trans (zU_step dX8_carryOf_82 (Or.inl rfl)) ⟨fun h => h.2, fun h => ⟨by decide, h⟩⟩
theorem dX8_carryOf_85 : decode cX8_carryOf 85 = .ok (.iload 4, 2) := by decide +kernel
theorem rX8_carryOf_85 {R : zP} {x0 x1 x2 x3 x5 x6 x7 : Option zV} {st : List zV} {M : zM} {a : Int} : uX8_carryOf R 85 [x0, x1, x2, x3, some (.inl a), x5, x6, x7] st M ↔ uX8_carryOf R 87 [x0, x1, x2, x3, some (.inl a), x5, x6, x7] (.inl a :: st) M := zU_step dX8_carryOf_85 (Or.inl rfl)
theorem dX8_carryOf_87 : decode cX8_carryOf 87 = .ok (.istore 4, 2) := by decide +kernel
theorem rX8_carryOf_87 {R : zP} {x0 x1 x2 x4 x5 x6 x7 : Option zV} {st : List zV} {M : zM} {a : Int} {y : Int} : uX8_carryOf R 87 [x0, x1, x2, some (.inl y), x4, x5, x6, x7] (.inl a :: st) M ↔ uX8_carryOf R 89 [x0, x1, x2, some (.inl y), some (.inl a), x5, x6, x7] st M := Iff.trans (zU_step dX8_carryOf_87 (Or.inl rfl)) ⟨fun h => h.2, fun h => ⟨show 4 < 8 by decide, h⟩⟩
theorem rX8_carryOf_87z {R : zP} {x0 x1 x2 x3 x4 x5 x6 x7 : Option zV} {st : List zV} {M : zM} {a : Int} : uX8_carryOf R 87 [x0, x1, x2, x3, x4, x5, x6, x7] (.inl a :: st) M ↔ uX8_carryOf R 89 [x0, x1, x2, zkeep x3, some (.inl a), x5, x6, x7] st M := Iff.trans (zU_step dX8_carryOf_87 (Or.inl rfl)) ⟨fun h => h.2, fun h => ⟨show 4 < 8 by decide, h⟩⟩
theorem dX8_carryOf_89 : decode cX8_carryOf 89 = .ok (.iload 7, 2) := by decide +kernel
theorem rX8_carryOf_89 {R : zP} {x0 x1 x2 x3 x4 x5 x6 : Option zV} {st : List zV} {M : zM} {a : Int} : uX8_carryOf R 89 [x0, x1, x2, x3, x4, x5, x6, some (.inl a)] st M ↔ uX8_carryOf R 91 [x0, x1, x2, x3, x4, x5, x6, some (.inl a)] (.inl a :: st) M := zU_step dX8_carryOf_89 (Or.inl rfl)
theorem dX8_carryOf_91 : decode cX8_carryOf 91 = .ok (.iload 5, 2) := by decide +kernel
theorem rX8_carryOf_91 {R : zP} {x0 x1 x2 x3 x4 x6 x7 : Option zV} {st : List zV} {M : zM} {a : Int} : uX8_carryOf R 91 [x0, x1, x2, x3, x4, some (.inl a), x6, x7] st M ↔ uX8_carryOf R 93 [x0, x1, x2, x3, x4, some (.inl a), x6, x7] (.inl a :: st) M := zU_step dX8_carryOf_91 (Or.inl rfl)
theorem dX8_carryOf_93 : decode cX8_carryOf 93 = .ok (.if_icmp .le 8, 3) := by decide +kernel
theorem rX8_carryOf_93 {R : zP} {x0 x1 x2 x3 x4 x5 x6 x7 : Option zV} {st : List zV} {M : zM} {a b : Int} : uX8_carryOf R 93 [x0, x1, x2, x3, x4, x5, x6, x7] (.inl b :: .inl a :: st) M ↔ ((zIR a ∧ zIR b) ∧ if a ≤ b then uX8_carryOf R 101 [x0, x1, x2, x3, x4, x5, x6, x7] st M else uX8_carryOf R 96 [x0, x1, x2, x3, x4, x5, x6, x7] st M) := Iff.trans (zU_step dX8_carryOf_93 (Or.inl rfl)) ⟨fun h => ⟨⟨h.1.1, h.1.2.1⟩, (zite (c := a ≤ b)).mpr h.2⟩, fun h => ⟨⟨h.1.1, h.1.2, by decide⟩, (zite (c := a ≤ b)).mp h.2⟩⟩
theorem dX8_carryOf_96 : decode cX8_carryOf 96 = .ok (.iload 7, 2) := by decide +kernel
theorem rX8_carryOf_96 {R : zP} {x0 x1 x2 x3 x4 x5 x6 : Option zV} {st : List zV} {M : zM} {a : Int} : uX8_carryOf R 96 [x0, x1, x2, x3, x4, x5, x6, some (.inl a)] st M ↔ uX8_carryOf R 98 [x0, x1, x2, x3, x4, x5, x6, some (.inl a)] (.inl a :: st) M := zU_step dX8_carryOf_96 (Or.inl rfl)
theorem dX8_carryOf_98 : decode cX8_carryOf 98 = .ok (.goto 5, 3) := by decide +kernel
theorem rX8_carryOf_98 {R : zP} {x0 x1 x2 x3 x4 x5 x6 x7 : Option zV} {st : List zV} {M : zM} : uX8_carryOf R 98 [x0, x1, x2, x3, x4, x5, x6, x7] st M ↔ uX8_carryOf R 103 [x0, x1, x2, x3, x4, x5, x6, x7] st M := Iff.trans (zU_step dX8_carryOf_98 (Or.inl rfl)) ⟨fun h => h.2, fun h => ⟨by decide, h⟩⟩
theorem dX8_carryOf_101 : decode cX8_carryOf 101 = .ok (.iload 5, 2) := by decide +kernel
theorem rX8_carryOf_101 {R : zP} {x0 x1 x2 x3 x4 x6 x7 : Option zV} {st : List zV} {M : zM} {a : Int} : uX8_carryOf R 101 [x0, x1, x2, x3, x4, some (.inl a), x6, x7] st M ↔ uX8_carryOf R 103 [x0, x1, x2, x3, x4, some (.inl a), x6, x7] (.inl a :: st) M := zU_step dX8_carryOf_101 (Or.inl rfl)
theorem dX8_carryOf_103 : decode cX8_carryOf 103 = .ok (.istore 5, 2) := by decide +kernel
theorem rX8_carryOf_103 {R : zP} {x0 x1 x2 x3 x5 x6 x7 : Option zV} {st : List zV} {M : zM} {a : Int} {y : Int} : uX8_carryOf R 103 [x0, x1, x2, x3, some (.inl y), x5, x6, x7] (.inl a :: st) M ↔ uX8_carryOf R 105 [x0, x1, x2, x3, some (.inl y), some (.inl a), x6, x7] st M := Iff.trans (zU_step dX8_carryOf_103 (Or.inl rfl)) ⟨fun h => h.2, fun h => ⟨show 5 < 8 by decide, h⟩⟩
theorem rX8_carryOf_103z {R : zP} {x0 x1 x2 x3 x4 x5 x6 x7 : Option zV} {st : List zV} {M : zM} {a : Int} : uX8_carryOf R 103 [x0, x1, x2, x3, x4, x5, x6, x7] (.inl a :: st) M ↔ uX8_carryOf R 105 [x0, x1, x2, x3, zkeep x4, some (.inl a), x6, x7] st M := Iff.trans (zU_step dX8_carryOf_103 (Or.inl rfl)) ⟨fun h => h.2, fun h => ⟨show 5 < 8 by decide, h⟩⟩
theorem dX8_carryOf_105 : decode cX8_carryOf 105 = .ok (.iinc 6 1, 3) := by decide +kernel
theorem rX8_carryOf_105 {R : zP} {x0 x1 x2 x3 x4 x7 : Option zV} {st : List zV} {M : zM} {a : Int} {y : Int} : uX8_carryOf R 105 [x0, x1, x2, x3, x4, some (.inl y), some (.inl a), x7] st M ↔ uX8_carryOf R 108 [x0, x1, x2, x3, x4, some (.inl y), some (.inl (a + (1))), x7] st M := Iff.trans (zU_step dX8_carryOf_105 (Or.inl rfl)) ⟨fun h => h.2, fun h => ⟨show 6 < 8 by decide, h⟩⟩
theorem rX8_carryOf_105z {R : zP} {x0 x1 x2 x3 x4 x5 x7 : Option zV} {st : List zV} {M : zM} {a : Int} : uX8_carryOf R 105 [x0, x1, x2, x3, x4, x5, some (.inl a), x7] st M ↔ uX8_carryOf R 108 [x0, x1, x2, x3, x4, zkeep x5, some (.inl (a + (1))), x7] st M := Iff.trans (zU_step dX8_carryOf_105 (Or.inl rfl)) ⟨fun h => h.2, fun h => ⟨show 6 < 8 by decide, h⟩⟩
theorem dX8_carryOf_108 : decode cX8_carryOf 108 = .ok (.goto (-85), 3) := by decide +kernel
theorem rX8_carryOf_108 {R : zP} {x0 x1 x2 x3 x4 x5 x6 x7 : Option zV} {st : List zV} {M : zM} : uX8_carryOf R 108 [x0, x1, x2, x3, x4, x5, x6, x7] st M ↔ uX8_carryOf R 23 [x0, x1, x2, x3, x4, x5, x6, x7] st M := Iff.trans (zU_step dX8_carryOf_108 (Or.inl rfl)) ⟨fun h => h.2, fun h => ⟨by decide, h⟩⟩
theorem dX8_carryOf_111 : decode cX8_carryOf 111 = .ok (.iload 4, 2) := by decide +kernel
theorem rX8_carryOf_111 {R : zP} {x0 x1 x2 x3 x5 x6 x7 : Option zV} {st : List zV} {M : zM} {a : Int} : uX8_carryOf R 111 [x0, x1, x2, x3, some (.inl a), x5, x6, x7] st M ↔ uX8_carryOf R 113 [x0, x1, x2, x3, some (.inl a), x5, x6, x7] (.inl a :: st) M := zU_step dX8_carryOf_111 (Or.inl rfl)
theorem dX8_carryOf_113 : decode cX8_carryOf 113 = .ok (.iconst (-1), 1) := by decide +kernel
theorem rX8_carryOf_113 {R : zP} {x0 x1 x2 x3 x4 x5 x6 x7 : Option zV} {st : List zV} {M : zM} : uX8_carryOf R 113 [x0, x1, x2, x3, x4, x5, x6, x7] st M ↔ uX8_carryOf R 114 [x0, x1, x2, x3, x4, x5, x6, x7] (.inl (-1) :: st) M := zU_step dX8_carryOf_113 (Or.inl rfl)
theorem dX8_carryOf_114 : decode cX8_carryOf 114 = .ok (.if_icmp .ne 7, 3) := by decide +kernel
theorem rX8_carryOf_114 {R : zP} {x0 x1 x2 x3 x4 x5 x6 x7 : Option zV} {st : List zV} {M : zM} {a b : Int} : uX8_carryOf R 114 [x0, x1, x2, x3, x4, x5, x6, x7] (.inl b :: .inl a :: st) M ↔ ((zIR a ∧ zIR b) ∧ if a ≠ b then uX8_carryOf R 121 [x0, x1, x2, x3, x4, x5, x6, x7] st M else uX8_carryOf R 117 [x0, x1, x2, x3, x4, x5, x6, x7] st M) := Iff.trans (zU_step dX8_carryOf_114 (Or.inl rfl)) ⟨fun h => ⟨⟨h.1.1, h.1.2.1⟩, (zite (c := a ≠ b)).mpr h.2⟩, fun h => ⟨⟨h.1.1, h.1.2, by decide⟩, (zite (c := a ≠ b)).mp h.2⟩⟩
theorem dX8_carryOf_117 : decode cX8_carryOf 117 = .ok (.iconst (-1), 1) := by decide +kernel
theorem rX8_carryOf_117 {R : zP} {x0 x1 x2 x3 x4 x5 x6 x7 : Option zV} {st : List zV} {M : zM} : uX8_carryOf R 117 [x0, x1, x2, x3, x4, x5, x6, x7] st M ↔ uX8_carryOf R 118 [x0, x1, x2, x3, x4, x5, x6, x7] (.inl (-1) :: st) M := zU_step dX8_carryOf_117 (Or.inl rfl)
theorem dX8_carryOf_118 : decode cX8_carryOf 118 = .ok (.goto 34, 3) := by decide +kernel
theorem rX8_carryOf_118 {R : zP} {x0 x1 x2 x3 x4 x5 x6 x7 : Option zV} {st : List zV} {M : zM} : uX8_carryOf R 118 [x0, x1, x2, x3, x4, x5, x6, x7] st M ↔ uX8_carryOf R 152 [x0, x1, x2, x3, x4, x5, x6, x7] st M := Iff.trans (zU_step dX8_carryOf_118 (Or.inl rfl)) ⟨fun h => h.2, fun h => ⟨by decide, h⟩⟩
theorem dX8_carryOf_121 : decode cX8_carryOf 121 = .ok (.iload_n 3, 1) := by decide +kernel
theorem rX8_carryOf_121 {R : zP} {x0 x1 x2 x4 x5 x6 x7 : Option zV} {st : List zV} {M : zM} {a : Int} : uX8_carryOf R 121 [x0, x1, x2, some (.inl a), x4, x5, x6, x7] st M ↔ uX8_carryOf R 122 [x0, x1, x2, some (.inl a), x4, x5, x6, x7] (.inl a :: st) M := zU_step dX8_carryOf_121 (Or.inl rfl)
theorem dX8_carryOf_122 : decode cX8_carryOf 122 = .ok (.ifCond .ne 13, 3) := by decide +kernel
theorem rX8_carryOf_122 {R : zP} {x0 x1 x2 x3 x4 x5 x6 x7 : Option zV} {st : List zV} {M : zM} {a : Int} : uX8_carryOf R 122 [x0, x1, x2, x3, x4, x5, x6, x7] (.inl a :: st) M ↔ (zIR a ∧ if a ≠ 0 then uX8_carryOf R 135 [x0, x1, x2, x3, x4, x5, x6, x7] st M else uX8_carryOf R 125 [x0, x1, x2, x3, x4, x5, x6, x7] st M) := Iff.trans (zU_step dX8_carryOf_122 (Or.inl rfl)) ⟨fun h => ⟨h.1.1, (zite (c := a ≠ 0)).mpr h.2⟩, fun h => ⟨⟨h.1, by decide⟩, (zite (c := a ≠ 0)).mp h.2⟩⟩
theorem dX8_carryOf_125 : decode cX8_carryOf 125 = .ok (.iload 4, 2) := by decide +kernel
theorem rX8_carryOf_125 {R : zP} {x0 x1 x2 x3 x5 x6 x7 : Option zV} {st : List zV} {M : zM} {a : Int} : uX8_carryOf R 125 [x0, x1, x2, x3, some (.inl a), x5, x6, x7] st M ↔ uX8_carryOf R 127 [x0, x1, x2, x3, some (.inl a), x5, x6, x7] (.inl a :: st) M := zU_step dX8_carryOf_125 (Or.inl rfl)
theorem dX8_carryOf_127 : decode cX8_carryOf 127 = .ok (.aload_n 0, 1) := by decide +kernel
theorem rX8_carryOf_127 {R : zP} {x1 x2 x3 x4 x5 x6 x7 : Option zV} {st : List zV} {M : zM} {a : Nat} : uX8_carryOf R 127 [some (.inr (.inr a)), x1, x2, x3, x4, x5, x6, x7] st M ↔ uX8_carryOf R 128 [some (.inr (.inr a)), x1, x2, x3, x4, x5, x6, x7] (.inr (.inr a) :: st) M := zU_step dX8_carryOf_127 (Or.inl rfl)
theorem dX8_carryOf_128 : decode cX8_carryOf 128 = .ok (.getfield 131, 3) := by decide +kernel
theorem rX8_carryOf_128 {R : zP} {x0 x1 x2 x3 x4 x5 x6 x7 : Option zV} {st : List zV} {M : zM} {r : Nat} : uX8_carryOf R 128 [x0, x1, x2, x3, x4, x5, x6, x7] (.inr (.inr r) :: st) M ↔ zgetx fX8 131 r M (fun v => uX8_carryOf R 131 [x0, x1, x2, x3, x4, x5, x6, x7] (v :: st) M) := zU_step dX8_carryOf_128 (Or.inl rfl)
theorem dX8_carryOf_131 : decode cX8_carryOf 131 = .ok (.idiv, 1) := by decide +kernel
theorem rX8_carryOf_131 {R : zP} {x0 x1 x2 x3 x4 x5 x6 x7 : Option zV} {st : List zV} {M : zM} {a b : Int} : uX8_carryOf R 131 [x0, x1, x2, x3, x4, x5, x6, x7] (.inl b :: .inl a :: st) M ↔ ((zIR a ∧ zIR b ∧ b ≠ 0) ∧ uX8_carryOf R 132 [x0, x1, x2, x3, x4, x5, x6, x7] (.inl (a.tdiv b) :: st) M) := zU_step dX8_carryOf_131 (Or.inl rfl)
theorem dX8_carryOf_132 : decode cX8_carryOf 132 = .ok (.goto 20, 3) := by decide +kernel
theorem rX8_carryOf_132 {R : zP} {x0 x1 x2 x3 x4 x5 x6 x7 : Option zV} {st : List zV} {M : zM} : uX8_carryOf R 132 [x0, x1, x2, x3, x4, x5, x6, x7] st M ↔ uX8_carryOf R 152 [x0, x1, x2, x3, x4, x5, x6, x7] st M := Iff.trans (zU_step dX8_carryOf_132 (Or.inl rfl)) ⟨fun h => h.2, fun h => ⟨by decide, h⟩⟩
theorem dX8_carryOf_135 : decode cX8_carryOf 135 = .ok (.iload_n 3, 1) := by decide +kernel
theorem rX8_carryOf_135 {R : zP} {x0 x1 x2 x4 x5 x6 x7 : Option zV} {st : List zV} {M : zM} {a : Int} : uX8_carryOf R 135 [x0, x1, x2, some (.inl a), x4, x5, x6, x7] st M ↔ uX8_carryOf R 136 [x0, x1, x2, some (.inl a), x4, x5, x6, x7] (.inl a :: st) M := zU_step dX8_carryOf_135 (Or.inl rfl)
theorem dX8_carryOf_136 : decode cX8_carryOf 136 = .ok (.iconst 1, 1) := by decide +kernel
theorem rX8_carryOf_136 {R : zP} {x0 x1 x2 x3 x4 x5 x6 x7 : Option zV} {st : List zV} {M : zM} : uX8_carryOf R 136 [x0, x1, x2, x3, x4, x5, x6, x7] st M ↔ uX8_carryOf R 137 [x0, x1, x2, x3, x4, x5, x6, x7] (.inl (1) :: st) M := zU_step dX8_carryOf_136 (Or.inl rfl)
theorem dX8_carryOf_137 : decode cX8_carryOf 137 = .ok (.if_icmp .ne 13, 3) := by decide +kernel
theorem rX8_carryOf_137 {R : zP} {x0 x1 x2 x3 x4 x5 x6 x7 : Option zV} {st : List zV} {M : zM} {a b : Int} : uX8_carryOf R 137 [x0, x1, x2, x3, x4, x5, x6, x7] (.inl b :: .inl a :: st) M ↔ ((zIR a ∧ zIR b) ∧ if a ≠ b then uX8_carryOf R 150 [x0, x1, x2, x3, x4, x5, x6, x7] st M else uX8_carryOf R 140 [x0, x1, x2, x3, x4, x5, x6, x7] st M) := Iff.trans (zU_step dX8_carryOf_137 (Or.inl rfl)) ⟨fun h => ⟨⟨h.1.1, h.1.2.1⟩, (zite (c := a ≠ b)).mpr h.2⟩, fun h => ⟨⟨h.1.1, h.1.2, by decide⟩, (zite (c := a ≠ b)).mp h.2⟩⟩
theorem dX8_carryOf_140 : decode cX8_carryOf 140 = .ok (.iload 4, 2) := by decide +kernel
theorem rX8_carryOf_140 {R : zP} {x0 x1 x2 x3 x5 x6 x7 : Option zV} {st : List zV} {M : zM} {a : Int} : uX8_carryOf R 140 [x0, x1, x2, x3, some (.inl a), x5, x6, x7] st M ↔ uX8_carryOf R 142 [x0, x1, x2, x3, some (.inl a), x5, x6, x7] (.inl a :: st) M := zU_step dX8_carryOf_140 (Or.inl rfl)
theorem dX8_carryOf_142 : decode cX8_carryOf 142 = .ok (.aload_n 0, 1) := by decide +kernel
theorem rX8_carryOf_142 {R : zP} {x1 x2 x3 x4 x5 x6 x7 : Option zV} {st : List zV} {M : zM} {a : Nat} : uX8_carryOf R 142 [some (.inr (.inr a)), x1, x2, x3, x4, x5, x6, x7] st M ↔ uX8_carryOf R 143 [some (.inr (.inr a)), x1, x2, x3, x4, x5, x6, x7] (.inr (.inr a) :: st) M := zU_step dX8_carryOf_142 (Or.inl rfl)
theorem dX8_carryOf_143 : decode cX8_carryOf 143 = .ok (.getfield 131, 3) := by decide +kernel
theorem rX8_carryOf_143 {R : zP} {x0 x1 x2 x3 x4 x5 x6 x7 : Option zV} {st : List zV} {M : zM} {r : Nat} : uX8_carryOf R 143 [x0, x1, x2, x3, x4, x5, x6, x7] (.inr (.inr r) :: st) M ↔ zgetx fX8 131 r M (fun v => uX8_carryOf R 146 [x0, x1, x2, x3, x4, x5, x6, x7] (v :: st) M) := zU_step dX8_carryOf_143 (Or.inl rfl)
theorem dX8_carryOf_146 : decode cX8_carryOf 146 = .ok (.irem, 1) := by decide +kernel
theorem rX8_carryOf_146 {R : zP} {x0 x1 x2 x3 x4 x5 x6 x7 : Option zV} {st : List zV} {M : zM} {a b : Int} : uX8_carryOf R 146 [x0, x1, x2, x3, x4, x5, x6, x7] (.inl b :: .inl a :: st) M ↔ ((zIR a ∧ zIR b ∧ b ≠ 0) ∧ uX8_carryOf R 147 [x0, x1, x2, x3, x4, x5, x6, x7] (.inl (a.tmod b) :: st) M) := zU_step dX8_carryOf_146 (Or.inl rfl)
theorem dX8_carryOf_147 : decode cX8_carryOf 147 = .ok (.goto 5, 3) := by decide +kernel
theorem rX8_carryOf_147 {R : zP} {x0 x1 x2 x3 x4 x5 x6 x7 : Option zV} {st : List zV} {M : zM} : uX8_carryOf R 147 [x0, x1, x2, x3, x4, x5, x6, x7] st M ↔ uX8_carryOf R 152 [x0, x1, x2, x3, x4, x5, x6, x7] st M := Iff.trans (zU_step dX8_carryOf_147 (Or.inl rfl)) ⟨fun h => h.2, fun h => ⟨by decide, h⟩⟩
theorem dX8_carryOf_150 : decode cX8_carryOf 150 = .ok (.iload 5, 2) := by decide +kernel
theorem rX8_carryOf_150 {R : zP} {x0 x1 x2 x3 x4 x6 x7 : Option zV} {st : List zV} {M : zM} {a : Int} : uX8_carryOf R 150 [x0, x1, x2, x3, x4, some (.inl a), x6, x7] st M ↔ uX8_carryOf R 152 [x0, x1, x2, x3, x4, some (.inl a), x6, x7] (.inl a :: st) M := zU_step dX8_carryOf_150 (Or.inl rfl)
theorem dX8_carryOf_152 : decode cX8_carryOf 152 = .ok (.ireturn, 1) := by decide +kernel
theorem rX8_carryOf_152 {R : zP} {x0 x1 x2 x3 x4 x5 x6 x7 : Option zV} {M : zM} {a : Int} : uX8_carryOf R 152 [x0, x1, x2, x3, x4, x5, x6, x7] [.inl a] M ↔ R (some (.inl a)) M := Iff.trans (zU_step dX8_carryOf_152 (Or.inl rfl)) ⟨fun h => h.2.2, fun h => ⟨rfl, Or.inl rfl, h⟩⟩
theorem eX8_carryOf {R : zP} {M : zM} {a0 : Nat} {p0 : Int} {p1 : Int} {p2 : Int} : tX8_carryOf [.inr (.inr a0), .inl p0, .inl p1, .inl p2] M R ↔ uX8_carryOf R 0 [some (.inr (.inr a0)), some (.inl p0), some (.inl p1), some (.inl p2), none, none, none, none] [] M := ⟨fun h => h.2, fun h => ⟨show 4 ≤ 8 by decide, h⟩⟩
def uX8_carry (R : zP) : zK := zU fX8 vX8_carry cX8_carry R
theorem dX8_carry_0 : decode cX8_carry 0 = .ok (.iload_n 1, 1) := by decide +kernel
theorem rX8_carry_0 {R : zP} {x0 x2 x3 : Option zV} {st : List zV} {M : zM} {a : Int} : uX8_carry R 0 [x0, some (.inl a), x2, x3] st M ↔ uX8_carry R 1 [x0, some (.inl a), x2, x3] (.inl a :: st) M := zU_step dX8_carry_0 (Or.inl rfl)
theorem dX8_carry_1 : decode cX8_carry 1 = .ok (.invokestatic 160, 3) := by decide +kernel
theorem rX8_carry_1 {R : zP} {x0 x1 x2 x3 : Option zV} {st : List zV} {M : zM} {a0 : zV} : uX8_carry R 1 [x0, x1, x2, x3] (a0 :: st) M ↔ (st.length ≤ 4 ∧ zcv tX8_isTerm [a0] M (fun v M => uX8_carry R 4 [x0, x1, x2, x3] (v :: st) M)) := Iff.trans (zU_step dX8_carry_1 (Or.inl rfl)) ⟨fun h => ⟨h.2.1, zcv_of h.2.2⟩, fun h => ⟨rfl, h.1, zcv_to h.2⟩⟩
theorem dX8_carry_4 : decode cX8_carry 4 = .ok (.ifCond .eq 29, 3) := by decide +kernel
theorem rX8_carry_4 {R : zP} {x0 x1 x2 x3 : Option zV} {st : List zV} {M : zM} {a : Int} : uX8_carry R 4 [x0, x1, x2, x3] (.inl a :: st) M ↔ (zIR a ∧ if a = 0 then uX8_carry R 33 [x0, x1, x2, x3] st M else uX8_carry R 7 [x0, x1, x2, x3] st M) := Iff.trans (zU_step dX8_carry_4 (Or.inl rfl)) ⟨fun h => ⟨h.1.1, (zite (c := a = 0)).mpr h.2⟩, fun h => ⟨⟨h.1, by decide⟩, (zite (c := a = 0)).mp h.2⟩⟩
theorem dX8_carry_7 : decode cX8_carry 7 = .ok (.iload_n 2, 1) := by decide +kernel
theorem rX8_carry_7 {R : zP} {x0 x1 x3 : Option zV} {st : List zV} {M : zM} {a : Int} : uX8_carry R 7 [x0, x1, some (.inl a), x3] st M ↔ uX8_carry R 8 [x0, x1, some (.inl a), x3] (.inl a :: st) M := zU_step dX8_carry_7 (Or.inl rfl)
theorem dX8_carry_8 : decode cX8_carry 8 = .ok (.invokestatic 208, 3) := by decide +kernel
theorem rX8_carry_8 {R : zP} {x0 x1 x2 x3 : Option zV} {st : List zV} {M : zM} {a0 : zV} : uX8_carry R 8 [x0, x1, x2, x3] (a0 :: st) M ↔ (st.length ≤ 4 ∧ zcv tX8_isQuestion [a0] M (fun v M => uX8_carry R 11 [x0, x1, x2, x3] (v :: st) M)) := Iff.trans (zU_step dX8_carry_8 (Or.inl rfl)) ⟨fun h => ⟨h.2.1, zcv_of h.2.2⟩, fun h => ⟨rfl, h.1, zcv_to h.2⟩⟩
theorem dX8_carry_11 : decode cX8_carry 11 = .ok (.ifCond .eq 22, 3) := by decide +kernel
theorem rX8_carry_11 {R : zP} {x0 x1 x2 x3 : Option zV} {st : List zV} {M : zM} {a : Int} : uX8_carry R 11 [x0, x1, x2, x3] (.inl a :: st) M ↔ (zIR a ∧ if a = 0 then uX8_carry R 33 [x0, x1, x2, x3] st M else uX8_carry R 14 [x0, x1, x2, x3] st M) := Iff.trans (zU_step dX8_carry_11 (Or.inl rfl)) ⟨fun h => ⟨h.1.1, (zite (c := a = 0)).mpr h.2⟩, fun h => ⟨⟨h.1, by decide⟩, (zite (c := a = 0)).mp h.2⟩⟩
theorem dX8_carry_14 : decode cX8_carry 14 = .ok (.iload_n 3, 1) := by decide +kernel
theorem rX8_carry_14 {R : zP} {x0 x1 x2 : Option zV} {st : List zV} {M : zM} {a : Int} : uX8_carry R 14 [x0, x1, x2, some (.inl a)] st M ↔ uX8_carry R 15 [x0, x1, x2, some (.inl a)] (.inl a :: st) M := zU_step dX8_carry_14 (Or.inl rfl)
theorem dX8_carry_15 : decode cX8_carry 15 = .ok (.iconst 0, 1) := by decide +kernel
theorem rX8_carry_15 {R : zP} {x0 x1 x2 x3 : Option zV} {st : List zV} {M : zM} : uX8_carry R 15 [x0, x1, x2, x3] st M ↔ uX8_carry R 16 [x0, x1, x2, x3] (.inl (0) :: st) M := zU_step dX8_carry_15 (Or.inl rfl)
theorem dX8_carry_16 : decode cX8_carry 16 = .ok (.iconst 2, 1) := by decide +kernel
theorem rX8_carry_16 {R : zP} {x0 x1 x2 x3 : Option zV} {st : List zV} {M : zM} : uX8_carry R 16 [x0, x1, x2, x3] st M ↔ uX8_carry R 17 [x0, x1, x2, x3] (.inl (2) :: st) M := zU_step dX8_carry_16 (Or.inl rfl)
theorem dX8_carry_17 : decode cX8_carry 17 = .ok (.invokestatic 112, 3) := by decide +kernel
theorem rX8_carry_17 {R : zP} {x0 x1 x2 x3 : Option zV} {st : List zV} {M : zM} {a0 a1 a2 : zV} : uX8_carry R 17 [x0, x1, x2, x3] (a2 :: a1 :: a0 :: st) M ↔ (st.length ≤ 4 ∧ zcv tX8_in [a0, a1, a2] M (fun v M => uX8_carry R 20 [x0, x1, x2, x3] (v :: st) M)) := Iff.trans (zU_step dX8_carry_17 (Or.inl rfl)) ⟨fun h => ⟨h.2.1, zcv_of h.2.2⟩, fun h => ⟨rfl, h.1, zcv_to h.2⟩⟩
theorem dX8_carry_20 : decode cX8_carry 20 = .ok (.ifCond .eq 13, 3) := by decide +kernel
theorem rX8_carry_20 {R : zP} {x0 x1 x2 x3 : Option zV} {st : List zV} {M : zM} {a : Int} : uX8_carry R 20 [x0, x1, x2, x3] (.inl a :: st) M ↔ (zIR a ∧ if a = 0 then uX8_carry R 33 [x0, x1, x2, x3] st M else uX8_carry R 23 [x0, x1, x2, x3] st M) := Iff.trans (zU_step dX8_carry_20 (Or.inl rfl)) ⟨fun h => ⟨h.1.1, (zite (c := a = 0)).mpr h.2⟩, fun h => ⟨⟨h.1, by decide⟩, (zite (c := a = 0)).mp h.2⟩⟩
theorem dX8_carry_23 : decode cX8_carry 23 = .ok (.aload_n 0, 1) := by decide +kernel
theorem rX8_carry_23 {R : zP} {x1 x2 x3 : Option zV} {st : List zV} {M : zM} {a : Nat} : uX8_carry R 23 [some (.inr (.inr a)), x1, x2, x3] st M ↔ uX8_carry R 24 [some (.inr (.inr a)), x1, x2, x3] (.inr (.inr a) :: st) M := zU_step dX8_carry_23 (Or.inl rfl)
theorem dX8_carry_24 : decode cX8_carry 24 = .ok (.iload_n 1, 1) := by decide +kernel
theorem rX8_carry_24 {R : zP} {x0 x2 x3 : Option zV} {st : List zV} {M : zM} {a : Int} : uX8_carry R 24 [x0, some (.inl a), x2, x3] st M ↔ uX8_carry R 25 [x0, some (.inl a), x2, x3] (.inl a :: st) M := zU_step dX8_carry_24 (Or.inl rfl)
theorem dX8_carry_25 : decode cX8_carry 25 = .ok (.iload_n 2, 1) := by decide +kernel
theorem rX8_carry_25 {R : zP} {x0 x1 x3 : Option zV} {st : List zV} {M : zM} {a : Int} : uX8_carry R 25 [x0, x1, some (.inl a), x3] st M ↔ uX8_carry R 26 [x0, x1, some (.inl a), x3] (.inl a :: st) M := zU_step dX8_carry_25 (Or.inl rfl)
theorem dX8_carry_26 : decode cX8_carry 26 = .ok (.iload_n 3, 1) := by decide +kernel
theorem rX8_carry_26 {R : zP} {x0 x1 x2 : Option zV} {st : List zV} {M : zM} {a : Int} : uX8_carry R 26 [x0, x1, x2, some (.inl a)] st M ↔ uX8_carry R 27 [x0, x1, x2, some (.inl a)] (.inl a :: st) M := zU_step dX8_carry_26 (Or.inl rfl)
theorem dX8_carry_27 : decode cX8_carry 27 = .ok (.invokevirtual 281, 3) := by decide +kernel
theorem rX8_carry_27 {R : zP} {x0 x1 x2 x3 : Option zV} {st : List zV} {M : zM} {a0 a1 a2 a3 : zV} : uX8_carry R 27 [x0, x1, x2, x3] (a3 :: a2 :: a1 :: a0 :: st) M ↔ (st.length ≤ 4 ∧ zcv (zv 8 tX8_carryOf) [a0, a1, a2, a3] M (fun v M => uX8_carry R 30 [x0, x1, x2, x3] (v :: st) M)) := Iff.trans (zU_step dX8_carry_27 (Or.inl rfl)) ⟨fun h => ⟨h.2.1, zcv_of h.2.2⟩, fun h => ⟨rfl, h.1, zcv_to h.2⟩⟩
theorem dX8_carry_30 : decode cX8_carry 30 = .ok (.goto 5, 3) := by decide +kernel
theorem rX8_carry_30 {R : zP} {x0 x1 x2 x3 : Option zV} {st : List zV} {M : zM} : uX8_carry R 30 [x0, x1, x2, x3] st M ↔ uX8_carry R 35 [x0, x1, x2, x3] st M := Iff.trans (zU_step dX8_carry_30 (Or.inl rfl)) ⟨fun h => h.2, fun h => ⟨by decide, h⟩⟩
theorem dX8_carry_33 : decode cX8_carry 33 = .ok (.bipush (-2), 2) := by decide +kernel
theorem rX8_carry_33 {R : zP} {x0 x1 x2 x3 : Option zV} {st : List zV} {M : zM} : uX8_carry R 33 [x0, x1, x2, x3] st M ↔ uX8_carry R 35 [x0, x1, x2, x3] (.inl (-2) :: st) M := Iff.trans (zU_step dX8_carry_33 (Or.inl rfl)) ⟨fun h => h.2, fun h => ⟨by decide, h⟩⟩
theorem dX8_carry_35 : decode cX8_carry 35 = .ok (.ireturn, 1) := by decide +kernel
theorem rX8_carry_35 {R : zP} {x0 x1 x2 x3 : Option zV} {M : zM} {a : Int} : uX8_carry R 35 [x0, x1, x2, x3] [.inl a] M ↔ R (some (.inl a)) M := Iff.trans (zU_step dX8_carry_35 (Or.inl rfl)) ⟨fun h => h.2.2, fun h => ⟨rfl, Or.inl rfl, h⟩⟩
theorem eX8_carry {R : zP} {M : zM} {a0 : Nat} {p0 : Int} {p1 : Int} {p2 : Int} : tX8_carry [.inr (.inr a0), .inl p0, .inl p1, .inl p2] M R ↔ uX8_carry R 0 [some (.inr (.inr a0)), some (.inl p0), some (.inl p1), some (.inl p2)] [] M := ⟨fun h => h.2, fun h => ⟨show 4 ≤ 4 by decide, h⟩⟩
def uX8_isSpared (R : zP) : zK := zU fX8 vX8_isSpared cX8_isSpared R
theorem dX8_isSpared_0 : decode cX8_isSpared 0 = .ok (.aload_n 0, 1) := by decide +kernel
theorem rX8_isSpared_0 {R : zP} {x1 : Option zV} {st : List zV} {M : zM} {a : Nat} : uX8_isSpared R 0 [some (.inr (.inr a)), x1] st M ↔ uX8_isSpared R 1 [some (.inr (.inr a)), x1] (.inr (.inr a) :: st) M := zU_step dX8_isSpared_0 (Or.inl rfl)
theorem dX8_isSpared_1 : decode cX8_isSpared 1 = .ok (.iload_n 1, 1) := by decide +kernel
theorem rX8_isSpared_1 {R : zP} {x0 : Option zV} {st : List zV} {M : zM} {a : Int} : uX8_isSpared R 1 [x0, some (.inl a)] st M ↔ uX8_isSpared R 2 [x0, some (.inl a)] (.inl a :: st) M := zU_step dX8_isSpared_1 (Or.inl rfl)
theorem dX8_isSpared_2 : decode cX8_isSpared 2 = .ok (.putfield 181, 3) := by decide +kernel
theorem rX8_isSpared_2 {R : zP} {x0 x1 : Option zV} {st : List zV} {M : zM} {r : Nat} {v : zV} : uX8_isSpared R 2 [x0, x1] (v :: .inr (.inr r) :: st) M ↔ zputx fX8 181 r M v (fun M => uX8_isSpared R 5 [x0, x1] st M) := zU_step dX8_isSpared_2 (Or.inl rfl)
theorem dX8_isSpared_5 : decode cX8_isSpared 5 = .ok (.aload_n 0, 1) := by decide +kernel
theorem rX8_isSpared_5 {R : zP} {x1 : Option zV} {st : List zV} {M : zM} {a : Nat} : uX8_isSpared R 5 [some (.inr (.inr a)), x1] st M ↔ uX8_isSpared R 6 [some (.inr (.inr a)), x1] (.inr (.inr a) :: st) M := zU_step dX8_isSpared_5 (Or.inl rfl)
theorem dX8_isSpared_6 : decode cX8_isSpared 6 = .ok (.invokevirtual 202, 3) := by decide +kernel
theorem rX8_isSpared_6 {R : zP} {x0 x1 : Option zV} {st : List zV} {M : zM} {a0 : zV} : uX8_isSpared R 6 [x0, x1] (a0 :: st) M ↔ (st.length ≤ 4 ∧ zcn (zv 8 tX8_runs) [a0] M (fun M => uX8_isSpared R 9 [x0, x1] st M)) := Iff.trans (zU_step dX8_isSpared_6 (Or.inl rfl)) ⟨fun h => ⟨h.2.1, zcn_of h.2.2⟩, fun h => ⟨rfl, h.1, zcn_to h.2⟩⟩
theorem dX8_isSpared_9 : decode cX8_isSpared 9 = .ok (.aload_n 0, 1) := by decide +kernel
theorem rX8_isSpared_9 {R : zP} {x1 : Option zV} {st : List zV} {M : zM} {a : Nat} : uX8_isSpared R 9 [some (.inr (.inr a)), x1] st M ↔ uX8_isSpared R 10 [some (.inr (.inr a)), x1] (.inr (.inr a) :: st) M := zU_step dX8_isSpared_9 (Or.inl rfl)
theorem dX8_isSpared_10 : decode cX8_isSpared 10 = .ok (.invokevirtual 239, 3) := by decide +kernel
theorem rX8_isSpared_10 {R : zP} {x0 x1 : Option zV} {st : List zV} {M : zM} {a0 : zV} : uX8_isSpared R 10 [x0, x1] (a0 :: st) M ↔ (st.length ≤ 4 ∧ zcv (zv 8 tX8_weanedNow) [a0] M (fun v M => uX8_isSpared R 13 [x0, x1] (v :: st) M)) := Iff.trans (zU_step dX8_isSpared_10 (Or.inl rfl)) ⟨fun h => ⟨h.2.1, zcv_of h.2.2⟩, fun h => ⟨rfl, h.1, zcv_to h.2⟩⟩
theorem dX8_isSpared_13 : decode cX8_isSpared 13 = .ok (.ifCond .ne 7, 3) := by decide +kernel
theorem rX8_isSpared_13 {R : zP} {x0 x1 : Option zV} {st : List zV} {M : zM} {a : Int} : uX8_isSpared R 13 [x0, x1] (.inl a :: st) M ↔ (zIR a ∧ if a ≠ 0 then uX8_isSpared R 20 [x0, x1] st M else uX8_isSpared R 16 [x0, x1] st M) := Iff.trans (zU_step dX8_isSpared_13 (Or.inl rfl)) ⟨fun h => ⟨h.1.1, (zite (c := a ≠ 0)).mpr h.2⟩, fun h => ⟨⟨h.1, by decide⟩, (zite (c := a ≠ 0)).mp h.2⟩⟩
theorem dX8_isSpared_16 : decode cX8_isSpared 16 = .ok (.iconst 1, 1) := by decide +kernel
theorem rX8_isSpared_16 {R : zP} {x0 x1 : Option zV} {st : List zV} {M : zM} : uX8_isSpared R 16 [x0, x1] st M ↔ uX8_isSpared R 17 [x0, x1] (.inl (1) :: st) M := zU_step dX8_isSpared_16 (Or.inl rfl)
theorem dX8_isSpared_17 : decode cX8_isSpared 17 = .ok (.goto 4, 3) := by decide +kernel
theorem rX8_isSpared_17 {R : zP} {x0 x1 : Option zV} {st : List zV} {M : zM} : uX8_isSpared R 17 [x0, x1] st M ↔ uX8_isSpared R 21 [x0, x1] st M := Iff.trans (zU_step dX8_isSpared_17 (Or.inl rfl)) ⟨fun h => h.2, fun h => ⟨by decide, h⟩⟩
theorem dX8_isSpared_20 : decode cX8_isSpared 20 = .ok (.iconst 0, 1) := by decide +kernel
theorem rX8_isSpared_20 {R : zP} {x0 x1 : Option zV} {st : List zV} {M : zM} : uX8_isSpared R 20 [x0, x1] st M ↔ uX8_isSpared R 21 [x0, x1] (.inl (0) :: st) M := zU_step dX8_isSpared_20 (Or.inl rfl)
theorem dX8_isSpared_21 : decode cX8_isSpared 21 = .ok (.ireturn, 1) := by decide +kernel
theorem rX8_isSpared_21 {R : zP} {x0 x1 : Option zV} {M : zM} {a : Int} : uX8_isSpared R 21 [x0, x1] [.inl a] M ↔ ((a = 0 ∨ a = 1) ∧ R (some (.inl a)) M) := Iff.trans (zU_step dX8_isSpared_21 (Or.inl rfl)) ⟨fun h => ⟨zret2 rfl h.2.1, h.2.2⟩, fun h => ⟨rfl, Or.inr (Or.inl ⟨rfl, h.1⟩), h.2⟩⟩
theorem eX8_isSpared {R : zP} {M : zM} {a0 : Nat} {p0 : Int} : tX8_isSpared [.inr (.inr a0), .inl p0] M R ↔ uX8_isSpared R 0 [some (.inr (.inr a0)), some (.inl p0)] [] M := ⟨fun h => h.2, fun h => ⟨show 2 ≤ 2 by decide, h⟩⟩
def uX8_spareBy (R : zP) : zK := zU fX8 vX8_spareBy cX8_spareBy R
theorem dX8_spareBy_0 : decode cX8_spareBy 0 = .ok (.aload_n 0, 1) := by decide +kernel
theorem rX8_spareBy_0 {R : zP} {x1 x2 : Option zV} {st : List zV} {M : zM} {a : Nat} : uX8_spareBy R 0 [some (.inr (.inr a)), x1, x2] st M ↔ uX8_spareBy R 1 [some (.inr (.inr a)), x1, x2] (.inr (.inr a) :: st) M := zU_step dX8_spareBy_0 (Or.inl rfl)
theorem dX8_spareBy_1 : decode cX8_spareBy 1 = .ok (.invokevirtual 199, 3) := by decide +kernel
theorem rX8_spareBy_1 {R : zP} {x0 x1 x2 : Option zV} {st : List zV} {M : zM} {a0 : zV} : uX8_spareBy R 1 [x0, x1, x2] (a0 :: st) M ↔ (st.length ≤ 4 ∧ zcn (zv 8 tX8_asTold) [a0] M (fun M => uX8_spareBy R 4 [x0, x1, x2] st M)) := Iff.trans (zU_step dX8_spareBy_1 (Or.inl rfl)) ⟨fun h => ⟨h.2.1, zcn_of h.2.2⟩, fun h => ⟨rfl, h.1, zcn_to h.2⟩⟩
theorem dX8_spareBy_4 : decode cX8_spareBy 4 = .ok (.aload_n 0, 1) := by decide +kernel
theorem rX8_spareBy_4 {R : zP} {x1 x2 : Option zV} {st : List zV} {M : zM} {a : Nat} : uX8_spareBy R 4 [some (.inr (.inr a)), x1, x2] st M ↔ uX8_spareBy R 5 [some (.inr (.inr a)), x1, x2] (.inr (.inr a) :: st) M := zU_step dX8_spareBy_4 (Or.inl rfl)
theorem dX8_spareBy_5 : decode cX8_spareBy 5 = .ok (.iconst 0, 1) := by decide +kernel
theorem rX8_spareBy_5 {R : zP} {x0 x1 x2 : Option zV} {st : List zV} {M : zM} : uX8_spareBy R 5 [x0, x1, x2] st M ↔ uX8_spareBy R 6 [x0, x1, x2] (.inl (0) :: st) M := zU_step dX8_spareBy_5 (Or.inl rfl)
theorem dX8_spareBy_6 : decode cX8_spareBy 6 = .ok (.invokevirtual 284, 3) := by decide +kernel
theorem rX8_spareBy_6 {R : zP} {x0 x1 x2 : Option zV} {st : List zV} {M : zM} {a0 a1 : zV} : uX8_spareBy R 6 [x0, x1, x2] (a1 :: a0 :: st) M ↔ (st.length ≤ 4 ∧ zcv (zv 8 tX8_isSpared) [a0, a1] M (fun v M => uX8_spareBy R 9 [x0, x1, x2] (v :: st) M)) := Iff.trans (zU_step dX8_spareBy_6 (Or.inl rfl)) ⟨fun h => ⟨h.2.1, zcv_of h.2.2⟩, fun h => ⟨rfl, h.1, zcv_to h.2⟩⟩
theorem dX8_spareBy_9 : decode cX8_spareBy 9 = .ok (.ifCond .eq 5, 3) := by decide +kernel
theorem rX8_spareBy_9 {R : zP} {x0 x1 x2 : Option zV} {st : List zV} {M : zM} {a : Int} : uX8_spareBy R 9 [x0, x1, x2] (.inl a :: st) M ↔ (zIR a ∧ if a = 0 then uX8_spareBy R 14 [x0, x1, x2] st M else uX8_spareBy R 12 [x0, x1, x2] st M) := Iff.trans (zU_step dX8_spareBy_9 (Or.inl rfl)) ⟨fun h => ⟨h.1.1, (zite (c := a = 0)).mpr h.2⟩, fun h => ⟨⟨h.1, by decide⟩, (zite (c := a = 0)).mp h.2⟩⟩
theorem dX8_spareBy_12 : decode cX8_spareBy 12 = .ok (.iconst 0, 1) := by decide +kernel
theorem rX8_spareBy_12 {R : zP} {x0 x1 x2 : Option zV} {st : List zV} {M : zM} : uX8_spareBy R 12 [x0, x1, x2] st M ↔ uX8_spareBy R 13 [x0, x1, x2] (.inl (0) :: st) M := zU_step dX8_spareBy_12 (Or.inl rfl)
theorem dX8_spareBy_13 : decode cX8_spareBy 13 = .ok (.ireturn, 1) := by decide +kernel
theorem rX8_spareBy_13 {R : zP} {x0 x1 x2 : Option zV} {M : zM} {a : Int} : uX8_spareBy R 13 [x0, x1, x2] [.inl a] M ↔ R (some (.inl a)) M := Iff.trans (zU_step dX8_spareBy_13 (Or.inl rfl)) ⟨fun h => h.2.2, fun h => ⟨rfl, Or.inl rfl, h⟩⟩
theorem dX8_spareBy_14 : decode cX8_spareBy 14 = .ok (.iconst 0, 1) := by decide +kernel
theorem rX8_spareBy_14 {R : zP} {x0 x1 x2 : Option zV} {st : List zV} {M : zM} : uX8_spareBy R 14 [x0, x1, x2] st M ↔ uX8_spareBy R 15 [x0, x1, x2] (.inl (0) :: st) M := zU_step dX8_spareBy_14 (Or.inl rfl)
theorem dX8_spareBy_15 : decode cX8_spareBy 15 = .ok (.istore_n 1, 1) := by decide +kernel
theorem rX8_spareBy_15 {R : zP} {x1 x2 : Option zV} {st : List zV} {M : zM} {a : Int} {y : Nat} : uX8_spareBy R 15 [some (.inr (.inr y)), x1, x2] (.inl a :: st) M ↔ uX8_spareBy R 16 [some (.inr (.inr y)), some (.inl a), x2] st M := Iff.trans (zU_step dX8_spareBy_15 (Or.inl rfl)) ⟨fun h => h.2, fun h => ⟨show 1 < 3 by decide, h⟩⟩
theorem rX8_spareBy_15z {R : zP} {x0 x1 x2 : Option zV} {st : List zV} {M : zM} {a : Int} : uX8_spareBy R 15 [x0, x1, x2] (.inl a :: st) M ↔ uX8_spareBy R 16 [zkeep x0, some (.inl a), x2] st M := Iff.trans (zU_step dX8_spareBy_15 (Or.inl rfl)) ⟨fun h => h.2, fun h => ⟨show 1 < 3 by decide, h⟩⟩
theorem dX8_spareBy_16 : decode cX8_spareBy 16 = .ok (.iload_n 1, 1) := by decide +kernel
theorem rX8_spareBy_16 {R : zP} {x0 x2 : Option zV} {st : List zV} {M : zM} {a : Int} : uX8_spareBy R 16 [x0, some (.inl a), x2] st M ↔ uX8_spareBy R 17 [x0, some (.inl a), x2] (.inl a :: st) M := zU_step dX8_spareBy_16 (Or.inl rfl)
theorem dX8_spareBy_17 : decode cX8_spareBy 17 = .ok (.aload_n 0, 1) := by decide +kernel
theorem rX8_spareBy_17 {R : zP} {x1 x2 : Option zV} {st : List zV} {M : zM} {a : Nat} : uX8_spareBy R 17 [some (.inr (.inr a)), x1, x2] st M ↔ uX8_spareBy R 18 [some (.inr (.inr a)), x1, x2] (.inr (.inr a) :: st) M := zU_step dX8_spareBy_17 (Or.inl rfl)
theorem dX8_spareBy_18 : decode cX8_spareBy 18 = .ok (.getfield 166, 3) := by decide +kernel
theorem rX8_spareBy_18 {R : zP} {x0 x1 x2 : Option zV} {st : List zV} {M : zM} {r : Nat} : uX8_spareBy R 18 [x0, x1, x2] (.inr (.inr r) :: st) M ↔ zgetx fX8 166 r M (fun v => uX8_spareBy R 21 [x0, x1, x2] (v :: st) M) := zU_step dX8_spareBy_18 (Or.inl rfl)
theorem dX8_spareBy_21 : decode cX8_spareBy 21 = .ok (.if_icmp .ge 28, 3) := by decide +kernel
theorem rX8_spareBy_21 {R : zP} {x0 x1 x2 : Option zV} {st : List zV} {M : zM} {a b : Int} : uX8_spareBy R 21 [x0, x1, x2] (.inl b :: .inl a :: st) M ↔ ((zIR a ∧ zIR b) ∧ if b ≤ a then uX8_spareBy R 49 [x0, x1, x2] st M else uX8_spareBy R 24 [x0, x1, x2] st M) := Iff.trans (zU_step dX8_spareBy_21 (Or.inl rfl)) ⟨fun h => ⟨⟨h.1.1, h.1.2.1⟩, (zite (c := b ≤ a)).mpr h.2⟩, fun h => ⟨⟨h.1.1, h.1.2, by decide⟩, (zite (c := b ≤ a)).mp h.2⟩⟩
theorem dX8_spareBy_24 : decode cX8_spareBy 24 = .ok (.aload_n 0, 1) := by decide +kernel
theorem rX8_spareBy_24 {R : zP} {x1 x2 : Option zV} {st : List zV} {M : zM} {a : Nat} : uX8_spareBy R 24 [some (.inr (.inr a)), x1, x2] st M ↔ uX8_spareBy R 25 [some (.inr (.inr a)), x1, x2] (.inr (.inr a) :: st) M := zU_step dX8_spareBy_24 (Or.inl rfl)
theorem dX8_spareBy_25 : decode cX8_spareBy 25 = .ok (.getfield 76, 3) := by decide +kernel
theorem rX8_spareBy_25 {R : zP} {x0 x1 x2 : Option zV} {st : List zV} {M : zM} {r : Nat} : uX8_spareBy R 25 [x0, x1, x2] (.inr (.inr r) :: st) M ↔ zgetx fX8 76 r M (fun v => uX8_spareBy R 28 [x0, x1, x2] (v :: st) M) := zU_step dX8_spareBy_25 (Or.inl rfl)
theorem dX8_spareBy_28 : decode cX8_spareBy 28 = .ok (.iconst 0, 1) := by decide +kernel
theorem rX8_spareBy_28 {R : zP} {x0 x1 x2 : Option zV} {st : List zV} {M : zM} : uX8_spareBy R 28 [x0, x1, x2] st M ↔ uX8_spareBy R 29 [x0, x1, x2] (.inl (0) :: st) M := zU_step dX8_spareBy_28 (Or.inl rfl)
theorem dX8_spareBy_29 : decode cX8_spareBy 29 = .ok (.iload_n 1, 1) := by decide +kernel
theorem rX8_spareBy_29 {R : zP} {x0 x2 : Option zV} {st : List zV} {M : zM} {a : Int} : uX8_spareBy R 29 [x0, some (.inl a), x2] st M ↔ uX8_spareBy R 30 [x0, some (.inl a), x2] (.inl a :: st) M := zU_step dX8_spareBy_29 (Or.inl rfl)
theorem dX8_spareBy_30 : decode cX8_spareBy 30 = .ok (.iastore, 1) := by decide +kernel
theorem rX8_spareBy_30 {R : zP} {x0 x1 x2 : Option zV} {st : List zV} {M : zM} {i v : Int} {r : Nat} : uX8_spareBy R 30 [x0, x1, x2] (.inl v :: .inl i :: .inr (.inr r) :: st) M ↔ zwrite 0 r i (uX8_spareBy R 31 [x0, x1, x2] st (zup M r i v)) := zU_step dX8_spareBy_30 (Or.inl rfl)
theorem dX8_spareBy_31 : decode cX8_spareBy 31 = .ok (.aload_n 0, 1) := by decide +kernel
theorem rX8_spareBy_31 {R : zP} {x1 x2 : Option zV} {st : List zV} {M : zM} {a : Nat} : uX8_spareBy R 31 [some (.inr (.inr a)), x1, x2] st M ↔ uX8_spareBy R 32 [some (.inr (.inr a)), x1, x2] (.inr (.inr a) :: st) M := zU_step dX8_spareBy_31 (Or.inl rfl)
theorem dX8_spareBy_32 : decode cX8_spareBy 32 = .ok (.iconst 1, 1) := by decide +kernel
theorem rX8_spareBy_32 {R : zP} {x0 x1 x2 : Option zV} {st : List zV} {M : zM} : uX8_spareBy R 32 [x0, x1, x2] st M ↔ uX8_spareBy R 33 [x0, x1, x2] (.inl (1) :: st) M := zU_step dX8_spareBy_32 (Or.inl rfl)
theorem dX8_spareBy_33 : decode cX8_spareBy 33 = .ok (.iload_n 1, 1) := by decide +kernel
theorem rX8_spareBy_33 {R : zP} {x0 x2 : Option zV} {st : List zV} {M : zM} {a : Int} : uX8_spareBy R 33 [x0, some (.inl a), x2] st M ↔ uX8_spareBy R 34 [x0, some (.inl a), x2] (.inl a :: st) M := zU_step dX8_spareBy_33 (Or.inl rfl)
theorem dX8_spareBy_34 : decode cX8_spareBy 34 = .ok (.ishl, 1) := by decide +kernel
theorem rX8_spareBy_34 {R : zP} {x0 x1 x2 : Option zV} {st : List zV} {M : zM} {a b : Int} : uX8_spareBy R 34 [x0, x1, x2] (.inl b :: .inl a :: st) M ↔ uX8_spareBy R 35 [x0, x1, x2] (.inl (zshl a b) :: st) M := zU_step dX8_spareBy_34 (Or.inl rfl)
theorem dX8_spareBy_35 : decode cX8_spareBy 35 = .ok (.invokevirtual 284, 3) := by decide +kernel
theorem rX8_spareBy_35 {R : zP} {x0 x1 x2 : Option zV} {st : List zV} {M : zM} {a0 a1 : zV} : uX8_spareBy R 35 [x0, x1, x2] (a1 :: a0 :: st) M ↔ (st.length ≤ 4 ∧ zcv (zv 8 tX8_isSpared) [a0, a1] M (fun v M => uX8_spareBy R 38 [x0, x1, x2] (v :: st) M)) := Iff.trans (zU_step dX8_spareBy_35 (Or.inl rfl)) ⟨fun h => ⟨h.2.1, zcv_of h.2.2⟩, fun h => ⟨rfl, h.1, zcv_to h.2⟩⟩
theorem dX8_spareBy_38 : decode cX8_spareBy 38 = .ok (.ifCond .eq 5, 3) := by decide +kernel
theorem rX8_spareBy_38 {R : zP} {x0 x1 x2 : Option zV} {st : List zV} {M : zM} {a : Int} : uX8_spareBy R 38 [x0, x1, x2] (.inl a :: st) M ↔ (zIR a ∧ if a = 0 then uX8_spareBy R 43 [x0, x1, x2] st M else uX8_spareBy R 41 [x0, x1, x2] st M) := Iff.trans (zU_step dX8_spareBy_38 (Or.inl rfl)) ⟨fun h => ⟨h.1.1, (zite (c := a = 0)).mpr h.2⟩, fun h => ⟨⟨h.1, by decide⟩, (zite (c := a = 0)).mp h.2⟩⟩
theorem dX8_spareBy_41 : decode cX8_spareBy 41 = .ok (.iconst 1, 1) := by decide +kernel
theorem rX8_spareBy_41 {R : zP} {x0 x1 x2 : Option zV} {st : List zV} {M : zM} : uX8_spareBy R 41 [x0, x1, x2] st M ↔ uX8_spareBy R 42 [x0, x1, x2] (.inl (1) :: st) M := zU_step dX8_spareBy_41 (Or.inl rfl)
theorem dX8_spareBy_42 : decode cX8_spareBy 42 = .ok (.ireturn, 1) := by decide +kernel
theorem rX8_spareBy_42 {R : zP} {x0 x1 x2 : Option zV} {M : zM} {a : Int} : uX8_spareBy R 42 [x0, x1, x2] [.inl a] M ↔ R (some (.inl a)) M := Iff.trans (zU_step dX8_spareBy_42 (Or.inl rfl)) ⟨fun h => h.2.2, fun h => ⟨rfl, Or.inl rfl, h⟩⟩
theorem dX8_spareBy_43 : decode cX8_spareBy 43 = .ok (.iinc 1 1, 3) := by decide +kernel
theorem rX8_spareBy_43 {R : zP} {x2 : Option zV} {st : List zV} {M : zM} {a : Int} {y : Nat} : uX8_spareBy R 43 [some (.inr (.inr y)), some (.inl a), x2] st M ↔ uX8_spareBy R 46 [some (.inr (.inr y)), some (.inl (a + (1))), x2] st M := Iff.trans (zU_step dX8_spareBy_43 (Or.inl rfl)) ⟨fun h => h.2, fun h => ⟨show 1 < 3 by decide, h⟩⟩
theorem rX8_spareBy_43z {R : zP} {x0 x2 : Option zV} {st : List zV} {M : zM} {a : Int} : uX8_spareBy R 43 [x0, some (.inl a), x2] st M ↔ uX8_spareBy R 46 [zkeep x0, some (.inl (a + (1))), x2] st M := Iff.trans (zU_step dX8_spareBy_43 (Or.inl rfl)) ⟨fun h => h.2, fun h => ⟨show 1 < 3 by decide, h⟩⟩
theorem dX8_spareBy_46 : decode cX8_spareBy 46 = .ok (.goto (-30), 3) := by decide +kernel
theorem rX8_spareBy_46 {R : zP} {x0 x1 x2 : Option zV} {st : List zV} {M : zM} : uX8_spareBy R 46 [x0, x1, x2] st M ↔ uX8_spareBy R 16 [x0, x1, x2] st M := Iff.trans (zU_step dX8_spareBy_46 (Or.inl rfl)) ⟨fun h => h.2, fun h => ⟨by decide, h⟩⟩
theorem dX8_spareBy_49 : decode cX8_spareBy 49 = .ok (.iconst 0, 1) := by decide +kernel
theorem rX8_spareBy_49 {R : zP} {x0 x1 x2 : Option zV} {st : List zV} {M : zM} : uX8_spareBy R 49 [x0, x1, x2] st M ↔ uX8_spareBy R 50 [x0, x1, x2] (.inl (0) :: st) M := zU_step dX8_spareBy_49 (Or.inl rfl)
theorem dX8_spareBy_50 : decode cX8_spareBy 50 = .ok (.istore_n 1, 1) := by decide +kernel
theorem rX8_spareBy_50 {R : zP} {x1 x2 : Option zV} {st : List zV} {M : zM} {a : Int} {y : Nat} : uX8_spareBy R 50 [some (.inr (.inr y)), x1, x2] (.inl a :: st) M ↔ uX8_spareBy R 51 [some (.inr (.inr y)), some (.inl a), x2] st M := Iff.trans (zU_step dX8_spareBy_50 (Or.inl rfl)) ⟨fun h => h.2, fun h => ⟨show 1 < 3 by decide, h⟩⟩
theorem rX8_spareBy_50z {R : zP} {x0 x1 x2 : Option zV} {st : List zV} {M : zM} {a : Int} : uX8_spareBy R 50 [x0, x1, x2] (.inl a :: st) M ↔ uX8_spareBy R 51 [zkeep x0, some (.inl a), x2] st M := Iff.trans (zU_step dX8_spareBy_50 (Or.inl rfl)) ⟨fun h => h.2, fun h => ⟨show 1 < 3 by decide, h⟩⟩
theorem dX8_spareBy_51 : decode cX8_spareBy 51 = .ok (.iload_n 1, 1) := by decide +kernel
theorem rX8_spareBy_51 {R : zP} {x0 x2 : Option zV} {st : List zV} {M : zM} {a : Int} : uX8_spareBy R 51 [x0, some (.inl a), x2] st M ↔ uX8_spareBy R 52 [x0, some (.inl a), x2] (.inl a :: st) M := zU_step dX8_spareBy_51 (Or.inl rfl)
theorem dX8_spareBy_52 : decode cX8_spareBy 52 = .ok (.aload_n 0, 1) := by decide +kernel
theorem rX8_spareBy_52 {R : zP} {x1 x2 : Option zV} {st : List zV} {M : zM} {a : Nat} : uX8_spareBy R 52 [some (.inr (.inr a)), x1, x2] st M ↔ uX8_spareBy R 53 [some (.inr (.inr a)), x1, x2] (.inr (.inr a) :: st) M := zU_step dX8_spareBy_52 (Or.inl rfl)
theorem dX8_spareBy_53 : decode cX8_spareBy 53 = .ok (.getfield 166, 3) := by decide +kernel
theorem rX8_spareBy_53 {R : zP} {x0 x1 x2 : Option zV} {st : List zV} {M : zM} {r : Nat} : uX8_spareBy R 53 [x0, x1, x2] (.inr (.inr r) :: st) M ↔ zgetx fX8 166 r M (fun v => uX8_spareBy R 56 [x0, x1, x2] (v :: st) M) := zU_step dX8_spareBy_53 (Or.inl rfl)
theorem dX8_spareBy_56 : decode cX8_spareBy 56 = .ok (.if_icmp .ge 57, 3) := by decide +kernel
theorem rX8_spareBy_56 {R : zP} {x0 x1 x2 : Option zV} {st : List zV} {M : zM} {a b : Int} : uX8_spareBy R 56 [x0, x1, x2] (.inl b :: .inl a :: st) M ↔ ((zIR a ∧ zIR b) ∧ if b ≤ a then uX8_spareBy R 113 [x0, x1, x2] st M else uX8_spareBy R 59 [x0, x1, x2] st M) := Iff.trans (zU_step dX8_spareBy_56 (Or.inl rfl)) ⟨fun h => ⟨⟨h.1.1, h.1.2.1⟩, (zite (c := b ≤ a)).mpr h.2⟩, fun h => ⟨⟨h.1.1, h.1.2, by decide⟩, (zite (c := b ≤ a)).mp h.2⟩⟩
theorem dX8_spareBy_59 : decode cX8_spareBy 59 = .ok (.iload_n 1, 1) := by decide +kernel
theorem rX8_spareBy_59 {R : zP} {x0 x2 : Option zV} {st : List zV} {M : zM} {a : Int} : uX8_spareBy R 59 [x0, some (.inl a), x2] st M ↔ uX8_spareBy R 60 [x0, some (.inl a), x2] (.inl a :: st) M := zU_step dX8_spareBy_59 (Or.inl rfl)
theorem dX8_spareBy_60 : decode cX8_spareBy 60 = .ok (.iconst 1, 1) := by decide +kernel
theorem rX8_spareBy_60 {R : zP} {x0 x1 x2 : Option zV} {st : List zV} {M : zM} : uX8_spareBy R 60 [x0, x1, x2] st M ↔ uX8_spareBy R 61 [x0, x1, x2] (.inl (1) :: st) M := zU_step dX8_spareBy_60 (Or.inl rfl)
theorem dX8_spareBy_61 : decode cX8_spareBy 61 = .ok (.iadd, 1) := by decide +kernel
theorem rX8_spareBy_61 {R : zP} {x0 x1 x2 : Option zV} {st : List zV} {M : zM} {a b : Int} : uX8_spareBy R 61 [x0, x1, x2] (.inl b :: .inl a :: st) M ↔ uX8_spareBy R 62 [x0, x1, x2] (.inl (a + b) :: st) M := zU_step dX8_spareBy_61 (Or.inl rfl)
theorem dX8_spareBy_62 : decode cX8_spareBy 62 = .ok (.istore_n 2, 1) := by decide +kernel
theorem rX8_spareBy_62 {R : zP} {x0 x2 : Option zV} {st : List zV} {M : zM} {a : Int} {y : Int} : uX8_spareBy R 62 [x0, some (.inl y), x2] (.inl a :: st) M ↔ uX8_spareBy R 63 [x0, some (.inl y), some (.inl a)] st M := Iff.trans (zU_step dX8_spareBy_62 (Or.inl rfl)) ⟨fun h => h.2, fun h => ⟨show 2 < 3 by decide, h⟩⟩
theorem rX8_spareBy_62z {R : zP} {x0 x1 x2 : Option zV} {st : List zV} {M : zM} {a : Int} : uX8_spareBy R 62 [x0, x1, x2] (.inl a :: st) M ↔ uX8_spareBy R 63 [x0, zkeep x1, some (.inl a)] st M := Iff.trans (zU_step dX8_spareBy_62 (Or.inl rfl)) ⟨fun h => h.2, fun h => ⟨show 2 < 3 by decide, h⟩⟩
theorem dX8_spareBy_63 : decode cX8_spareBy 63 = .ok (.iload_n 2, 1) := by decide +kernel
theorem rX8_spareBy_63 {R : zP} {x0 x1 : Option zV} {st : List zV} {M : zM} {a : Int} : uX8_spareBy R 63 [x0, x1, some (.inl a)] st M ↔ uX8_spareBy R 64 [x0, x1, some (.inl a)] (.inl a :: st) M := zU_step dX8_spareBy_63 (Or.inl rfl)
theorem dX8_spareBy_64 : decode cX8_spareBy 64 = .ok (.aload_n 0, 1) := by decide +kernel
theorem rX8_spareBy_64 {R : zP} {x1 x2 : Option zV} {st : List zV} {M : zM} {a : Nat} : uX8_spareBy R 64 [some (.inr (.inr a)), x1, x2] st M ↔ uX8_spareBy R 65 [some (.inr (.inr a)), x1, x2] (.inr (.inr a) :: st) M := zU_step dX8_spareBy_64 (Or.inl rfl)
theorem dX8_spareBy_65 : decode cX8_spareBy 65 = .ok (.getfield 166, 3) := by decide +kernel
theorem rX8_spareBy_65 {R : zP} {x0 x1 x2 : Option zV} {st : List zV} {M : zM} {r : Nat} : uX8_spareBy R 65 [x0, x1, x2] (.inr (.inr r) :: st) M ↔ zgetx fX8 166 r M (fun v => uX8_spareBy R 68 [x0, x1, x2] (v :: st) M) := zU_step dX8_spareBy_65 (Or.inl rfl)
theorem dX8_spareBy_68 : decode cX8_spareBy 68 = .ok (.if_icmp .ge 39, 3) := by decide +kernel
theorem rX8_spareBy_68 {R : zP} {x0 x1 x2 : Option zV} {st : List zV} {M : zM} {a b : Int} : uX8_spareBy R 68 [x0, x1, x2] (.inl b :: .inl a :: st) M ↔ ((zIR a ∧ zIR b) ∧ if b ≤ a then uX8_spareBy R 107 [x0, x1, x2] st M else uX8_spareBy R 71 [x0, x1, x2] st M) := Iff.trans (zU_step dX8_spareBy_68 (Or.inl rfl)) ⟨fun h => ⟨⟨h.1.1, h.1.2.1⟩, (zite (c := b ≤ a)).mpr h.2⟩, fun h => ⟨⟨h.1.1, h.1.2, by decide⟩, (zite (c := b ≤ a)).mp h.2⟩⟩
theorem dX8_spareBy_71 : decode cX8_spareBy 71 = .ok (.aload_n 0, 1) := by decide +kernel
theorem rX8_spareBy_71 {R : zP} {x1 x2 : Option zV} {st : List zV} {M : zM} {a : Nat} : uX8_spareBy R 71 [some (.inr (.inr a)), x1, x2] st M ↔ uX8_spareBy R 72 [some (.inr (.inr a)), x1, x2] (.inr (.inr a) :: st) M := zU_step dX8_spareBy_71 (Or.inl rfl)
theorem dX8_spareBy_72 : decode cX8_spareBy 72 = .ok (.getfield 76, 3) := by decide +kernel
theorem rX8_spareBy_72 {R : zP} {x0 x1 x2 : Option zV} {st : List zV} {M : zM} {r : Nat} : uX8_spareBy R 72 [x0, x1, x2] (.inr (.inr r) :: st) M ↔ zgetx fX8 76 r M (fun v => uX8_spareBy R 75 [x0, x1, x2] (v :: st) M) := zU_step dX8_spareBy_72 (Or.inl rfl)
theorem dX8_spareBy_75 : decode cX8_spareBy 75 = .ok (.iconst 0, 1) := by decide +kernel
theorem rX8_spareBy_75 {R : zP} {x0 x1 x2 : Option zV} {st : List zV} {M : zM} : uX8_spareBy R 75 [x0, x1, x2] st M ↔ uX8_spareBy R 76 [x0, x1, x2] (.inl (0) :: st) M := zU_step dX8_spareBy_75 (Or.inl rfl)
theorem dX8_spareBy_76 : decode cX8_spareBy 76 = .ok (.iload_n 1, 1) := by decide +kernel
theorem rX8_spareBy_76 {R : zP} {x0 x2 : Option zV} {st : List zV} {M : zM} {a : Int} : uX8_spareBy R 76 [x0, some (.inl a), x2] st M ↔ uX8_spareBy R 77 [x0, some (.inl a), x2] (.inl a :: st) M := zU_step dX8_spareBy_76 (Or.inl rfl)
theorem dX8_spareBy_77 : decode cX8_spareBy 77 = .ok (.iastore, 1) := by decide +kernel
theorem rX8_spareBy_77 {R : zP} {x0 x1 x2 : Option zV} {st : List zV} {M : zM} {i v : Int} {r : Nat} : uX8_spareBy R 77 [x0, x1, x2] (.inl v :: .inl i :: .inr (.inr r) :: st) M ↔ zwrite 0 r i (uX8_spareBy R 78 [x0, x1, x2] st (zup M r i v)) := zU_step dX8_spareBy_77 (Or.inl rfl)
theorem dX8_spareBy_78 : decode cX8_spareBy 78 = .ok (.aload_n 0, 1) := by decide +kernel
theorem rX8_spareBy_78 {R : zP} {x1 x2 : Option zV} {st : List zV} {M : zM} {a : Nat} : uX8_spareBy R 78 [some (.inr (.inr a)), x1, x2] st M ↔ uX8_spareBy R 79 [some (.inr (.inr a)), x1, x2] (.inr (.inr a) :: st) M := zU_step dX8_spareBy_78 (Or.inl rfl)
theorem dX8_spareBy_79 : decode cX8_spareBy 79 = .ok (.getfield 76, 3) := by decide +kernel
theorem rX8_spareBy_79 {R : zP} {x0 x1 x2 : Option zV} {st : List zV} {M : zM} {r : Nat} : uX8_spareBy R 79 [x0, x1, x2] (.inr (.inr r) :: st) M ↔ zgetx fX8 76 r M (fun v => uX8_spareBy R 82 [x0, x1, x2] (v :: st) M) := zU_step dX8_spareBy_79 (Or.inl rfl)
theorem dX8_spareBy_82 : decode cX8_spareBy 82 = .ok (.iconst 1, 1) := by decide +kernel
theorem rX8_spareBy_82 {R : zP} {x0 x1 x2 : Option zV} {st : List zV} {M : zM} : uX8_spareBy R 82 [x0, x1, x2] st M ↔ uX8_spareBy R 83 [x0, x1, x2] (.inl (1) :: st) M := zU_step dX8_spareBy_82 (Or.inl rfl)
theorem dX8_spareBy_83 : decode cX8_spareBy 83 = .ok (.iload_n 2, 1) := by decide +kernel
theorem rX8_spareBy_83 {R : zP} {x0 x1 : Option zV} {st : List zV} {M : zM} {a : Int} : uX8_spareBy R 83 [x0, x1, some (.inl a)] st M ↔ uX8_spareBy R 84 [x0, x1, some (.inl a)] (.inl a :: st) M := zU_step dX8_spareBy_83 (Or.inl rfl)
theorem dX8_spareBy_84 : decode cX8_spareBy 84 = .ok (.iastore, 1) := by decide +kernel
theorem rX8_spareBy_84 {R : zP} {x0 x1 x2 : Option zV} {st : List zV} {M : zM} {i v : Int} {r : Nat} : uX8_spareBy R 84 [x0, x1, x2] (.inl v :: .inl i :: .inr (.inr r) :: st) M ↔ zwrite 0 r i (uX8_spareBy R 85 [x0, x1, x2] st (zup M r i v)) := zU_step dX8_spareBy_84 (Or.inl rfl)
theorem dX8_spareBy_85 : decode cX8_spareBy 85 = .ok (.aload_n 0, 1) := by decide +kernel
theorem rX8_spareBy_85 {R : zP} {x1 x2 : Option zV} {st : List zV} {M : zM} {a : Nat} : uX8_spareBy R 85 [some (.inr (.inr a)), x1, x2] st M ↔ uX8_spareBy R 86 [some (.inr (.inr a)), x1, x2] (.inr (.inr a) :: st) M := zU_step dX8_spareBy_85 (Or.inl rfl)
theorem dX8_spareBy_86 : decode cX8_spareBy 86 = .ok (.iconst 1, 1) := by decide +kernel
theorem rX8_spareBy_86 {R : zP} {x0 x1 x2 : Option zV} {st : List zV} {M : zM} : uX8_spareBy R 86 [x0, x1, x2] st M ↔ uX8_spareBy R 87 [x0, x1, x2] (.inl (1) :: st) M := zU_step dX8_spareBy_86 (Or.inl rfl)
theorem dX8_spareBy_87 : decode cX8_spareBy 87 = .ok (.iload_n 1, 1) := by decide +kernel
theorem rX8_spareBy_87 {R : zP} {x0 x2 : Option zV} {st : List zV} {M : zM} {a : Int} : uX8_spareBy R 87 [x0, some (.inl a), x2] st M ↔ uX8_spareBy R 88 [x0, some (.inl a), x2] (.inl a :: st) M := zU_step dX8_spareBy_87 (Or.inl rfl)
theorem dX8_spareBy_88 : decode cX8_spareBy 88 = .ok (.ishl, 1) := by decide +kernel
theorem rX8_spareBy_88 {R : zP} {x0 x1 x2 : Option zV} {st : List zV} {M : zM} {a b : Int} : uX8_spareBy R 88 [x0, x1, x2] (.inl b :: .inl a :: st) M ↔ uX8_spareBy R 89 [x0, x1, x2] (.inl (zshl a b) :: st) M := zU_step dX8_spareBy_88 (Or.inl rfl)
theorem dX8_spareBy_89 : decode cX8_spareBy 89 = .ok (.iconst 1, 1) := by decide +kernel
theorem rX8_spareBy_89 {R : zP} {x0 x1 x2 : Option zV} {st : List zV} {M : zM} : uX8_spareBy R 89 [x0, x1, x2] st M ↔ uX8_spareBy R 90 [x0, x1, x2] (.inl (1) :: st) M := zU_step dX8_spareBy_89 (Or.inl rfl)
theorem dX8_spareBy_90 : decode cX8_spareBy 90 = .ok (.iload_n 2, 1) := by decide +kernel
theorem rX8_spareBy_90 {R : zP} {x0 x1 : Option zV} {st : List zV} {M : zM} {a : Int} : uX8_spareBy R 90 [x0, x1, some (.inl a)] st M ↔ uX8_spareBy R 91 [x0, x1, some (.inl a)] (.inl a :: st) M := zU_step dX8_spareBy_90 (Or.inl rfl)
theorem dX8_spareBy_91 : decode cX8_spareBy 91 = .ok (.ishl, 1) := by decide +kernel
theorem rX8_spareBy_91 {R : zP} {x0 x1 x2 : Option zV} {st : List zV} {M : zM} {a b : Int} : uX8_spareBy R 91 [x0, x1, x2] (.inl b :: .inl a :: st) M ↔ uX8_spareBy R 92 [x0, x1, x2] (.inl (zshl a b) :: st) M := zU_step dX8_spareBy_91 (Or.inl rfl)
theorem dX8_spareBy_92 : decode cX8_spareBy 92 = .ok (.ior, 1) := by decide +kernel
theorem rX8_spareBy_92 {R : zP} {x0 x1 x2 : Option zV} {st : List zV} {M : zM} {a b : Int} : uX8_spareBy R 92 [x0, x1, x2] (.inl b :: .inl a :: st) M ↔ uX8_spareBy R 93 [x0, x1, x2] (.inl (zor a b) :: st) M := zU_step dX8_spareBy_92 (Or.inl rfl)
theorem dX8_spareBy_93 : decode cX8_spareBy 93 = .ok (.invokevirtual 284, 3) := by decide +kernel
theorem rX8_spareBy_93 {R : zP} {x0 x1 x2 : Option zV} {st : List zV} {M : zM} {a0 a1 : zV} : uX8_spareBy R 93 [x0, x1, x2] (a1 :: a0 :: st) M ↔ (st.length ≤ 4 ∧ zcv (zv 8 tX8_isSpared) [a0, a1] M (fun v M => uX8_spareBy R 96 [x0, x1, x2] (v :: st) M)) := Iff.trans (zU_step dX8_spareBy_93 (Or.inl rfl)) ⟨fun h => ⟨h.2.1, zcv_of h.2.2⟩, fun h => ⟨rfl, h.1, zcv_to h.2⟩⟩
theorem dX8_spareBy_96 : decode cX8_spareBy 96 = .ok (.ifCond .eq 5, 3) := by decide +kernel
theorem rX8_spareBy_96 {R : zP} {x0 x1 x2 : Option zV} {st : List zV} {M : zM} {a : Int} : uX8_spareBy R 96 [x0, x1, x2] (.inl a :: st) M ↔ (zIR a ∧ if a = 0 then uX8_spareBy R 101 [x0, x1, x2] st M else uX8_spareBy R 99 [x0, x1, x2] st M) := Iff.trans (zU_step dX8_spareBy_96 (Or.inl rfl)) ⟨fun h => ⟨h.1.1, (zite (c := a = 0)).mpr h.2⟩, fun h => ⟨⟨h.1, by decide⟩, (zite (c := a = 0)).mp h.2⟩⟩
theorem dX8_spareBy_99 : decode cX8_spareBy 99 = .ok (.iconst 2, 1) := by decide +kernel
theorem rX8_spareBy_99 {R : zP} {x0 x1 x2 : Option zV} {st : List zV} {M : zM} : uX8_spareBy R 99 [x0, x1, x2] st M ↔ uX8_spareBy R 100 [x0, x1, x2] (.inl (2) :: st) M := zU_step dX8_spareBy_99 (Or.inl rfl)
theorem dX8_spareBy_100 : decode cX8_spareBy 100 = .ok (.ireturn, 1) := by decide +kernel
theorem rX8_spareBy_100 {R : zP} {x0 x1 x2 : Option zV} {M : zM} {a : Int} : uX8_spareBy R 100 [x0, x1, x2] [.inl a] M ↔ R (some (.inl a)) M := Iff.trans (zU_step dX8_spareBy_100 (Or.inl rfl)) ⟨fun h => h.2.2, fun h => ⟨rfl, Or.inl rfl, h⟩⟩
theorem dX8_spareBy_101 : decode cX8_spareBy 101 = .ok (.iinc 2 1, 3) := by decide +kernel
theorem rX8_spareBy_101 {R : zP} {x0 : Option zV} {st : List zV} {M : zM} {a : Int} {y : Int} : uX8_spareBy R 101 [x0, some (.inl y), some (.inl a)] st M ↔ uX8_spareBy R 104 [x0, some (.inl y), some (.inl (a + (1)))] st M := Iff.trans (zU_step dX8_spareBy_101 (Or.inl rfl)) ⟨fun h => h.2, fun h => ⟨show 2 < 3 by decide, h⟩⟩
theorem rX8_spareBy_101z {R : zP} {x0 x1 : Option zV} {st : List zV} {M : zM} {a : Int} : uX8_spareBy R 101 [x0, x1, some (.inl a)] st M ↔ uX8_spareBy R 104 [x0, zkeep x1, some (.inl (a + (1)))] st M := Iff.trans (zU_step dX8_spareBy_101 (Or.inl rfl)) ⟨fun h => h.2, fun h => ⟨show 2 < 3 by decide, h⟩⟩
theorem dX8_spareBy_104 : decode cX8_spareBy 104 = .ok (.goto (-41), 3) := by decide +kernel
theorem rX8_spareBy_104 {R : zP} {x0 x1 x2 : Option zV} {st : List zV} {M : zM} : uX8_spareBy R 104 [x0, x1, x2] st M ↔ uX8_spareBy R 63 [x0, x1, x2] st M := Iff.trans (zU_step dX8_spareBy_104 (Or.inl rfl)) ⟨fun h => h.2, fun h => ⟨by decide, h⟩⟩
theorem dX8_spareBy_107 : decode cX8_spareBy 107 = .ok (.iinc 1 1, 3) := by decide +kernel
theorem rX8_spareBy_107 {R : zP} {x2 : Option zV} {st : List zV} {M : zM} {a : Int} {y : Nat} : uX8_spareBy R 107 [some (.inr (.inr y)), some (.inl a), x2] st M ↔ uX8_spareBy R 110 [some (.inr (.inr y)), some (.inl (a + (1))), x2] st M := Iff.trans (zU_step dX8_spareBy_107 (Or.inl rfl)) ⟨fun h => h.2, fun h => ⟨show 1 < 3 by decide, h⟩⟩
theorem rX8_spareBy_107z {R : zP} {x0 x2 : Option zV} {st : List zV} {M : zM} {a : Int} : uX8_spareBy R 107 [x0, some (.inl a), x2] st M ↔ uX8_spareBy R 110 [zkeep x0, some (.inl (a + (1))), x2] st M := Iff.trans (zU_step dX8_spareBy_107 (Or.inl rfl)) ⟨fun h => h.2, fun h => ⟨show 1 < 3 by decide, h⟩⟩
theorem dX8_spareBy_110 : decode cX8_spareBy 110 = .ok (.goto (-59), 3) := by decide +kernel
theorem rX8_spareBy_110 {R : zP} {x0 x1 x2 : Option zV} {st : List zV} {M : zM} : uX8_spareBy R 110 [x0, x1, x2] st M ↔ uX8_spareBy R 51 [x0, x1, x2] st M := Iff.trans (zU_step dX8_spareBy_110 (Or.inl rfl)) ⟨fun h => h.2, fun h => ⟨by decide, h⟩⟩
theorem dX8_spareBy_113 : decode cX8_spareBy 113 = .ok (.iconst (-1), 1) := by decide +kernel
theorem rX8_spareBy_113 {R : zP} {x0 x1 x2 : Option zV} {st : List zV} {M : zM} : uX8_spareBy R 113 [x0, x1, x2] st M ↔ uX8_spareBy R 114 [x0, x1, x2] (.inl (-1) :: st) M := zU_step dX8_spareBy_113 (Or.inl rfl)
theorem dX8_spareBy_114 : decode cX8_spareBy 114 = .ok (.ireturn, 1) := by decide +kernel
theorem rX8_spareBy_114 {R : zP} {x0 x1 x2 : Option zV} {M : zM} {a : Int} : uX8_spareBy R 114 [x0, x1, x2] [.inl a] M ↔ R (some (.inl a)) M := Iff.trans (zU_step dX8_spareBy_114 (Or.inl rfl)) ⟨fun h => h.2.2, fun h => ⟨rfl, Or.inl rfl, h⟩⟩
theorem eX8_spareBy {R : zP} {M : zM} {a0 : Nat} : tX8_spareBy [.inr (.inr a0)] M R ↔ uX8_spareBy R 0 [some (.inr (.inr a0)), none, none] [] M := ⟨fun h => h.2, fun h => ⟨show 1 ≤ 3 by decide, h⟩⟩
def uX8_spare (R : zP) : zK := zU fX8 vX8_spare cX8_spare R
theorem dX8_spare_0 : decode cX8_spare 0 = .ok (.iload_n 1, 1) := by decide +kernel
theorem rX8_spare_0 {R : zP} {x0 : Option zV} {st : List zV} {M : zM} {a : Int} : uX8_spare R 0 [x0, some (.inl a)] st M ↔ uX8_spare R 1 [x0, some (.inl a)] (.inl a :: st) M := zU_step dX8_spare_0 (Or.inl rfl)
theorem dX8_spare_1 : decode cX8_spare 1 = .ok (.iconst (-1), 1) := by decide +kernel
theorem rX8_spare_1 {R : zP} {x0 x1 : Option zV} {st : List zV} {M : zM} : uX8_spare R 1 [x0, x1] st M ↔ uX8_spare R 2 [x0, x1] (.inl (-1) :: st) M := zU_step dX8_spare_1 (Or.inl rfl)
theorem dX8_spare_2 : decode cX8_spare 2 = .ok (.iconst 1, 1) := by decide +kernel
theorem rX8_spare_2 {R : zP} {x0 x1 : Option zV} {st : List zV} {M : zM} : uX8_spare R 2 [x0, x1] st M ↔ uX8_spare R 3 [x0, x1] (.inl (1) :: st) M := zU_step dX8_spare_2 (Or.inl rfl)
theorem dX8_spare_3 : decode cX8_spare 3 = .ok (.invokestatic 112, 3) := by decide +kernel
theorem rX8_spare_3 {R : zP} {x0 x1 : Option zV} {st : List zV} {M : zM} {a0 a1 a2 : zV} : uX8_spare R 3 [x0, x1] (a2 :: a1 :: a0 :: st) M ↔ (st.length ≤ 4 ∧ zcv tX8_in [a0, a1, a2] M (fun v M => uX8_spare R 6 [x0, x1] (v :: st) M)) := Iff.trans (zU_step dX8_spare_3 (Or.inl rfl)) ⟨fun h => ⟨h.2.1, zcv_of h.2.2⟩, fun h => ⟨rfl, h.1, zcv_to h.2⟩⟩
theorem dX8_spare_6 : decode cX8_spare 6 = .ok (.ifCond .eq 15, 3) := by decide +kernel
theorem rX8_spare_6 {R : zP} {x0 x1 : Option zV} {st : List zV} {M : zM} {a : Int} : uX8_spare R 6 [x0, x1] (.inl a :: st) M ↔ (zIR a ∧ if a = 0 then uX8_spare R 21 [x0, x1] st M else uX8_spare R 9 [x0, x1] st M) := Iff.trans (zU_step dX8_spare_6 (Or.inl rfl)) ⟨fun h => ⟨h.1.1, (zite (c := a = 0)).mpr h.2⟩, fun h => ⟨⟨h.1, by decide⟩, (zite (c := a = 0)).mp h.2⟩⟩
theorem dX8_spare_9 : decode cX8_spare 9 = .ok (.aload_n 0, 1) := by decide +kernel
theorem rX8_spare_9 {R : zP} {x1 : Option zV} {st : List zV} {M : zM} {a : Nat} : uX8_spare R 9 [some (.inr (.inr a)), x1] st M ↔ uX8_spare R 10 [some (.inr (.inr a)), x1] (.inr (.inr a) :: st) M := zU_step dX8_spare_9 (Or.inl rfl)
theorem dX8_spare_10 : decode cX8_spare 10 = .ok (.aload_n 0, 1) := by decide +kernel
theorem rX8_spare_10 {R : zP} {x1 : Option zV} {st : List zV} {M : zM} {a : Nat} : uX8_spare R 10 [some (.inr (.inr a)), x1] st M ↔ uX8_spare R 11 [some (.inr (.inr a)), x1] (.inr (.inr a) :: st) M := zU_step dX8_spare_10 (Or.inl rfl)
theorem dX8_spare_11 : decode cX8_spare 11 = .ok (.invokevirtual 287, 3) := by decide +kernel
theorem rX8_spare_11 {R : zP} {x0 x1 : Option zV} {st : List zV} {M : zM} {a0 : zV} : uX8_spare R 11 [x0, x1] (a0 :: st) M ↔ (st.length ≤ 4 ∧ zcv (zv 8 tX8_spareBy) [a0] M (fun v M => uX8_spare R 14 [x0, x1] (v :: st) M)) := Iff.trans (zU_step dX8_spare_11 (Or.inl rfl)) ⟨fun h => ⟨h.2.1, zcv_of h.2.2⟩, fun h => ⟨rfl, h.1, zcv_to h.2⟩⟩
theorem dX8_spare_14 : decode cX8_spare 14 = .ok (.iload_n 1, 1) := by decide +kernel
theorem rX8_spare_14 {R : zP} {x0 : Option zV} {st : List zV} {M : zM} {a : Int} : uX8_spare R 14 [x0, some (.inl a)] st M ↔ uX8_spare R 15 [x0, some (.inl a)] (.inl a :: st) M := zU_step dX8_spare_14 (Or.inl rfl)
theorem dX8_spare_15 : decode cX8_spare 15 = .ok (.invokevirtual 278, 3) := by decide +kernel
theorem rX8_spare_15 {R : zP} {x0 x1 : Option zV} {st : List zV} {M : zM} {a0 a1 a2 : zV} : uX8_spare R 15 [x0, x1] (a2 :: a1 :: a0 :: st) M ↔ (st.length ≤ 4 ∧ zcv (zv 8 tX8_ofRow) [a0, a1, a2] M (fun v M => uX8_spare R 18 [x0, x1] (v :: st) M)) := Iff.trans (zU_step dX8_spare_15 (Or.inl rfl)) ⟨fun h => ⟨h.2.1, zcv_of h.2.2⟩, fun h => ⟨rfl, h.1, zcv_to h.2⟩⟩
theorem dX8_spare_18 : decode cX8_spare 18 = .ok (.goto 5, 3) := by decide +kernel
theorem rX8_spare_18 {R : zP} {x0 x1 : Option zV} {st : List zV} {M : zM} : uX8_spare R 18 [x0, x1] st M ↔ uX8_spare R 23 [x0, x1] st M := Iff.trans (zU_step dX8_spare_18 (Or.inl rfl)) ⟨fun h => h.2, fun h => ⟨by decide, h⟩⟩
theorem dX8_spare_21 : decode cX8_spare 21 = .ok (.bipush (-2), 2) := by decide +kernel
theorem rX8_spare_21 {R : zP} {x0 x1 : Option zV} {st : List zV} {M : zM} : uX8_spare R 21 [x0, x1] st M ↔ uX8_spare R 23 [x0, x1] (.inl (-2) :: st) M := Iff.trans (zU_step dX8_spare_21 (Or.inl rfl)) ⟨fun h => h.2, fun h => ⟨by decide, h⟩⟩
theorem dX8_spare_23 : decode cX8_spare 23 = .ok (.ireturn, 1) := by decide +kernel
theorem rX8_spare_23 {R : zP} {x0 x1 : Option zV} {M : zM} {a : Int} : uX8_spare R 23 [x0, x1] [.inl a] M ↔ R (some (.inl a)) M := Iff.trans (zU_step dX8_spare_23 (Or.inl rfl)) ⟨fun h => h.2.2, fun h => ⟨rfl, Or.inl rfl, h⟩⟩
theorem eX8_spare {R : zP} {M : zM} {a0 : Nat} {p0 : Int} : tX8_spare [.inr (.inr a0), .inl p0] M R ↔ uX8_spare R 0 [some (.inr (.inr a0)), some (.inl p0)] [] M := ⟨fun h => h.2, fun h => ⟨show 2 ≤ 2 by decide, h⟩⟩
def uX8_seen (R : zP) : zK := zU fX8 vX8_seen cX8_seen R
theorem dX8_seen_0 : decode cX8_seen 0 = .ok (.iload_n 1, 1) := by decide +kernel
theorem rX8_seen_0 {R : zP} {x0 x2 x3 x4 : Option zV} {st : List zV} {M : zM} {a : Int} : uX8_seen R 0 [x0, some (.inl a), x2, x3, x4] st M ↔ uX8_seen R 1 [x0, some (.inl a), x2, x3, x4] (.inl a :: st) M := zU_step dX8_seen_0 (Or.inl rfl)
theorem dX8_seen_1 : decode cX8_seen 1 = .ok (.invokestatic 160, 3) := by decide +kernel
theorem rX8_seen_1 {R : zP} {x0 x1 x2 x3 x4 : Option zV} {st : List zV} {M : zM} {a0 : zV} : uX8_seen R 1 [x0, x1, x2, x3, x4] (a0 :: st) M ↔ (st.length ≤ 4 ∧ zcv tX8_isTerm [a0] M (fun v M => uX8_seen R 4 [x0, x1, x2, x3, x4] (v :: st) M)) := Iff.trans (zU_step dX8_seen_1 (Or.inl rfl)) ⟨fun h => ⟨h.2.1, zcv_of h.2.2⟩, fun h => ⟨rfl, h.1, zcv_to h.2⟩⟩
theorem dX8_seen_4 : decode cX8_seen 4 = .ok (.ifCond .eq 28, 3) := by decide +kernel
theorem rX8_seen_4 {R : zP} {x0 x1 x2 x3 x4 : Option zV} {st : List zV} {M : zM} {a : Int} : uX8_seen R 4 [x0, x1, x2, x3, x4] (.inl a :: st) M ↔ (zIR a ∧ if a = 0 then uX8_seen R 32 [x0, x1, x2, x3, x4] st M else uX8_seen R 7 [x0, x1, x2, x3, x4] st M) := Iff.trans (zU_step dX8_seen_4 (Or.inl rfl)) ⟨fun h => ⟨h.1.1, (zite (c := a = 0)).mpr h.2⟩, fun h => ⟨⟨h.1, by decide⟩, (zite (c := a = 0)).mp h.2⟩⟩
theorem dX8_seen_7 : decode cX8_seen 7 = .ok (.iload_n 2, 1) := by decide +kernel
theorem rX8_seen_7 {R : zP} {x0 x1 x3 x4 : Option zV} {st : List zV} {M : zM} {a : Int} : uX8_seen R 7 [x0, x1, some (.inl a), x3, x4] st M ↔ uX8_seen R 8 [x0, x1, some (.inl a), x3, x4] (.inl a :: st) M := zU_step dX8_seen_7 (Or.inl rfl)
theorem dX8_seen_8 : decode cX8_seen 8 = .ok (.invokestatic 163, 3) := by decide +kernel
theorem rX8_seen_8 {R : zP} {x0 x1 x2 x3 x4 : Option zV} {st : List zV} {M : zM} {a0 : zV} : uX8_seen R 8 [x0, x1, x2, x3, x4] (a0 :: st) M ↔ (st.length ≤ 4 ∧ zcv tX8_isEight [a0] M (fun v M => uX8_seen R 11 [x0, x1, x2, x3, x4] (v :: st) M)) := Iff.trans (zU_step dX8_seen_8 (Or.inl rfl)) ⟨fun h => ⟨h.2.1, zcv_of h.2.2⟩, fun h => ⟨rfl, h.1, zcv_to h.2⟩⟩
theorem dX8_seen_11 : decode cX8_seen 11 = .ok (.ifCond .eq 21, 3) := by decide +kernel
theorem rX8_seen_11 {R : zP} {x0 x1 x2 x3 x4 : Option zV} {st : List zV} {M : zM} {a : Int} : uX8_seen R 11 [x0, x1, x2, x3, x4] (.inl a :: st) M ↔ (zIR a ∧ if a = 0 then uX8_seen R 32 [x0, x1, x2, x3, x4] st M else uX8_seen R 14 [x0, x1, x2, x3, x4] st M) := Iff.trans (zU_step dX8_seen_11 (Or.inl rfl)) ⟨fun h => ⟨h.1.1, (zite (c := a = 0)).mpr h.2⟩, fun h => ⟨⟨h.1, by decide⟩, (zite (c := a = 0)).mp h.2⟩⟩
theorem dX8_seen_14 : decode cX8_seen 14 = .ok (.iload_n 3, 1) := by decide +kernel
theorem rX8_seen_14 {R : zP} {x0 x1 x2 x4 : Option zV} {st : List zV} {M : zM} {a : Int} : uX8_seen R 14 [x0, x1, x2, some (.inl a), x4] st M ↔ uX8_seen R 15 [x0, x1, x2, some (.inl a), x4] (.inl a :: st) M := zU_step dX8_seen_14 (Or.inl rfl)
theorem dX8_seen_15 : decode cX8_seen 15 = .ok (.invokestatic 208, 3) := by decide +kernel
theorem rX8_seen_15 {R : zP} {x0 x1 x2 x3 x4 : Option zV} {st : List zV} {M : zM} {a0 : zV} : uX8_seen R 15 [x0, x1, x2, x3, x4] (a0 :: st) M ↔ (st.length ≤ 4 ∧ zcv tX8_isQuestion [a0] M (fun v M => uX8_seen R 18 [x0, x1, x2, x3, x4] (v :: st) M)) := Iff.trans (zU_step dX8_seen_15 (Or.inl rfl)) ⟨fun h => ⟨h.2.1, zcv_of h.2.2⟩, fun h => ⟨rfl, h.1, zcv_to h.2⟩⟩
theorem dX8_seen_18 : decode cX8_seen 18 = .ok (.ifCond .eq 14, 3) := by decide +kernel
theorem rX8_seen_18 {R : zP} {x0 x1 x2 x3 x4 : Option zV} {st : List zV} {M : zM} {a : Int} : uX8_seen R 18 [x0, x1, x2, x3, x4] (.inl a :: st) M ↔ (zIR a ∧ if a = 0 then uX8_seen R 32 [x0, x1, x2, x3, x4] st M else uX8_seen R 21 [x0, x1, x2, x3, x4] st M) := Iff.trans (zU_step dX8_seen_18 (Or.inl rfl)) ⟨fun h => ⟨h.1.1, (zite (c := a = 0)).mpr h.2⟩, fun h => ⟨⟨h.1, by decide⟩, (zite (c := a = 0)).mp h.2⟩⟩
theorem dX8_seen_21 : decode cX8_seen 21 = .ok (.iload 4, 2) := by decide +kernel
theorem rX8_seen_21 {R : zP} {x0 x1 x2 x3 : Option zV} {st : List zV} {M : zM} {a : Int} : uX8_seen R 21 [x0, x1, x2, x3, some (.inl a)] st M ↔ uX8_seen R 23 [x0, x1, x2, x3, some (.inl a)] (.inl a :: st) M := zU_step dX8_seen_21 (Or.inl rfl)
theorem dX8_seen_23 : decode cX8_seen 23 = .ok (.iconst 0, 1) := by decide +kernel
theorem rX8_seen_23 {R : zP} {x0 x1 x2 x3 x4 : Option zV} {st : List zV} {M : zM} : uX8_seen R 23 [x0, x1, x2, x3, x4] st M ↔ uX8_seen R 24 [x0, x1, x2, x3, x4] (.inl (0) :: st) M := zU_step dX8_seen_23 (Or.inl rfl)
theorem dX8_seen_24 : decode cX8_seen 24 = .ok (.bipush 9, 2) := by decide +kernel
theorem rX8_seen_24 {R : zP} {x0 x1 x2 x3 x4 : Option zV} {st : List zV} {M : zM} : uX8_seen R 24 [x0, x1, x2, x3, x4] st M ↔ uX8_seen R 26 [x0, x1, x2, x3, x4] (.inl (9) :: st) M := Iff.trans (zU_step dX8_seen_24 (Or.inl rfl)) ⟨fun h => h.2, fun h => ⟨by decide, h⟩⟩
theorem dX8_seen_26 : decode cX8_seen 26 = .ok (.invokestatic 112, 3) := by decide +kernel
theorem rX8_seen_26 {R : zP} {x0 x1 x2 x3 x4 : Option zV} {st : List zV} {M : zM} {a0 a1 a2 : zV} : uX8_seen R 26 [x0, x1, x2, x3, x4] (a2 :: a1 :: a0 :: st) M ↔ (st.length ≤ 4 ∧ zcv tX8_in [a0, a1, a2] M (fun v M => uX8_seen R 29 [x0, x1, x2, x3, x4] (v :: st) M)) := Iff.trans (zU_step dX8_seen_26 (Or.inl rfl)) ⟨fun h => ⟨h.2.1, zcv_of h.2.2⟩, fun h => ⟨rfl, h.1, zcv_to h.2⟩⟩
theorem dX8_seen_29 : decode cX8_seen 29 = .ok (.ifCond .ne 6, 3) := by decide +kernel
theorem rX8_seen_29 {R : zP} {x0 x1 x2 x3 x4 : Option zV} {st : List zV} {M : zM} {a : Int} : uX8_seen R 29 [x0, x1, x2, x3, x4] (.inl a :: st) M ↔ (zIR a ∧ if a ≠ 0 then uX8_seen R 35 [x0, x1, x2, x3, x4] st M else uX8_seen R 32 [x0, x1, x2, x3, x4] st M) := Iff.trans (zU_step dX8_seen_29 (Or.inl rfl)) ⟨fun h => ⟨h.1.1, (zite (c := a ≠ 0)).mpr h.2⟩, fun h => ⟨⟨h.1, by decide⟩, (zite (c := a ≠ 0)).mp h.2⟩⟩
theorem dX8_seen_32 : decode cX8_seen 32 = .ok (.bipush (-2), 2) := by decide +kernel
theorem rX8_seen_32 {R : zP} {x0 x1 x2 x3 x4 : Option zV} {st : List zV} {M : zM} : uX8_seen R 32 [x0, x1, x2, x3, x4] st M ↔ uX8_seen R 34 [x0, x1, x2, x3, x4] (.inl (-2) :: st) M := Iff.trans (zU_step dX8_seen_32 (Or.inl rfl)) ⟨fun h => h.2, fun h => ⟨by decide, h⟩⟩
theorem dX8_seen_34 : decode cX8_seen 34 = .ok (.ireturn, 1) := by decide +kernel
theorem rX8_seen_34 {R : zP} {x0 x1 x2 x3 x4 : Option zV} {M : zM} {a : Int} : uX8_seen R 34 [x0, x1, x2, x3, x4] [.inl a] M ↔ R (some (.inl a)) M := Iff.trans (zU_step dX8_seen_34 (Or.inl rfl)) ⟨fun h => h.2.2, fun h => ⟨rfl, Or.inl rfl, h⟩⟩
theorem dX8_seen_35 : decode cX8_seen 35 = .ok (.aload_n 0, 1) := by decide +kernel
theorem rX8_seen_35 {R : zP} {x1 x2 x3 x4 : Option zV} {st : List zV} {M : zM} {a : Nat} : uX8_seen R 35 [some (.inr (.inr a)), x1, x2, x3, x4] st M ↔ uX8_seen R 36 [some (.inr (.inr a)), x1, x2, x3, x4] (.inr (.inr a) :: st) M := zU_step dX8_seen_35 (Or.inl rfl)
theorem dX8_seen_36 : decode cX8_seen 36 = .ok (.getfield 290, 3) := by decide +kernel
theorem rX8_seen_36 {R : zP} {x0 x1 x2 x3 x4 : Option zV} {st : List zV} {M : zM} {r : Nat} : uX8_seen R 36 [x0, x1, x2, x3, x4] (.inr (.inr r) :: st) M ↔ zgetx fX8 290 r M (fun v => uX8_seen R 39 [x0, x1, x2, x3, x4] (v :: st) M) := zU_step dX8_seen_36 (Or.inl rfl)
theorem dX8_seen_39 : decode cX8_seen 39 = .ok (.bipush 8, 2) := by decide +kernel
theorem rX8_seen_39 {R : zP} {x0 x1 x2 x3 x4 : Option zV} {st : List zV} {M : zM} : uX8_seen R 39 [x0, x1, x2, x3, x4] st M ↔ uX8_seen R 41 [x0, x1, x2, x3, x4] (.inl (8) :: st) M := Iff.trans (zU_step dX8_seen_39 (Or.inl rfl)) ⟨fun h => h.2, fun h => ⟨by decide, h⟩⟩
theorem dX8_seen_41 : decode cX8_seen 41 = .ok (.if_icmp .ne 6, 3) := by decide +kernel
theorem rX8_seen_41 {R : zP} {x0 x1 x2 x3 x4 : Option zV} {st : List zV} {M : zM} {a b : Int} : uX8_seen R 41 [x0, x1, x2, x3, x4] (.inl b :: .inl a :: st) M ↔ ((zIR a ∧ zIR b) ∧ if a ≠ b then uX8_seen R 47 [x0, x1, x2, x3, x4] st M else uX8_seen R 44 [x0, x1, x2, x3, x4] st M) := Iff.trans (zU_step dX8_seen_41 (Or.inl rfl)) ⟨fun h => ⟨⟨h.1.1, h.1.2.1⟩, (zite (c := a ≠ b)).mpr h.2⟩, fun h => ⟨⟨h.1.1, h.1.2, by decide⟩, (zite (c := a ≠ b)).mp h.2⟩⟩
theorem dX8_seen_44 : decode cX8_seen 44 = .ok (.bipush (-4), 2) := by decide +kernel
theorem rX8_seen_44 {R : zP} {x0 x1 x2 x3 x4 : Option zV} {st : List zV} {M : zM} : uX8_seen R 44 [x0, x1, x2, x3, x4] st M ↔ uX8_seen R 46 [x0, x1, x2, x3, x4] (.inl (-4) :: st) M := Iff.trans (zU_step dX8_seen_44 (Or.inl rfl)) ⟨fun h => h.2, fun h => ⟨by decide, h⟩⟩
theorem dX8_seen_46 : decode cX8_seen 46 = .ok (.ireturn, 1) := by decide +kernel
theorem rX8_seen_46 {R : zP} {x0 x1 x2 x3 x4 : Option zV} {M : zM} {a : Int} : uX8_seen R 46 [x0, x1, x2, x3, x4] [.inl a] M ↔ R (some (.inl a)) M := Iff.trans (zU_step dX8_seen_46 (Or.inl rfl)) ⟨fun h => h.2.2, fun h => ⟨rfl, Or.inl rfl, h⟩⟩
theorem dX8_seen_47 : decode cX8_seen 47 = .ok (.aload_n 0, 1) := by decide +kernel
theorem rX8_seen_47 {R : zP} {x1 x2 x3 x4 : Option zV} {st : List zV} {M : zM} {a : Nat} : uX8_seen R 47 [some (.inr (.inr a)), x1, x2, x3, x4] st M ↔ uX8_seen R 48 [some (.inr (.inr a)), x1, x2, x3, x4] (.inr (.inr a) :: st) M := zU_step dX8_seen_47 (Or.inl rfl)
theorem dX8_seen_48 : decode cX8_seen 48 = .ok (.getfield 79, 3) := by decide +kernel
theorem rX8_seen_48 {R : zP} {x0 x1 x2 x3 x4 : Option zV} {st : List zV} {M : zM} {r : Nat} : uX8_seen R 48 [x0, x1, x2, x3, x4] (.inr (.inr r) :: st) M ↔ zgetx fX8 79 r M (fun v => uX8_seen R 51 [x0, x1, x2, x3, x4] (v :: st) M) := zU_step dX8_seen_48 (Or.inl rfl)
theorem dX8_seen_51 : decode cX8_seen 51 = .ok (.aload_n 0, 1) := by decide +kernel
theorem rX8_seen_51 {R : zP} {x1 x2 x3 x4 : Option zV} {st : List zV} {M : zM} {a : Nat} : uX8_seen R 51 [some (.inr (.inr a)), x1, x2, x3, x4] st M ↔ uX8_seen R 52 [some (.inr (.inr a)), x1, x2, x3, x4] (.inr (.inr a) :: st) M := zU_step dX8_seen_51 (Or.inl rfl)
theorem dX8_seen_52 : decode cX8_seen 52 = .ok (.getfield 290, 3) := by decide +kernel
theorem rX8_seen_52 {R : zP} {x0 x1 x2 x3 x4 : Option zV} {st : List zV} {M : zM} {r : Nat} : uX8_seen R 52 [x0, x1, x2, x3, x4] (.inr (.inr r) :: st) M ↔ zgetx fX8 290 r M (fun v => uX8_seen R 55 [x0, x1, x2, x3, x4] (v :: st) M) := zU_step dX8_seen_52 (Or.inl rfl)
theorem dX8_seen_55 : decode cX8_seen 55 = .ok (.iload_n 1, 1) := by decide +kernel
theorem rX8_seen_55 {R : zP} {x0 x2 x3 x4 : Option zV} {st : List zV} {M : zM} {a : Int} : uX8_seen R 55 [x0, some (.inl a), x2, x3, x4] st M ↔ uX8_seen R 56 [x0, some (.inl a), x2, x3, x4] (.inl a :: st) M := zU_step dX8_seen_55 (Or.inl rfl)
theorem dX8_seen_56 : decode cX8_seen 56 = .ok (.iastore, 1) := by decide +kernel
theorem rX8_seen_56 {R : zP} {x0 x1 x2 x3 x4 : Option zV} {st : List zV} {M : zM} {i v : Int} {r : Nat} : uX8_seen R 56 [x0, x1, x2, x3, x4] (.inl v :: .inl i :: .inr (.inr r) :: st) M ↔ zwrite 0 r i (uX8_seen R 57 [x0, x1, x2, x3, x4] st (zup M r i v)) := zU_step dX8_seen_56 (Or.inl rfl)
theorem dX8_seen_57 : decode cX8_seen 57 = .ok (.aload_n 0, 1) := by decide +kernel
theorem rX8_seen_57 {R : zP} {x1 x2 x3 x4 : Option zV} {st : List zV} {M : zM} {a : Nat} : uX8_seen R 57 [some (.inr (.inr a)), x1, x2, x3, x4] st M ↔ uX8_seen R 58 [some (.inr (.inr a)), x1, x2, x3, x4] (.inr (.inr a) :: st) M := zU_step dX8_seen_57 (Or.inl rfl)
theorem dX8_seen_58 : decode cX8_seen 58 = .ok (.getfield 82, 3) := by decide +kernel
theorem rX8_seen_58 {R : zP} {x0 x1 x2 x3 x4 : Option zV} {st : List zV} {M : zM} {r : Nat} : uX8_seen R 58 [x0, x1, x2, x3, x4] (.inr (.inr r) :: st) M ↔ zgetx fX8 82 r M (fun v => uX8_seen R 61 [x0, x1, x2, x3, x4] (v :: st) M) := zU_step dX8_seen_58 (Or.inl rfl)
theorem dX8_seen_61 : decode cX8_seen 61 = .ok (.aload_n 0, 1) := by decide +kernel
theorem rX8_seen_61 {R : zP} {x1 x2 x3 x4 : Option zV} {st : List zV} {M : zM} {a : Nat} : uX8_seen R 61 [some (.inr (.inr a)), x1, x2, x3, x4] st M ↔ uX8_seen R 62 [some (.inr (.inr a)), x1, x2, x3, x4] (.inr (.inr a) :: st) M := zU_step dX8_seen_61 (Or.inl rfl)
theorem dX8_seen_62 : decode cX8_seen 62 = .ok (.getfield 290, 3) := by decide +kernel
theorem rX8_seen_62 {R : zP} {x0 x1 x2 x3 x4 : Option zV} {st : List zV} {M : zM} {r : Nat} : uX8_seen R 62 [x0, x1, x2, x3, x4] (.inr (.inr r) :: st) M ↔ zgetx fX8 290 r M (fun v => uX8_seen R 65 [x0, x1, x2, x3, x4] (v :: st) M) := zU_step dX8_seen_62 (Or.inl rfl)
theorem dX8_seen_65 : decode cX8_seen 65 = .ok (.iload_n 2, 1) := by decide +kernel
theorem rX8_seen_65 {R : zP} {x0 x1 x3 x4 : Option zV} {st : List zV} {M : zM} {a : Int} : uX8_seen R 65 [x0, x1, some (.inl a), x3, x4] st M ↔ uX8_seen R 66 [x0, x1, some (.inl a), x3, x4] (.inl a :: st) M := zU_step dX8_seen_65 (Or.inl rfl)
theorem dX8_seen_66 : decode cX8_seen 66 = .ok (.iastore, 1) := by decide +kernel
theorem rX8_seen_66 {R : zP} {x0 x1 x2 x3 x4 : Option zV} {st : List zV} {M : zM} {i v : Int} {r : Nat} : uX8_seen R 66 [x0, x1, x2, x3, x4] (.inl v :: .inl i :: .inr (.inr r) :: st) M ↔ zwrite 0 r i (uX8_seen R 67 [x0, x1, x2, x3, x4] st (zup M r i v)) := zU_step dX8_seen_66 (Or.inl rfl)
theorem dX8_seen_67 : decode cX8_seen 67 = .ok (.aload_n 0, 1) := by decide +kernel
theorem rX8_seen_67 {R : zP} {x1 x2 x3 x4 : Option zV} {st : List zV} {M : zM} {a : Nat} : uX8_seen R 67 [some (.inr (.inr a)), x1, x2, x3, x4] st M ↔ uX8_seen R 68 [some (.inr (.inr a)), x1, x2, x3, x4] (.inr (.inr a) :: st) M := zU_step dX8_seen_67 (Or.inl rfl)
theorem dX8_seen_68 : decode cX8_seen 68 = .ok (.getfield 85, 3) := by decide +kernel
theorem rX8_seen_68 {R : zP} {x0 x1 x2 x3 x4 : Option zV} {st : List zV} {M : zM} {r : Nat} : uX8_seen R 68 [x0, x1, x2, x3, x4] (.inr (.inr r) :: st) M ↔ zgetx fX8 85 r M (fun v => uX8_seen R 71 [x0, x1, x2, x3, x4] (v :: st) M) := zU_step dX8_seen_68 (Or.inl rfl)
theorem dX8_seen_71 : decode cX8_seen 71 = .ok (.aload_n 0, 1) := by decide +kernel
theorem rX8_seen_71 {R : zP} {x1 x2 x3 x4 : Option zV} {st : List zV} {M : zM} {a : Nat} : uX8_seen R 71 [some (.inr (.inr a)), x1, x2, x3, x4] st M ↔ uX8_seen R 72 [some (.inr (.inr a)), x1, x2, x3, x4] (.inr (.inr a) :: st) M := zU_step dX8_seen_71 (Or.inl rfl)
theorem dX8_seen_72 : decode cX8_seen 72 = .ok (.getfield 290, 3) := by decide +kernel
theorem rX8_seen_72 {R : zP} {x0 x1 x2 x3 x4 : Option zV} {st : List zV} {M : zM} {r : Nat} : uX8_seen R 72 [x0, x1, x2, x3, x4] (.inr (.inr r) :: st) M ↔ zgetx fX8 290 r M (fun v => uX8_seen R 75 [x0, x1, x2, x3, x4] (v :: st) M) := zU_step dX8_seen_72 (Or.inl rfl)
theorem dX8_seen_75 : decode cX8_seen 75 = .ok (.iload_n 3, 1) := by decide +kernel
theorem rX8_seen_75 {R : zP} {x0 x1 x2 x4 : Option zV} {st : List zV} {M : zM} {a : Int} : uX8_seen R 75 [x0, x1, x2, some (.inl a), x4] st M ↔ uX8_seen R 76 [x0, x1, x2, some (.inl a), x4] (.inl a :: st) M := zU_step dX8_seen_75 (Or.inl rfl)
theorem dX8_seen_76 : decode cX8_seen 76 = .ok (.iastore, 1) := by decide +kernel
theorem rX8_seen_76 {R : zP} {x0 x1 x2 x3 x4 : Option zV} {st : List zV} {M : zM} {i v : Int} {r : Nat} : uX8_seen R 76 [x0, x1, x2, x3, x4] (.inl v :: .inl i :: .inr (.inr r) :: st) M ↔ zwrite 0 r i (uX8_seen R 77 [x0, x1, x2, x3, x4] st (zup M r i v)) := zU_step dX8_seen_76 (Or.inl rfl)
theorem dX8_seen_77 : decode cX8_seen 77 = .ok (.aload_n 0, 1) := by decide +kernel
theorem rX8_seen_77 {R : zP} {x1 x2 x3 x4 : Option zV} {st : List zV} {M : zM} {a : Nat} : uX8_seen R 77 [some (.inr (.inr a)), x1, x2, x3, x4] st M ↔ uX8_seen R 78 [some (.inr (.inr a)), x1, x2, x3, x4] (.inr (.inr a) :: st) M := zU_step dX8_seen_77 (Or.inl rfl)
theorem dX8_seen_78 : decode cX8_seen 78 = .ok (.getfield 88, 3) := by decide +kernel
theorem rX8_seen_78 {R : zP} {x0 x1 x2 x3 x4 : Option zV} {st : List zV} {M : zM} {r : Nat} : uX8_seen R 78 [x0, x1, x2, x3, x4] (.inr (.inr r) :: st) M ↔ zgetx fX8 88 r M (fun v => uX8_seen R 81 [x0, x1, x2, x3, x4] (v :: st) M) := zU_step dX8_seen_78 (Or.inl rfl)
theorem dX8_seen_81 : decode cX8_seen 81 = .ok (.aload_n 0, 1) := by decide +kernel
theorem rX8_seen_81 {R : zP} {x1 x2 x3 x4 : Option zV} {st : List zV} {M : zM} {a : Nat} : uX8_seen R 81 [some (.inr (.inr a)), x1, x2, x3, x4] st M ↔ uX8_seen R 82 [some (.inr (.inr a)), x1, x2, x3, x4] (.inr (.inr a) :: st) M := zU_step dX8_seen_81 (Or.inl rfl)
theorem dX8_seen_82 : decode cX8_seen 82 = .ok (.getfield 290, 3) := by decide +kernel
theorem rX8_seen_82 {R : zP} {x0 x1 x2 x3 x4 : Option zV} {st : List zV} {M : zM} {r : Nat} : uX8_seen R 82 [x0, x1, x2, x3, x4] (.inr (.inr r) :: st) M ↔ zgetx fX8 290 r M (fun v => uX8_seen R 85 [x0, x1, x2, x3, x4] (v :: st) M) := zU_step dX8_seen_82 (Or.inl rfl)
theorem dX8_seen_85 : decode cX8_seen 85 = .ok (.iload 4, 2) := by decide +kernel
theorem rX8_seen_85 {R : zP} {x0 x1 x2 x3 : Option zV} {st : List zV} {M : zM} {a : Int} : uX8_seen R 85 [x0, x1, x2, x3, some (.inl a)] st M ↔ uX8_seen R 87 [x0, x1, x2, x3, some (.inl a)] (.inl a :: st) M := zU_step dX8_seen_85 (Or.inl rfl)
theorem dX8_seen_87 : decode cX8_seen 87 = .ok (.iastore, 1) := by decide +kernel
theorem rX8_seen_87 {R : zP} {x0 x1 x2 x3 x4 : Option zV} {st : List zV} {M : zM} {i v : Int} {r : Nat} : uX8_seen R 87 [x0, x1, x2, x3, x4] (.inl v :: .inl i :: .inr (.inr r) :: st) M ↔ zwrite 0 r i (uX8_seen R 88 [x0, x1, x2, x3, x4] st (zup M r i v)) := zU_step dX8_seen_87 (Or.inl rfl)
theorem dX8_seen_88 : decode cX8_seen 88 = .ok (.aload_n 0, 1) := by decide +kernel
theorem rX8_seen_88 {R : zP} {x1 x2 x3 x4 : Option zV} {st : List zV} {M : zM} {a : Nat} : uX8_seen R 88 [some (.inr (.inr a)), x1, x2, x3, x4] st M ↔ uX8_seen R 89 [some (.inr (.inr a)), x1, x2, x3, x4] (.inr (.inr a) :: st) M := zU_step dX8_seen_88 (Or.inl rfl)
theorem dX8_seen_89 : decode cX8_seen 89 = .ok (.dup, 1) := by decide +kernel
theorem rX8_seen_89 {R : zP} {x0 x1 x2 x3 x4 : Option zV} {st : List zV} {M : zM} {a : Nat} : uX8_seen R 89 [x0, x1, x2, x3, x4] (.inr (.inr a) :: st) M ↔ uX8_seen R 90 [x0, x1, x2, x3, x4] (.inr (.inr a) :: .inr (.inr a) :: st) M := zU_step dX8_seen_89 (Or.inl rfl)
theorem dX8_seen_90 : decode cX8_seen 90 = .ok (.getfield 290, 3) := by decide +kernel
theorem rX8_seen_90 {R : zP} {x0 x1 x2 x3 x4 : Option zV} {st : List zV} {M : zM} {r : Nat} : uX8_seen R 90 [x0, x1, x2, x3, x4] (.inr (.inr r) :: st) M ↔ zgetx fX8 290 r M (fun v => uX8_seen R 93 [x0, x1, x2, x3, x4] (v :: st) M) := zU_step dX8_seen_90 (Or.inl rfl)
theorem dX8_seen_93 : decode cX8_seen 93 = .ok (.iconst 1, 1) := by decide +kernel
theorem rX8_seen_93 {R : zP} {x0 x1 x2 x3 x4 : Option zV} {st : List zV} {M : zM} : uX8_seen R 93 [x0, x1, x2, x3, x4] st M ↔ uX8_seen R 94 [x0, x1, x2, x3, x4] (.inl (1) :: st) M := zU_step dX8_seen_93 (Or.inl rfl)
theorem dX8_seen_94 : decode cX8_seen 94 = .ok (.iadd, 1) := by decide +kernel
theorem rX8_seen_94 {R : zP} {x0 x1 x2 x3 x4 : Option zV} {st : List zV} {M : zM} {a b : Int} : uX8_seen R 94 [x0, x1, x2, x3, x4] (.inl b :: .inl a :: st) M ↔ uX8_seen R 95 [x0, x1, x2, x3, x4] (.inl (a + b) :: st) M := zU_step dX8_seen_94 (Or.inl rfl)
theorem dX8_seen_95 : decode cX8_seen 95 = .ok (.putfield 290, 3) := by decide +kernel
theorem rX8_seen_95 {R : zP} {x0 x1 x2 x3 x4 : Option zV} {st : List zV} {M : zM} {r : Nat} {v : zV} : uX8_seen R 95 [x0, x1, x2, x3, x4] (v :: .inr (.inr r) :: st) M ↔ zputx fX8 290 r M v (fun M => uX8_seen R 98 [x0, x1, x2, x3, x4] st M) := zU_step dX8_seen_95 (Or.inl rfl)
theorem dX8_seen_98 : decode cX8_seen 98 = .ok (.aload_n 0, 1) := by decide +kernel
theorem rX8_seen_98 {R : zP} {x1 x2 x3 x4 : Option zV} {st : List zV} {M : zM} {a : Nat} : uX8_seen R 98 [some (.inr (.inr a)), x1, x2, x3, x4] st M ↔ uX8_seen R 99 [some (.inr (.inr a)), x1, x2, x3, x4] (.inr (.inr a) :: st) M := zU_step dX8_seen_98 (Or.inl rfl)
theorem dX8_seen_99 : decode cX8_seen 99 = .ok (.getfield 290, 3) := by decide +kernel
theorem rX8_seen_99 {R : zP} {x0 x1 x2 x3 x4 : Option zV} {st : List zV} {M : zM} {r : Nat} : uX8_seen R 99 [x0, x1, x2, x3, x4] (.inr (.inr r) :: st) M ↔ zgetx fX8 290 r M (fun v => uX8_seen R 102 [x0, x1, x2, x3, x4] (v :: st) M) := zU_step dX8_seen_99 (Or.inl rfl)
theorem dX8_seen_102 : decode cX8_seen 102 = .ok (.ireturn, 1) := by decide +kernel
theorem rX8_seen_102 {R : zP} {x0 x1 x2 x3 x4 : Option zV} {M : zM} {a : Int} : uX8_seen R 102 [x0, x1, x2, x3, x4] [.inl a] M ↔ R (some (.inl a)) M := Iff.trans (zU_step dX8_seen_102 (Or.inl rfl)) ⟨fun h => h.2.2, fun h => ⟨rfl, Or.inl rfl, h⟩⟩
theorem eX8_seen {R : zP} {M : zM} {a0 : Nat} {p0 : Int} {p1 : Int} {p2 : Int} {p3 : Int} : tX8_seen [.inr (.inr a0), .inl p0, .inl p1, .inl p2, .inl p3] M R ↔ uX8_seen R 0 [some (.inr (.inr a0)), some (.inl p0), some (.inl p1), some (.inl p2), some (.inl p3)] [] M := ⟨fun h => h.2, fun h => ⟨show 5 ≤ 5 by decide, h⟩⟩
def uX8_forget (R : zP) : zK := zU fX8 vX8_forget cX8_forget R
theorem dX8_forget_0 : decode cX8_forget 0 = .ok (.aload_n 0, 1) := by decide +kernel
theorem rX8_forget_0 {R : zP} {x1 : Option zV} {st : List zV} {M : zM} {a : Nat} : uX8_forget R 0 [some (.inr (.inr a)), x1] st M ↔ uX8_forget R 1 [some (.inr (.inr a)), x1] (.inr (.inr a) :: st) M := zU_step dX8_forget_0 (Or.inl rfl)
theorem dX8_forget_1 : decode cX8_forget 1 = .ok (.getfield 290, 3) := by decide +kernel
theorem rX8_forget_1 {R : zP} {x0 x1 : Option zV} {st : List zV} {M : zM} {r : Nat} : uX8_forget R 1 [x0, x1] (.inr (.inr r) :: st) M ↔ zgetx fX8 290 r M (fun v => uX8_forget R 4 [x0, x1] (v :: st) M) := zU_step dX8_forget_1 (Or.inl rfl)
theorem dX8_forget_4 : decode cX8_forget 4 = .ok (.istore_n 1, 1) := by decide +kernel
theorem rX8_forget_4 {R : zP} {x1 : Option zV} {st : List zV} {M : zM} {a : Int} {y : Nat} : uX8_forget R 4 [some (.inr (.inr y)), x1] (.inl a :: st) M ↔ uX8_forget R 5 [some (.inr (.inr y)), some (.inl a)] st M := Iff.trans (zU_step dX8_forget_4 (Or.inl rfl)) ⟨fun h => h.2, fun h => ⟨show 1 < 2 by decide, h⟩⟩
theorem rX8_forget_4z {R : zP} {x0 x1 : Option zV} {st : List zV} {M : zM} {a : Int} : uX8_forget R 4 [x0, x1] (.inl a :: st) M ↔ uX8_forget R 5 [zkeep x0, some (.inl a)] st M := Iff.trans (zU_step dX8_forget_4 (Or.inl rfl)) ⟨fun h => h.2, fun h => ⟨show 1 < 2 by decide, h⟩⟩
theorem dX8_forget_5 : decode cX8_forget 5 = .ok (.aload_n 0, 1) := by decide +kernel
theorem rX8_forget_5 {R : zP} {x1 : Option zV} {st : List zV} {M : zM} {a : Nat} : uX8_forget R 5 [some (.inr (.inr a)), x1] st M ↔ uX8_forget R 6 [some (.inr (.inr a)), x1] (.inr (.inr a) :: st) M := zU_step dX8_forget_5 (Or.inl rfl)
theorem dX8_forget_6 : decode cX8_forget 6 = .ok (.iconst 0, 1) := by decide +kernel
theorem rX8_forget_6 {R : zP} {x0 x1 : Option zV} {st : List zV} {M : zM} : uX8_forget R 6 [x0, x1] st M ↔ uX8_forget R 7 [x0, x1] (.inl (0) :: st) M := zU_step dX8_forget_6 (Or.inl rfl)
theorem dX8_forget_7 : decode cX8_forget 7 = .ok (.putfield 290, 3) := by decide +kernel
theorem rX8_forget_7 {R : zP} {x0 x1 : Option zV} {st : List zV} {M : zM} {r : Nat} {v : zV} : uX8_forget R 7 [x0, x1] (v :: .inr (.inr r) :: st) M ↔ zputx fX8 290 r M v (fun M => uX8_forget R 10 [x0, x1] st M) := zU_step dX8_forget_7 (Or.inl rfl)
theorem dX8_forget_10 : decode cX8_forget 10 = .ok (.iload_n 1, 1) := by decide +kernel
theorem rX8_forget_10 {R : zP} {x0 : Option zV} {st : List zV} {M : zM} {a : Int} : uX8_forget R 10 [x0, some (.inl a)] st M ↔ uX8_forget R 11 [x0, some (.inl a)] (.inl a :: st) M := zU_step dX8_forget_10 (Or.inl rfl)
theorem dX8_forget_11 : decode cX8_forget 11 = .ok (.ireturn, 1) := by decide +kernel
theorem rX8_forget_11 {R : zP} {x0 x1 : Option zV} {M : zM} {a : Int} : uX8_forget R 11 [x0, x1] [.inl a] M ↔ R (some (.inl a)) M := Iff.trans (zU_step dX8_forget_11 (Or.inl rfl)) ⟨fun h => h.2.2, fun h => ⟨rfl, Or.inl rfl, h⟩⟩
theorem eX8_forget {R : zP} {M : zM} {a0 : Nat} : tX8_forget [.inr (.inr a0)] M R ↔ uX8_forget R 0 [some (.inr (.inr a0)), none] [] M := ⟨fun h => h.2, fun h => ⟨show 1 ≤ 2 by decide, h⟩⟩
def uX8_isSeen (R : zP) : zK := zU fX8 vX8_isSeen cX8_isSeen R
theorem dX8_isSeen_0 : decode cX8_isSeen 0 = .ok (.aload_n 0, 1) := by decide +kernel
theorem rX8_isSeen_0 {R : zP} {x1 x2 : Option zV} {st : List zV} {M : zM} {a : Nat} : uX8_isSeen R 0 [some (.inr (.inr a)), x1, x2] st M ↔ uX8_isSeen R 1 [some (.inr (.inr a)), x1, x2] (.inr (.inr a) :: st) M := zU_step dX8_isSeen_0 (Or.inl rfl)
theorem dX8_isSeen_1 : decode cX8_isSeen 1 = .ok (.invokevirtual 202, 3) := by decide +kernel
theorem rX8_isSeen_1 {R : zP} {x0 x1 x2 : Option zV} {st : List zV} {M : zM} {a0 : zV} : uX8_isSeen R 1 [x0, x1, x2] (a0 :: st) M ↔ (st.length ≤ 4 ∧ zcn (zv 8 tX8_runs) [a0] M (fun M => uX8_isSeen R 4 [x0, x1, x2] st M)) := Iff.trans (zU_step dX8_isSeen_1 (Or.inl rfl)) ⟨fun h => ⟨h.2.1, zcn_of h.2.2⟩, fun h => ⟨rfl, h.1, zcn_to h.2⟩⟩
theorem dX8_isSeen_4 : decode cX8_isSeen 4 = .ok (.iconst 1, 1) := by decide +kernel
theorem rX8_isSeen_4 {R : zP} {x0 x1 x2 : Option zV} {st : List zV} {M : zM} : uX8_isSeen R 4 [x0, x1, x2] st M ↔ uX8_isSeen R 5 [x0, x1, x2] (.inl (1) :: st) M := zU_step dX8_isSeen_4 (Or.inl rfl)
theorem dX8_isSeen_5 : decode cX8_isSeen 5 = .ok (.istore_n 1, 1) := by decide +kernel
theorem rX8_isSeen_5 {R : zP} {x1 x2 : Option zV} {st : List zV} {M : zM} {a : Int} {y : Nat} : uX8_isSeen R 5 [some (.inr (.inr y)), x1, x2] (.inl a :: st) M ↔ uX8_isSeen R 6 [some (.inr (.inr y)), some (.inl a), x2] st M := Iff.trans (zU_step dX8_isSeen_5 (Or.inl rfl)) ⟨fun h => h.2, fun h => ⟨show 1 < 3 by decide, h⟩⟩
theorem rX8_isSeen_5z {R : zP} {x0 x1 x2 : Option zV} {st : List zV} {M : zM} {a : Int} : uX8_isSeen R 5 [x0, x1, x2] (.inl a :: st) M ↔ uX8_isSeen R 6 [zkeep x0, some (.inl a), x2] st M := Iff.trans (zU_step dX8_isSeen_5 (Or.inl rfl)) ⟨fun h => h.2, fun h => ⟨show 1 < 3 by decide, h⟩⟩
theorem dX8_isSeen_6 : decode cX8_isSeen 6 = .ok (.iconst 0, 1) := by decide +kernel
theorem rX8_isSeen_6 {R : zP} {x0 x1 x2 : Option zV} {st : List zV} {M : zM} : uX8_isSeen R 6 [x0, x1, x2] st M ↔ uX8_isSeen R 7 [x0, x1, x2] (.inl (0) :: st) M := zU_step dX8_isSeen_6 (Or.inl rfl)
theorem dX8_isSeen_7 : decode cX8_isSeen 7 = .ok (.istore_n 2, 1) := by decide +kernel
theorem rX8_isSeen_7 {R : zP} {x0 x2 : Option zV} {st : List zV} {M : zM} {a : Int} {y : Int} : uX8_isSeen R 7 [x0, some (.inl y), x2] (.inl a :: st) M ↔ uX8_isSeen R 8 [x0, some (.inl y), some (.inl a)] st M := Iff.trans (zU_step dX8_isSeen_7 (Or.inl rfl)) ⟨fun h => h.2, fun h => ⟨show 2 < 3 by decide, h⟩⟩
theorem rX8_isSeen_7z {R : zP} {x0 x1 x2 : Option zV} {st : List zV} {M : zM} {a : Int} : uX8_isSeen R 7 [x0, x1, x2] (.inl a :: st) M ↔ uX8_isSeen R 8 [x0, zkeep x1, some (.inl a)] st M := Iff.trans (zU_step dX8_isSeen_7 (Or.inl rfl)) ⟨fun h => h.2, fun h => ⟨show 2 < 3 by decide, h⟩⟩
theorem dX8_isSeen_8 : decode cX8_isSeen 8 = .ok (.iload_n 2, 1) := by decide +kernel
theorem rX8_isSeen_8 {R : zP} {x0 x1 : Option zV} {st : List zV} {M : zM} {a : Int} : uX8_isSeen R 8 [x0, x1, some (.inl a)] st M ↔ uX8_isSeen R 9 [x0, x1, some (.inl a)] (.inl a :: st) M := zU_step dX8_isSeen_8 (Or.inl rfl)
theorem dX8_isSeen_9 : decode cX8_isSeen 9 = .ok (.aload_n 0, 1) := by decide +kernel
theorem rX8_isSeen_9 {R : zP} {x1 x2 : Option zV} {st : List zV} {M : zM} {a : Nat} : uX8_isSeen R 9 [some (.inr (.inr a)), x1, x2] st M ↔ uX8_isSeen R 10 [some (.inr (.inr a)), x1, x2] (.inr (.inr a) :: st) M := zU_step dX8_isSeen_9 (Or.inl rfl)
theorem dX8_isSeen_10 : decode cX8_isSeen 10 = .ok (.getfield 290, 3) := by decide +kernel
theorem rX8_isSeen_10 {R : zP} {x0 x1 x2 : Option zV} {st : List zV} {M : zM} {r : Nat} : uX8_isSeen R 10 [x0, x1, x2] (.inr (.inr r) :: st) M ↔ zgetx fX8 290 r M (fun v => uX8_isSeen R 13 [x0, x1, x2] (v :: st) M) := zU_step dX8_isSeen_10 (Or.inl rfl)
theorem dX8_isSeen_13 : decode cX8_isSeen 13 = .ok (.if_icmp .ge 71, 3) := by decide +kernel
theorem rX8_isSeen_13 {R : zP} {x0 x1 x2 : Option zV} {st : List zV} {M : zM} {a b : Int} : uX8_isSeen R 13 [x0, x1, x2] (.inl b :: .inl a :: st) M ↔ ((zIR a ∧ zIR b) ∧ if b ≤ a then uX8_isSeen R 84 [x0, x1, x2] st M else uX8_isSeen R 16 [x0, x1, x2] st M) := Iff.trans (zU_step dX8_isSeen_13 (Or.inl rfl)) ⟨fun h => ⟨⟨h.1.1, h.1.2.1⟩, (zite (c := b ≤ a)).mpr h.2⟩, fun h => ⟨⟨h.1.1, h.1.2, by decide⟩, (zite (c := b ≤ a)).mp h.2⟩⟩
theorem dX8_isSeen_16 : decode cX8_isSeen 16 = .ok (.iload_n 1, 1) := by decide +kernel
theorem rX8_isSeen_16 {R : zP} {x0 x2 : Option zV} {st : List zV} {M : zM} {a : Int} : uX8_isSeen R 16 [x0, some (.inl a), x2] st M ↔ uX8_isSeen R 17 [x0, some (.inl a), x2] (.inl a :: st) M := zU_step dX8_isSeen_16 (Or.inl rfl)
theorem dX8_isSeen_17 : decode cX8_isSeen 17 = .ok (.ifCond .eq 67, 3) := by decide +kernel
theorem rX8_isSeen_17 {R : zP} {x0 x1 x2 : Option zV} {st : List zV} {M : zM} {a : Int} : uX8_isSeen R 17 [x0, x1, x2] (.inl a :: st) M ↔ (zIR a ∧ if a = 0 then uX8_isSeen R 84 [x0, x1, x2] st M else uX8_isSeen R 20 [x0, x1, x2] st M) := Iff.trans (zU_step dX8_isSeen_17 (Or.inl rfl)) ⟨fun h => ⟨h.1.1, (zite (c := a = 0)).mpr h.2⟩, fun h => ⟨⟨h.1, by decide⟩, (zite (c := a = 0)).mp h.2⟩⟩
theorem dX8_isSeen_20 : decode cX8_isSeen 20 = .ok (.aload_n 0, 1) := by decide +kernel
theorem rX8_isSeen_20 {R : zP} {x1 x2 : Option zV} {st : List zV} {M : zM} {a : Nat} : uX8_isSeen R 20 [some (.inr (.inr a)), x1, x2] st M ↔ uX8_isSeen R 21 [some (.inr (.inr a)), x1, x2] (.inr (.inr a) :: st) M := zU_step dX8_isSeen_20 (Or.inl rfl)
theorem dX8_isSeen_21 : decode cX8_isSeen 21 = .ok (.getfield 82, 3) := by decide +kernel
theorem rX8_isSeen_21 {R : zP} {x0 x1 x2 : Option zV} {st : List zV} {M : zM} {r : Nat} : uX8_isSeen R 21 [x0, x1, x2] (.inr (.inr r) :: st) M ↔ zgetx fX8 82 r M (fun v => uX8_isSeen R 24 [x0, x1, x2] (v :: st) M) := zU_step dX8_isSeen_21 (Or.inl rfl)
theorem dX8_isSeen_24 : decode cX8_isSeen 24 = .ok (.iload_n 2, 1) := by decide +kernel
theorem rX8_isSeen_24 {R : zP} {x0 x1 : Option zV} {st : List zV} {M : zM} {a : Int} : uX8_isSeen R 24 [x0, x1, some (.inl a)] st M ↔ uX8_isSeen R 25 [x0, x1, some (.inl a)] (.inl a :: st) M := zU_step dX8_isSeen_24 (Or.inl rfl)
theorem dX8_isSeen_25 : decode cX8_isSeen 25 = .ok (.iaload, 1) := by decide +kernel
theorem rX8_isSeen_25 {R : zP} {x0 x1 x2 : Option zV} {st : List zV} {M : zM} {i : Int} {r : Nat} : uX8_isSeen R 25 [x0, x1, x2] (.inl i :: .inr (.inr r) :: st) M ↔ zread fX8 0 r M i (fun v => uX8_isSeen R 26 [x0, x1, x2] (.inl v :: st) M) := zU_step dX8_isSeen_25 (Or.inl rfl)
theorem dX8_isSeen_26 : decode cX8_isSeen 26 = .ok (.aload_n 0, 1) := by decide +kernel
theorem rX8_isSeen_26 {R : zP} {x1 x2 : Option zV} {st : List zV} {M : zM} {a : Nat} : uX8_isSeen R 26 [some (.inr (.inr a)), x1, x2] st M ↔ uX8_isSeen R 27 [some (.inr (.inr a)), x1, x2] (.inr (.inr a) :: st) M := zU_step dX8_isSeen_26 (Or.inl rfl)
theorem dX8_isSeen_27 : decode cX8_isSeen 27 = .ok (.getfield 127, 3) := by decide +kernel
theorem rX8_isSeen_27 {R : zP} {x0 x1 x2 : Option zV} {st : List zV} {M : zM} {r : Nat} : uX8_isSeen R 27 [x0, x1, x2] (.inr (.inr r) :: st) M ↔ zgetx fX8 127 r M (fun v => uX8_isSeen R 30 [x0, x1, x2] (v :: st) M) := zU_step dX8_isSeen_27 (Or.inl rfl)
theorem dX8_isSeen_30 : decode cX8_isSeen 30 = .ok (.if_icmp .ge 46, 3) := by decide +kernel
theorem rX8_isSeen_30 {R : zP} {x0 x1 x2 : Option zV} {st : List zV} {M : zM} {a b : Int} : uX8_isSeen R 30 [x0, x1, x2] (.inl b :: .inl a :: st) M ↔ ((zIR a ∧ zIR b) ∧ if b ≤ a then uX8_isSeen R 76 [x0, x1, x2] st M else uX8_isSeen R 33 [x0, x1, x2] st M) := Iff.trans (zU_step dX8_isSeen_30 (Or.inl rfl)) ⟨fun h => ⟨⟨h.1.1, h.1.2.1⟩, (zite (c := b ≤ a)).mpr h.2⟩, fun h => ⟨⟨h.1.1, h.1.2, by decide⟩, (zite (c := b ≤ a)).mp h.2⟩⟩
theorem dX8_isSeen_33 : decode cX8_isSeen 33 = .ok (.aload_n 0, 1) := by decide +kernel
theorem rX8_isSeen_33 {R : zP} {x1 x2 : Option zV} {st : List zV} {M : zM} {a : Nat} : uX8_isSeen R 33 [some (.inr (.inr a)), x1, x2] st M ↔ uX8_isSeen R 34 [some (.inr (.inr a)), x1, x2] (.inr (.inr a) :: st) M := zU_step dX8_isSeen_33 (Or.inl rfl)
theorem dX8_isSeen_34 : decode cX8_isSeen 34 = .ok (.getfield 61, 3) := by decide +kernel
theorem rX8_isSeen_34 {R : zP} {x0 x1 x2 : Option zV} {st : List zV} {M : zM} {r : Nat} : uX8_isSeen R 34 [x0, x1, x2] (.inr (.inr r) :: st) M ↔ zgetx fX8 61 r M (fun v => uX8_isSeen R 37 [x0, x1, x2] (v :: st) M) := zU_step dX8_isSeen_34 (Or.inl rfl)
theorem dX8_isSeen_37 : decode cX8_isSeen 37 = .ok (.bipush 32, 2) := by decide +kernel
theorem rX8_isSeen_37 {R : zP} {x0 x1 x2 : Option zV} {st : List zV} {M : zM} : uX8_isSeen R 37 [x0, x1, x2] st M ↔ uX8_isSeen R 39 [x0, x1, x2] (.inl (32) :: st) M := Iff.trans (zU_step dX8_isSeen_37 (Or.inl rfl)) ⟨fun h => h.2, fun h => ⟨by decide, h⟩⟩
theorem dX8_isSeen_39 : decode cX8_isSeen 39 = .ok (.aload_n 0, 1) := by decide +kernel
theorem rX8_isSeen_39 {R : zP} {x1 x2 : Option zV} {st : List zV} {M : zM} {a : Nat} : uX8_isSeen R 39 [some (.inr (.inr a)), x1, x2] st M ↔ uX8_isSeen R 40 [some (.inr (.inr a)), x1, x2] (.inr (.inr a) :: st) M := zU_step dX8_isSeen_39 (Or.inl rfl)
theorem dX8_isSeen_40 : decode cX8_isSeen 40 = .ok (.getfield 79, 3) := by decide +kernel
theorem rX8_isSeen_40 {R : zP} {x0 x1 x2 : Option zV} {st : List zV} {M : zM} {r : Nat} : uX8_isSeen R 40 [x0, x1, x2] (.inr (.inr r) :: st) M ↔ zgetx fX8 79 r M (fun v => uX8_isSeen R 43 [x0, x1, x2] (v :: st) M) := zU_step dX8_isSeen_40 (Or.inl rfl)
theorem dX8_isSeen_43 : decode cX8_isSeen 43 = .ok (.iload_n 2, 1) := by decide +kernel
theorem rX8_isSeen_43 {R : zP} {x0 x1 : Option zV} {st : List zV} {M : zM} {a : Int} : uX8_isSeen R 43 [x0, x1, some (.inl a)] st M ↔ uX8_isSeen R 44 [x0, x1, some (.inl a)] (.inl a :: st) M := zU_step dX8_isSeen_43 (Or.inl rfl)
theorem dX8_isSeen_44 : decode cX8_isSeen 44 = .ok (.iaload, 1) := by decide +kernel
theorem rX8_isSeen_44 {R : zP} {x0 x1 x2 : Option zV} {st : List zV} {M : zM} {i : Int} {r : Nat} : uX8_isSeen R 44 [x0, x1, x2] (.inl i :: .inr (.inr r) :: st) M ↔ zread fX8 0 r M i (fun v => uX8_isSeen R 45 [x0, x1, x2] (.inl v :: st) M) := zU_step dX8_isSeen_44 (Or.inl rfl)
theorem dX8_isSeen_45 : decode cX8_isSeen 45 = .ok (.imul, 1) := by decide +kernel
theorem rX8_isSeen_45 {R : zP} {x0 x1 x2 : Option zV} {st : List zV} {M : zM} {a b : Int} : uX8_isSeen R 45 [x0, x1, x2] (.inl b :: .inl a :: st) M ↔ uX8_isSeen R 46 [x0, x1, x2] (.inl (a * b) :: st) M := zU_step dX8_isSeen_45 (Or.inl rfl)
theorem dX8_isSeen_46 : decode cX8_isSeen 46 = .ok (.iconst 4, 1) := by decide +kernel
theorem rX8_isSeen_46 {R : zP} {x0 x1 x2 : Option zV} {st : List zV} {M : zM} : uX8_isSeen R 46 [x0, x1, x2] st M ↔ uX8_isSeen R 47 [x0, x1, x2] (.inl (4) :: st) M := zU_step dX8_isSeen_46 (Or.inl rfl)
theorem dX8_isSeen_47 : decode cX8_isSeen 47 = .ok (.aload_n 0, 1) := by decide +kernel
theorem rX8_isSeen_47 {R : zP} {x1 x2 : Option zV} {st : List zV} {M : zM} {a : Nat} : uX8_isSeen R 47 [some (.inr (.inr a)), x1, x2] st M ↔ uX8_isSeen R 48 [some (.inr (.inr a)), x1, x2] (.inr (.inr a) :: st) M := zU_step dX8_isSeen_47 (Or.inl rfl)
theorem dX8_isSeen_48 : decode cX8_isSeen 48 = .ok (.getfield 82, 3) := by decide +kernel
theorem rX8_isSeen_48 {R : zP} {x0 x1 x2 : Option zV} {st : List zV} {M : zM} {r : Nat} : uX8_isSeen R 48 [x0, x1, x2] (.inr (.inr r) :: st) M ↔ zgetx fX8 82 r M (fun v => uX8_isSeen R 51 [x0, x1, x2] (v :: st) M) := zU_step dX8_isSeen_48 (Or.inl rfl)
theorem dX8_isSeen_51 : decode cX8_isSeen 51 = .ok (.iload_n 2, 1) := by decide +kernel
theorem rX8_isSeen_51 {R : zP} {x0 x1 : Option zV} {st : List zV} {M : zM} {a : Int} : uX8_isSeen R 51 [x0, x1, some (.inl a)] st M ↔ uX8_isSeen R 52 [x0, x1, some (.inl a)] (.inl a :: st) M := zU_step dX8_isSeen_51 (Or.inl rfl)
theorem dX8_isSeen_52 : decode cX8_isSeen 52 = .ok (.iaload, 1) := by decide +kernel
theorem rX8_isSeen_52 {R : zP} {x0 x1 x2 : Option zV} {st : List zV} {M : zM} {i : Int} {r : Nat} : uX8_isSeen R 52 [x0, x1, x2] (.inl i :: .inr (.inr r) :: st) M ↔ zread fX8 0 r M i (fun v => uX8_isSeen R 53 [x0, x1, x2] (.inl v :: st) M) := zU_step dX8_isSeen_52 (Or.inl rfl)
theorem dX8_isSeen_53 : decode cX8_isSeen 53 = .ok (.imul, 1) := by decide +kernel
theorem rX8_isSeen_53 {R : zP} {x0 x1 x2 : Option zV} {st : List zV} {M : zM} {a b : Int} : uX8_isSeen R 53 [x0, x1, x2] (.inl b :: .inl a :: st) M ↔ uX8_isSeen R 54 [x0, x1, x2] (.inl (a * b) :: st) M := zU_step dX8_isSeen_53 (Or.inl rfl)
theorem dX8_isSeen_54 : decode cX8_isSeen 54 = .ok (.iadd, 1) := by decide +kernel
theorem rX8_isSeen_54 {R : zP} {x0 x1 x2 : Option zV} {st : List zV} {M : zM} {a b : Int} : uX8_isSeen R 54 [x0, x1, x2] (.inl b :: .inl a :: st) M ↔ uX8_isSeen R 55 [x0, x1, x2] (.inl (a + b) :: st) M := zU_step dX8_isSeen_54 (Or.inl rfl)
theorem dX8_isSeen_55 : decode cX8_isSeen 55 = .ok (.aload_n 0, 1) := by decide +kernel
theorem rX8_isSeen_55 {R : zP} {x1 x2 : Option zV} {st : List zV} {M : zM} {a : Nat} : uX8_isSeen R 55 [some (.inr (.inr a)), x1, x2] st M ↔ uX8_isSeen R 56 [some (.inr (.inr a)), x1, x2] (.inr (.inr a) :: st) M := zU_step dX8_isSeen_55 (Or.inl rfl)
theorem dX8_isSeen_56 : decode cX8_isSeen 56 = .ok (.getfield 85, 3) := by decide +kernel
theorem rX8_isSeen_56 {R : zP} {x0 x1 x2 : Option zV} {st : List zV} {M : zM} {r : Nat} : uX8_isSeen R 56 [x0, x1, x2] (.inr (.inr r) :: st) M ↔ zgetx fX8 85 r M (fun v => uX8_isSeen R 59 [x0, x1, x2] (v :: st) M) := zU_step dX8_isSeen_56 (Or.inl rfl)
theorem dX8_isSeen_59 : decode cX8_isSeen 59 = .ok (.iload_n 2, 1) := by decide +kernel
theorem rX8_isSeen_59 {R : zP} {x0 x1 : Option zV} {st : List zV} {M : zM} {a : Int} : uX8_isSeen R 59 [x0, x1, some (.inl a)] st M ↔ uX8_isSeen R 60 [x0, x1, some (.inl a)] (.inl a :: st) M := zU_step dX8_isSeen_59 (Or.inl rfl)
theorem dX8_isSeen_60 : decode cX8_isSeen 60 = .ok (.iaload, 1) := by decide +kernel
theorem rX8_isSeen_60 {R : zP} {x0 x1 x2 : Option zV} {st : List zV} {M : zM} {i : Int} {r : Nat} : uX8_isSeen R 60 [x0, x1, x2] (.inl i :: .inr (.inr r) :: st) M ↔ zread fX8 0 r M i (fun v => uX8_isSeen R 61 [x0, x1, x2] (.inl v :: st) M) := zU_step dX8_isSeen_60 (Or.inl rfl)
theorem dX8_isSeen_61 : decode cX8_isSeen 61 = .ok (.iadd, 1) := by decide +kernel
theorem rX8_isSeen_61 {R : zP} {x0 x1 x2 : Option zV} {st : List zV} {M : zM} {a b : Int} : uX8_isSeen R 61 [x0, x1, x2] (.inl b :: .inl a :: st) M ↔ uX8_isSeen R 62 [x0, x1, x2] (.inl (a + b) :: st) M := zU_step dX8_isSeen_61 (Or.inl rfl)
theorem dX8_isSeen_62 : decode cX8_isSeen 62 = .ok (.iaload, 1) := by decide +kernel
theorem rX8_isSeen_62 {R : zP} {x0 x1 x2 : Option zV} {st : List zV} {M : zM} {i : Int} {r : Nat} : uX8_isSeen R 62 [x0, x1, x2] (.inl i :: .inr (.inr r) :: st) M ↔ zread fX8 0 r M i (fun v => uX8_isSeen R 63 [x0, x1, x2] (.inl v :: st) M) := zU_step dX8_isSeen_62 (Or.inl rfl)
theorem dX8_isSeen_63 : decode cX8_isSeen 63 = .ok (.aload_n 0, 1) := by decide +kernel
theorem rX8_isSeen_63 {R : zP} {x1 x2 : Option zV} {st : List zV} {M : zM} {a : Nat} : uX8_isSeen R 63 [some (.inr (.inr a)), x1, x2] st M ↔ uX8_isSeen R 64 [some (.inr (.inr a)), x1, x2] (.inr (.inr a) :: st) M := zU_step dX8_isSeen_63 (Or.inl rfl)
theorem dX8_isSeen_64 : decode cX8_isSeen 64 = .ok (.getfield 88, 3) := by decide +kernel
theorem rX8_isSeen_64 {R : zP} {x0 x1 x2 : Option zV} {st : List zV} {M : zM} {r : Nat} : uX8_isSeen R 64 [x0, x1, x2] (.inr (.inr r) :: st) M ↔ zgetx fX8 88 r M (fun v => uX8_isSeen R 67 [x0, x1, x2] (v :: st) M) := zU_step dX8_isSeen_64 (Or.inl rfl)
theorem dX8_isSeen_67 : decode cX8_isSeen 67 = .ok (.iload_n 2, 1) := by decide +kernel
theorem rX8_isSeen_67 {R : zP} {x0 x1 : Option zV} {st : List zV} {M : zM} {a : Int} : uX8_isSeen R 67 [x0, x1, some (.inl a)] st M ↔ uX8_isSeen R 68 [x0, x1, some (.inl a)] (.inl a :: st) M := zU_step dX8_isSeen_67 (Or.inl rfl)
theorem dX8_isSeen_68 : decode cX8_isSeen 68 = .ok (.iaload, 1) := by decide +kernel
theorem rX8_isSeen_68 {R : zP} {x0 x1 x2 : Option zV} {st : List zV} {M : zM} {i : Int} {r : Nat} : uX8_isSeen R 68 [x0, x1, x2] (.inl i :: .inr (.inr r) :: st) M ↔ zread fX8 0 r M i (fun v => uX8_isSeen R 69 [x0, x1, x2] (.inl v :: st) M) := zU_step dX8_isSeen_68 (Or.inl rfl)
theorem dX8_isSeen_69 : decode cX8_isSeen 69 = .ok (.if_icmp .ne 7, 3) := by decide +kernel
theorem rX8_isSeen_69 {R : zP} {x0 x1 x2 : Option zV} {st : List zV} {M : zM} {a b : Int} : uX8_isSeen R 69 [x0, x1, x2] (.inl b :: .inl a :: st) M ↔ ((zIR a ∧ zIR b) ∧ if a ≠ b then uX8_isSeen R 76 [x0, x1, x2] st M else uX8_isSeen R 72 [x0, x1, x2] st M) := Iff.trans (zU_step dX8_isSeen_69 (Or.inl rfl)) ⟨fun h => ⟨⟨h.1.1, h.1.2.1⟩, (zite (c := a ≠ b)).mpr h.2⟩, fun h => ⟨⟨h.1.1, h.1.2, by decide⟩, (zite (c := a ≠ b)).mp h.2⟩⟩
theorem dX8_isSeen_72 : decode cX8_isSeen 72 = .ok (.iconst 1, 1) := by decide +kernel
theorem rX8_isSeen_72 {R : zP} {x0 x1 x2 : Option zV} {st : List zV} {M : zM} : uX8_isSeen R 72 [x0, x1, x2] st M ↔ uX8_isSeen R 73 [x0, x1, x2] (.inl (1) :: st) M := zU_step dX8_isSeen_72 (Or.inl rfl)
theorem dX8_isSeen_73 : decode cX8_isSeen 73 = .ok (.goto 4, 3) := by decide +kernel
theorem rX8_isSeen_73 {R : zP} {x0 x1 x2 : Option zV} {st : List zV} {M : zM} : uX8_isSeen R 73 [x0, x1, x2] st M ↔ uX8_isSeen R 77 [x0, x1, x2] st M := Iff.trans (zU_step dX8_isSeen_73 (Or.inl rfl)) ⟨fun h => h.2, fun h => ⟨by decide, h⟩⟩
theorem dX8_isSeen_76 : decode cX8_isSeen 76 = .ok (.iconst 0, 1) := by decide +kernel
theorem rX8_isSeen_76 {R : zP} {x0 x1 x2 : Option zV} {st : List zV} {M : zM} : uX8_isSeen R 76 [x0, x1, x2] st M ↔ uX8_isSeen R 77 [x0, x1, x2] (.inl (0) :: st) M := zU_step dX8_isSeen_76 (Or.inl rfl)
theorem dX8_isSeen_77 : decode cX8_isSeen 77 = .ok (.istore_n 1, 1) := by decide +kernel
theorem rX8_isSeen_77 {R : zP} {x1 x2 : Option zV} {st : List zV} {M : zM} {a : Int} {y : Nat} : uX8_isSeen R 77 [some (.inr (.inr y)), x1, x2] (.inl a :: st) M ↔ uX8_isSeen R 78 [some (.inr (.inr y)), some (.inl a), x2] st M := Iff.trans (zU_step dX8_isSeen_77 (Or.inl rfl)) ⟨fun h => h.2, fun h => ⟨show 1 < 3 by decide, h⟩⟩
theorem rX8_isSeen_77z {R : zP} {x0 x1 x2 : Option zV} {st : List zV} {M : zM} {a : Int} : uX8_isSeen R 77 [x0, x1, x2] (.inl a :: st) M ↔ uX8_isSeen R 78 [zkeep x0, some (.inl a), x2] st M := Iff.trans (zU_step dX8_isSeen_77 (Or.inl rfl)) ⟨fun h => h.2, fun h => ⟨show 1 < 3 by decide, h⟩⟩
theorem dX8_isSeen_78 : decode cX8_isSeen 78 = .ok (.iinc 2 1, 3) := by decide +kernel
theorem rX8_isSeen_78 {R : zP} {x0 : Option zV} {st : List zV} {M : zM} {a : Int} {y : Int} : uX8_isSeen R 78 [x0, some (.inl y), some (.inl a)] st M ↔ uX8_isSeen R 81 [x0, some (.inl y), some (.inl (a + (1)))] st M := Iff.trans (zU_step dX8_isSeen_78 (Or.inl rfl)) ⟨fun h => h.2, fun h => ⟨show 2 < 3 by decide, h⟩⟩
theorem rX8_isSeen_78z {R : zP} {x0 x1 : Option zV} {st : List zV} {M : zM} {a : Int} : uX8_isSeen R 78 [x0, x1, some (.inl a)] st M ↔ uX8_isSeen R 81 [x0, zkeep x1, some (.inl (a + (1)))] st M := Iff.trans (zU_step dX8_isSeen_78 (Or.inl rfl)) ⟨fun h => h.2, fun h => ⟨show 2 < 3 by decide, h⟩⟩
theorem dX8_isSeen_81 : decode cX8_isSeen 81 = .ok (.goto (-73), 3) := by decide +kernel
theorem rX8_isSeen_81 {R : zP} {x0 x1 x2 : Option zV} {st : List zV} {M : zM} : uX8_isSeen R 81 [x0, x1, x2] st M ↔ uX8_isSeen R 8 [x0, x1, x2] st M := Iff.trans (zU_step dX8_isSeen_81 (Or.inl rfl)) ⟨fun h => h.2, fun h => ⟨by decide, h⟩⟩
theorem dX8_isSeen_84 : decode cX8_isSeen 84 = .ok (.iload_n 1, 1) := by decide +kernel
theorem rX8_isSeen_84 {R : zP} {x0 x2 : Option zV} {st : List zV} {M : zM} {a : Int} : uX8_isSeen R 84 [x0, some (.inl a), x2] st M ↔ uX8_isSeen R 85 [x0, some (.inl a), x2] (.inl a :: st) M := zU_step dX8_isSeen_84 (Or.inl rfl)
theorem dX8_isSeen_85 : decode cX8_isSeen 85 = .ok (.ireturn, 1) := by decide +kernel
theorem rX8_isSeen_85 {R : zP} {x0 x1 x2 : Option zV} {M : zM} {a : Int} : uX8_isSeen R 85 [x0, x1, x2] [.inl a] M ↔ ((a = 0 ∨ a = 1) ∧ R (some (.inl a)) M) := Iff.trans (zU_step dX8_isSeen_85 (Or.inl rfl)) ⟨fun h => ⟨zret2 rfl h.2.1, h.2.2⟩, fun h => ⟨rfl, Or.inr (Or.inl ⟨rfl, h.1⟩), h.2⟩⟩
theorem eX8_isSeen {R : zP} {M : zM} {a0 : Nat} : tX8_isSeen [.inr (.inr a0)] M R ↔ uX8_isSeen R 0 [some (.inr (.inr a0)), none, none] [] M := ⟨fun h => h.2, fun h => ⟨show 1 ≤ 3 by decide, h⟩⟩
def uX8_neverNow (R : zP) : zK := zU fX8 vX8_neverNow cX8_neverNow R
theorem dX8_neverNow_0 : decode cX8_neverNow 0 = .ok (.aload_n 0, 1) := by decide +kernel
theorem rX8_neverNow_0 {R : zP} {x1 x2 : Option zV} {st : List zV} {M : zM} {a : Nat} : uX8_neverNow R 0 [some (.inr (.inr a)), x1, x2] st M ↔ uX8_neverNow R 1 [some (.inr (.inr a)), x1, x2] (.inr (.inr a) :: st) M := zU_step dX8_neverNow_0 (Or.inl rfl)
theorem dX8_neverNow_1 : decode cX8_neverNow 1 = .ok (.invokevirtual 199, 3) := by decide +kernel
theorem rX8_neverNow_1 {R : zP} {x0 x1 x2 : Option zV} {st : List zV} {M : zM} {a0 : zV} : uX8_neverNow R 1 [x0, x1, x2] (a0 :: st) M ↔ (st.length ≤ 4 ∧ zcn (zv 8 tX8_asTold) [a0] M (fun M => uX8_neverNow R 4 [x0, x1, x2] st M)) := Iff.trans (zU_step dX8_neverNow_1 (Or.inl rfl)) ⟨fun h => ⟨h.2.1, zcn_of h.2.2⟩, fun h => ⟨rfl, h.1, zcn_to h.2⟩⟩
theorem dX8_neverNow_4 : decode cX8_neverNow 4 = .ok (.iconst 0, 1) := by decide +kernel
theorem rX8_neverNow_4 {R : zP} {x0 x1 x2 : Option zV} {st : List zV} {M : zM} : uX8_neverNow R 4 [x0, x1, x2] st M ↔ uX8_neverNow R 5 [x0, x1, x2] (.inl (0) :: st) M := zU_step dX8_neverNow_4 (Or.inl rfl)
theorem dX8_neverNow_5 : decode cX8_neverNow 5 = .ok (.istore_n 1, 1) := by decide +kernel
theorem rX8_neverNow_5 {R : zP} {x1 x2 : Option zV} {st : List zV} {M : zM} {a : Int} {y : Nat} : uX8_neverNow R 5 [some (.inr (.inr y)), x1, x2] (.inl a :: st) M ↔ uX8_neverNow R 6 [some (.inr (.inr y)), some (.inl a), x2] st M := Iff.trans (zU_step dX8_neverNow_5 (Or.inl rfl)) ⟨fun h => h.2, fun h => ⟨show 1 < 3 by decide, h⟩⟩
theorem rX8_neverNow_5z {R : zP} {x0 x1 x2 : Option zV} {st : List zV} {M : zM} {a : Int} : uX8_neverNow R 5 [x0, x1, x2] (.inl a :: st) M ↔ uX8_neverNow R 6 [zkeep x0, some (.inl a), x2] st M := Iff.trans (zU_step dX8_neverNow_5 (Or.inl rfl)) ⟨fun h => h.2, fun h => ⟨show 1 < 3 by decide, h⟩⟩
theorem dX8_neverNow_6 : decode cX8_neverNow 6 = .ok (.iconst 0, 1) := by decide +kernel
theorem rX8_neverNow_6 {R : zP} {x0 x1 x2 : Option zV} {st : List zV} {M : zM} : uX8_neverNow R 6 [x0, x1, x2] st M ↔ uX8_neverNow R 7 [x0, x1, x2] (.inl (0) :: st) M := zU_step dX8_neverNow_6 (Or.inl rfl)
theorem dX8_neverNow_7 : decode cX8_neverNow 7 = .ok (.istore_n 2, 1) := by decide +kernel
theorem rX8_neverNow_7 {R : zP} {x0 x2 : Option zV} {st : List zV} {M : zM} {a : Int} {y : Int} : uX8_neverNow R 7 [x0, some (.inl y), x2] (.inl a :: st) M ↔ uX8_neverNow R 8 [x0, some (.inl y), some (.inl a)] st M := Iff.trans (zU_step dX8_neverNow_7 (Or.inl rfl)) ⟨fun h => h.2, fun h => ⟨show 2 < 3 by decide, h⟩⟩
theorem rX8_neverNow_7z {R : zP} {x0 x1 x2 : Option zV} {st : List zV} {M : zM} {a : Int} : uX8_neverNow R 7 [x0, x1, x2] (.inl a :: st) M ↔ uX8_neverNow R 8 [x0, zkeep x1, some (.inl a)] st M := Iff.trans (zU_step dX8_neverNow_7 (Or.inl rfl)) ⟨fun h => h.2, fun h => ⟨show 2 < 3 by decide, h⟩⟩
theorem dX8_neverNow_8 : decode cX8_neverNow 8 = .ok (.iload_n 2, 1) := by decide +kernel
theorem rX8_neverNow_8 {R : zP} {x0 x1 : Option zV} {st : List zV} {M : zM} {a : Int} : uX8_neverNow R 8 [x0, x1, some (.inl a)] st M ↔ uX8_neverNow R 9 [x0, x1, some (.inl a)] (.inl a :: st) M := zU_step dX8_neverNow_8 (Or.inl rfl)
theorem dX8_neverNow_9 : decode cX8_neverNow 9 = .ok (.aload_n 0, 1) := by decide +kernel
theorem rX8_neverNow_9 {R : zP} {x1 x2 : Option zV} {st : List zV} {M : zM} {a : Nat} : uX8_neverNow R 9 [some (.inr (.inr a)), x1, x2] st M ↔ uX8_neverNow R 10 [some (.inr (.inr a)), x1, x2] (.inr (.inr a) :: st) M := zU_step dX8_neverNow_9 (Or.inl rfl)
theorem dX8_neverNow_10 : decode cX8_neverNow 10 = .ok (.getfield 166, 3) := by decide +kernel
theorem rX8_neverNow_10 {R : zP} {x0 x1 x2 : Option zV} {st : List zV} {M : zM} {r : Nat} : uX8_neverNow R 10 [x0, x1, x2] (.inr (.inr r) :: st) M ↔ zgetx fX8 166 r M (fun v => uX8_neverNow R 13 [x0, x1, x2] (v :: st) M) := zU_step dX8_neverNow_10 (Or.inl rfl)
theorem dX8_neverNow_13 : decode cX8_neverNow 13 = .ok (.if_icmp .ge 33, 3) := by decide +kernel
theorem rX8_neverNow_13 {R : zP} {x0 x1 x2 : Option zV} {st : List zV} {M : zM} {a b : Int} : uX8_neverNow R 13 [x0, x1, x2] (.inl b :: .inl a :: st) M ↔ ((zIR a ∧ zIR b) ∧ if b ≤ a then uX8_neverNow R 46 [x0, x1, x2] st M else uX8_neverNow R 16 [x0, x1, x2] st M) := Iff.trans (zU_step dX8_neverNow_13 (Or.inl rfl)) ⟨fun h => ⟨⟨h.1.1, h.1.2.1⟩, (zite (c := b ≤ a)).mpr h.2⟩, fun h => ⟨⟨h.1.1, h.1.2, by decide⟩, (zite (c := b ≤ a)).mp h.2⟩⟩
theorem dX8_neverNow_16 : decode cX8_neverNow 16 = .ok (.aload_n 0, 1) := by decide +kernel
theorem rX8_neverNow_16 {R : zP} {x1 x2 : Option zV} {st : List zV} {M : zM} {a : Nat} : uX8_neverNow R 16 [some (.inr (.inr a)), x1, x2] st M ↔ uX8_neverNow R 17 [some (.inr (.inr a)), x1, x2] (.inr (.inr a) :: st) M := zU_step dX8_neverNow_16 (Or.inl rfl)
theorem dX8_neverNow_17 : decode cX8_neverNow 17 = .ok (.iconst 1, 1) := by decide +kernel
theorem rX8_neverNow_17 {R : zP} {x0 x1 x2 : Option zV} {st : List zV} {M : zM} : uX8_neverNow R 17 [x0, x1, x2] st M ↔ uX8_neverNow R 18 [x0, x1, x2] (.inl (1) :: st) M := zU_step dX8_neverNow_17 (Or.inl rfl)
theorem dX8_neverNow_18 : decode cX8_neverNow 18 = .ok (.iload_n 2, 1) := by decide +kernel
theorem rX8_neverNow_18 {R : zP} {x0 x1 : Option zV} {st : List zV} {M : zM} {a : Int} : uX8_neverNow R 18 [x0, x1, some (.inl a)] st M ↔ uX8_neverNow R 19 [x0, x1, some (.inl a)] (.inl a :: st) M := zU_step dX8_neverNow_18 (Or.inl rfl)
theorem dX8_neverNow_19 : decode cX8_neverNow 19 = .ok (.ishl, 1) := by decide +kernel
theorem rX8_neverNow_19 {R : zP} {x0 x1 x2 : Option zV} {st : List zV} {M : zM} {a b : Int} : uX8_neverNow R 19 [x0, x1, x2] (.inl b :: .inl a :: st) M ↔ uX8_neverNow R 20 [x0, x1, x2] (.inl (zshl a b) :: st) M := zU_step dX8_neverNow_19 (Or.inl rfl)
theorem dX8_neverNow_20 : decode cX8_neverNow 20 = .ok (.putfield 181, 3) := by decide +kernel
theorem rX8_neverNow_20 {R : zP} {x0 x1 x2 : Option zV} {st : List zV} {M : zM} {r : Nat} {v : zV} : uX8_neverNow R 20 [x0, x1, x2] (v :: .inr (.inr r) :: st) M ↔ zputx fX8 181 r M v (fun M => uX8_neverNow R 23 [x0, x1, x2] st M) := zU_step dX8_neverNow_20 (Or.inl rfl)
theorem dX8_neverNow_23 : decode cX8_neverNow 23 = .ok (.iload_n 1, 1) := by decide +kernel
theorem rX8_neverNow_23 {R : zP} {x0 x2 : Option zV} {st : List zV} {M : zM} {a : Int} : uX8_neverNow R 23 [x0, some (.inl a), x2] st M ↔ uX8_neverNow R 24 [x0, some (.inl a), x2] (.inl a :: st) M := zU_step dX8_neverNow_23 (Or.inl rfl)
theorem dX8_neverNow_24 : decode cX8_neverNow 24 = .ok (.aload_n 0, 1) := by decide +kernel
theorem rX8_neverNow_24 {R : zP} {x1 x2 : Option zV} {st : List zV} {M : zM} {a : Nat} : uX8_neverNow R 24 [some (.inr (.inr a)), x1, x2] st M ↔ uX8_neverNow R 25 [some (.inr (.inr a)), x1, x2] (.inr (.inr a) :: st) M := zU_step dX8_neverNow_24 (Or.inl rfl)
theorem dX8_neverNow_25 : decode cX8_neverNow 25 = .ok (.invokevirtual 293, 3) := by decide +kernel
theorem rX8_neverNow_25 {R : zP} {x0 x1 x2 : Option zV} {st : List zV} {M : zM} {a0 : zV} : uX8_neverNow R 25 [x0, x1, x2] (a0 :: st) M ↔ (st.length ≤ 4 ∧ zcv (zv 8 tX8_isSeen) [a0] M (fun v M => uX8_neverNow R 28 [x0, x1, x2] (v :: st) M)) := Iff.trans (zU_step dX8_neverNow_25 (Or.inl rfl)) ⟨fun h => ⟨h.2.1, zcv_of h.2.2⟩, fun h => ⟨rfl, h.1, zcv_to h.2⟩⟩
theorem dX8_neverNow_28 : decode cX8_neverNow 28 = .ok (.ifCond .eq 9, 3) := by decide +kernel
theorem rX8_neverNow_28 {R : zP} {x0 x1 x2 : Option zV} {st : List zV} {M : zM} {a : Int} : uX8_neverNow R 28 [x0, x1, x2] (.inl a :: st) M ↔ (zIR a ∧ if a = 0 then uX8_neverNow R 37 [x0, x1, x2] st M else uX8_neverNow R 31 [x0, x1, x2] st M) := Iff.trans (zU_step dX8_neverNow_28 (Or.inl rfl)) ⟨fun h => ⟨h.1.1, (zite (c := a = 0)).mpr h.2⟩, fun h => ⟨⟨h.1, by decide⟩, (zite (c := a = 0)).mp h.2⟩⟩
theorem dX8_neverNow_31 : decode cX8_neverNow 31 = .ok (.iconst 1, 1) := by decide +kernel
theorem rX8_neverNow_31 {R : zP} {x0 x1 x2 : Option zV} {st : List zV} {M : zM} : uX8_neverNow R 31 [x0, x1, x2] st M ↔ uX8_neverNow R 32 [x0, x1, x2] (.inl (1) :: st) M := zU_step dX8_neverNow_31 (Or.inl rfl)
theorem dX8_neverNow_32 : decode cX8_neverNow 32 = .ok (.iload_n 2, 1) := by decide +kernel
theorem rX8_neverNow_32 {R : zP} {x0 x1 : Option zV} {st : List zV} {M : zM} {a : Int} : uX8_neverNow R 32 [x0, x1, some (.inl a)] st M ↔ uX8_neverNow R 33 [x0, x1, some (.inl a)] (.inl a :: st) M := zU_step dX8_neverNow_32 (Or.inl rfl)
theorem dX8_neverNow_33 : decode cX8_neverNow 33 = .ok (.ishl, 1) := by decide +kernel
theorem rX8_neverNow_33 {R : zP} {x0 x1 x2 : Option zV} {st : List zV} {M : zM} {a b : Int} : uX8_neverNow R 33 [x0, x1, x2] (.inl b :: .inl a :: st) M ↔ uX8_neverNow R 34 [x0, x1, x2] (.inl (zshl a b) :: st) M := zU_step dX8_neverNow_33 (Or.inl rfl)
theorem dX8_neverNow_34 : decode cX8_neverNow 34 = .ok (.goto 4, 3) := by decide +kernel
theorem rX8_neverNow_34 {R : zP} {x0 x1 x2 : Option zV} {st : List zV} {M : zM} : uX8_neverNow R 34 [x0, x1, x2] st M ↔ uX8_neverNow R 38 [x0, x1, x2] st M := Iff.trans (zU_step dX8_neverNow_34 (Or.inl rfl)) ⟨fun h => h.2, fun h => ⟨by decide, h⟩⟩
theorem dX8_neverNow_37 : decode cX8_neverNow 37 = .ok (.iconst 0, 1) := by decide +kernel
theorem rX8_neverNow_37 {R : zP} {x0 x1 x2 : Option zV} {st : List zV} {M : zM} : uX8_neverNow R 37 [x0, x1, x2] st M ↔ uX8_neverNow R 38 [x0, x1, x2] (.inl (0) :: st) M := zU_step dX8_neverNow_37 (Or.inl rfl)
theorem dX8_neverNow_38 : decode cX8_neverNow 38 = .ok (.ior, 1) := by decide +kernel
theorem rX8_neverNow_38 {R : zP} {x0 x1 x2 : Option zV} {st : List zV} {M : zM} {a b : Int} : uX8_neverNow R 38 [x0, x1, x2] (.inl b :: .inl a :: st) M ↔ uX8_neverNow R 39 [x0, x1, x2] (.inl (zor a b) :: st) M := zU_step dX8_neverNow_38 (Or.inl rfl)
theorem dX8_neverNow_39 : decode cX8_neverNow 39 = .ok (.istore_n 1, 1) := by decide +kernel
theorem rX8_neverNow_39 {R : zP} {x1 x2 : Option zV} {st : List zV} {M : zM} {a : Int} {y : Nat} : uX8_neverNow R 39 [some (.inr (.inr y)), x1, x2] (.inl a :: st) M ↔ uX8_neverNow R 40 [some (.inr (.inr y)), some (.inl a), x2] st M := Iff.trans (zU_step dX8_neverNow_39 (Or.inl rfl)) ⟨fun h => h.2, fun h => ⟨show 1 < 3 by decide, h⟩⟩
theorem rX8_neverNow_39z {R : zP} {x0 x1 x2 : Option zV} {st : List zV} {M : zM} {a : Int} : uX8_neverNow R 39 [x0, x1, x2] (.inl a :: st) M ↔ uX8_neverNow R 40 [zkeep x0, some (.inl a), x2] st M := Iff.trans (zU_step dX8_neverNow_39 (Or.inl rfl)) ⟨fun h => h.2, fun h => ⟨show 1 < 3 by decide, h⟩⟩
theorem dX8_neverNow_40 : decode cX8_neverNow 40 = .ok (.iinc 2 1, 3) := by decide +kernel
theorem rX8_neverNow_40 {R : zP} {x0 : Option zV} {st : List zV} {M : zM} {a : Int} {y : Int} : uX8_neverNow R 40 [x0, some (.inl y), some (.inl a)] st M ↔ uX8_neverNow R 43 [x0, some (.inl y), some (.inl (a + (1)))] st M := Iff.trans (zU_step dX8_neverNow_40 (Or.inl rfl)) ⟨fun h => h.2, fun h => ⟨show 2 < 3 by decide, h⟩⟩
theorem rX8_neverNow_40z {R : zP} {x0 x1 : Option zV} {st : List zV} {M : zM} {a : Int} : uX8_neverNow R 40 [x0, x1, some (.inl a)] st M ↔ uX8_neverNow R 43 [x0, zkeep x1, some (.inl (a + (1)))] st M := Iff.trans (zU_step dX8_neverNow_40 (Or.inl rfl)) ⟨fun h => h.2, fun h => ⟨show 2 < 3 by decide, h⟩⟩
theorem dX8_neverNow_43 : decode cX8_neverNow 43 = .ok (.goto (-35), 3) := by decide +kernel
theorem rX8_neverNow_43 {R : zP} {x0 x1 x2 : Option zV} {st : List zV} {M : zM} : uX8_neverNow R 43 [x0, x1, x2] st M ↔ uX8_neverNow R 8 [x0, x1, x2] st M := Iff.trans (zU_step dX8_neverNow_43 (Or.inl rfl)) ⟨fun h => h.2, fun h => ⟨by decide, h⟩⟩
theorem dX8_neverNow_46 : decode cX8_neverNow 46 = .ok (.iload_n 1, 1) := by decide +kernel
theorem rX8_neverNow_46 {R : zP} {x0 x2 : Option zV} {st : List zV} {M : zM} {a : Int} : uX8_neverNow R 46 [x0, some (.inl a), x2] st M ↔ uX8_neverNow R 47 [x0, some (.inl a), x2] (.inl a :: st) M := zU_step dX8_neverNow_46 (Or.inl rfl)
theorem dX8_neverNow_47 : decode cX8_neverNow 47 = .ok (.ireturn, 1) := by decide +kernel
theorem rX8_neverNow_47 {R : zP} {x0 x1 x2 : Option zV} {M : zM} {a : Int} : uX8_neverNow R 47 [x0, x1, x2] [.inl a] M ↔ R (some (.inl a)) M := Iff.trans (zU_step dX8_neverNow_47 (Or.inl rfl)) ⟨fun h => h.2.2, fun h => ⟨rfl, Or.inl rfl, h⟩⟩
theorem eX8_neverNow {R : zP} {M : zM} {a0 : Nat} : tX8_neverNow [.inr (.inr a0)] M R ↔ uX8_neverNow R 0 [some (.inr (.inr a0)), none, none] [] M := ⟨fun h => h.2, fun h => ⟨show 1 ≤ 3 by decide, h⟩⟩
def uX8_never (R : zP) : zK := zU fX8 vX8_never cX8_never R
theorem dX8_never_0 : decode cX8_never 0 = .ok (.aload_n 0, 1) := by decide +kernel
theorem rX8_never_0 {R : zP} {st : List zV} {M : zM} {a : Nat} : uX8_never R 0 [some (.inr (.inr a))] st M ↔ uX8_never R 1 [some (.inr (.inr a))] (.inr (.inr a) :: st) M := zU_step dX8_never_0 (Or.inl rfl)
theorem dX8_never_1 : decode cX8_never 1 = .ok (.invokevirtual 297, 3) := by decide +kernel
theorem rX8_never_1 {R : zP} {x0 : Option zV} {st : List zV} {M : zM} {a0 : zV} : uX8_never R 1 [x0] (a0 :: st) M ↔ (st.length ≤ 4 ∧ zcv (zv 8 tX8_neverNow) [a0] M (fun v M => uX8_never R 4 [x0] (v :: st) M)) := Iff.trans (zU_step dX8_never_1 (Or.inl rfl)) ⟨fun h => ⟨h.2.1, zcv_of h.2.2⟩, fun h => ⟨rfl, h.1, zcv_to h.2⟩⟩
theorem dX8_never_4 : decode cX8_never 4 = .ok (.ireturn, 1) := by decide +kernel
theorem rX8_never_4 {R : zP} {x0 : Option zV} {M : zM} {a : Int} : uX8_never R 4 [x0] [.inl a] M ↔ R (some (.inl a)) M := Iff.trans (zU_step dX8_never_4 (Or.inl rfl)) ⟨fun h => h.2.2, fun h => ⟨rfl, Or.inl rfl, h⟩⟩
theorem eX8_never {R : zP} {M : zM} {a0 : Nat} : tX8_never [.inr (.inr a0)] M R ↔ uX8_never R 0 [some (.inr (.inr a0))] [] M := ⟨fun h => h.2, fun h => ⟨show 1 ≤ 1 by decide, h⟩⟩
def uX8_sortsBy (R : zP) : zK := zU fX8 vX8_sortsBy cX8_sortsBy R
theorem dX8_sortsBy_0 : decode cX8_sortsBy 0 = .ok (.aload_n 0, 1) := by decide +kernel
theorem rX8_sortsBy_0 {R : zP} {x1 x2 x3 x4 : Option zV} {st : List zV} {M : zM} {a : Nat} : uX8_sortsBy R 0 [some (.inr (.inr a)), x1, x2, x3, x4] st M ↔ uX8_sortsBy R 1 [some (.inr (.inr a)), x1, x2, x3, x4] (.inr (.inr a) :: st) M := zU_step dX8_sortsBy_0 (Or.inl rfl)
theorem dX8_sortsBy_1 : decode cX8_sortsBy 1 = .ok (.invokevirtual 199, 3) := by decide +kernel
theorem rX8_sortsBy_1 {R : zP} {x0 x1 x2 x3 x4 : Option zV} {st : List zV} {M : zM} {a0 : zV} : uX8_sortsBy R 1 [x0, x1, x2, x3, x4] (a0 :: st) M ↔ (st.length ≤ 4 ∧ zcn (zv 8 tX8_asTold) [a0] M (fun M => uX8_sortsBy R 4 [x0, x1, x2, x3, x4] st M)) := Iff.trans (zU_step dX8_sortsBy_1 (Or.inl rfl)) ⟨fun h => ⟨h.2.1, zcn_of h.2.2⟩, fun h => ⟨rfl, h.1, zcn_to h.2⟩⟩
theorem dX8_sortsBy_4 : decode cX8_sortsBy 4 = .ok (.aload_n 0, 1) := by decide +kernel
theorem rX8_sortsBy_4 {R : zP} {x1 x2 x3 x4 : Option zV} {st : List zV} {M : zM} {a : Nat} : uX8_sortsBy R 4 [some (.inr (.inr a)), x1, x2, x3, x4] st M ↔ uX8_sortsBy R 5 [some (.inr (.inr a)), x1, x2, x3, x4] (.inr (.inr a) :: st) M := zU_step dX8_sortsBy_4 (Or.inl rfl)
theorem dX8_sortsBy_5 : decode cX8_sortsBy 5 = .ok (.getfield 16, 3) := by decide +kernel
theorem rX8_sortsBy_5 {R : zP} {x0 x1 x2 x3 x4 : Option zV} {st : List zV} {M : zM} {r : Nat} : uX8_sortsBy R 5 [x0, x1, x2, x3, x4] (.inr (.inr r) :: st) M ↔ zgetx fX8 16 r M (fun v => uX8_sortsBy R 8 [x0, x1, x2, x3, x4] (v :: st) M) := zU_step dX8_sortsBy_5 (Or.inl rfl)
theorem dX8_sortsBy_8 : decode cX8_sortsBy 8 = .ok (.iload_n 1, 1) := by decide +kernel
theorem rX8_sortsBy_8 {R : zP} {x0 x2 x3 x4 : Option zV} {st : List zV} {M : zM} {a : Int} : uX8_sortsBy R 8 [x0, some (.inl a), x2, x3, x4] st M ↔ uX8_sortsBy R 9 [x0, some (.inl a), x2, x3, x4] (.inl a :: st) M := zU_step dX8_sortsBy_8 (Or.inl rfl)
theorem dX8_sortsBy_9 : decode cX8_sortsBy 9 = .ok (.iaload, 1) := by decide +kernel
theorem rX8_sortsBy_9 {R : zP} {x0 x1 x2 x3 x4 : Option zV} {st : List zV} {M : zM} {i : Int} {r : Nat} : uX8_sortsBy R 9 [x0, x1, x2, x3, x4] (.inl i :: .inr (.inr r) :: st) M ↔ zread fX8 0 r M i (fun v => uX8_sortsBy R 10 [x0, x1, x2, x3, x4] (.inl v :: st) M) := zU_step dX8_sortsBy_9 (Or.inl rfl)
theorem dX8_sortsBy_10 : decode cX8_sortsBy 10 = .ok (.istore_n 2, 1) := by decide +kernel
theorem rX8_sortsBy_10 {R : zP} {x0 x2 x3 x4 : Option zV} {st : List zV} {M : zM} {a : Int} {y : Int} : uX8_sortsBy R 10 [x0, some (.inl y), x2, x3, x4] (.inl a :: st) M ↔ uX8_sortsBy R 11 [x0, some (.inl y), some (.inl a), x3, x4] st M := Iff.trans (zU_step dX8_sortsBy_10 (Or.inl rfl)) ⟨fun h => h.2, fun h => ⟨show 2 < 5 by decide, h⟩⟩
theorem rX8_sortsBy_10z {R : zP} {x0 x1 x2 x3 x4 : Option zV} {st : List zV} {M : zM} {a : Int} : uX8_sortsBy R 10 [x0, x1, x2, x3, x4] (.inl a :: st) M ↔ uX8_sortsBy R 11 [x0, zkeep x1, some (.inl a), x3, x4] st M := Iff.trans (zU_step dX8_sortsBy_10 (Or.inl rfl)) ⟨fun h => h.2, fun h => ⟨show 2 < 5 by decide, h⟩⟩
theorem dX8_sortsBy_11 : decode cX8_sortsBy 11 = .ok (.iconst 0, 1) := by decide +kernel
theorem rX8_sortsBy_11 {R : zP} {x0 x1 x2 x3 x4 : Option zV} {st : List zV} {M : zM} : uX8_sortsBy R 11 [x0, x1, x2, x3, x4] st M ↔ uX8_sortsBy R 12 [x0, x1, x2, x3, x4] (.inl (0) :: st) M := zU_step dX8_sortsBy_11 (Or.inl rfl)
theorem dX8_sortsBy_12 : decode cX8_sortsBy 12 = .ok (.istore_n 3, 1) := by decide +kernel
theorem rX8_sortsBy_12 {R : zP} {x0 x1 x3 x4 : Option zV} {st : List zV} {M : zM} {a : Int} {y : Int} : uX8_sortsBy R 12 [x0, x1, some (.inl y), x3, x4] (.inl a :: st) M ↔ uX8_sortsBy R 13 [x0, x1, some (.inl y), some (.inl a), x4] st M := Iff.trans (zU_step dX8_sortsBy_12 (Or.inl rfl)) ⟨fun h => h.2, fun h => ⟨show 3 < 5 by decide, h⟩⟩
theorem rX8_sortsBy_12z {R : zP} {x0 x1 x2 x3 x4 : Option zV} {st : List zV} {M : zM} {a : Int} : uX8_sortsBy R 12 [x0, x1, x2, x3, x4] (.inl a :: st) M ↔ uX8_sortsBy R 13 [x0, x1, zkeep x2, some (.inl a), x4] st M := Iff.trans (zU_step dX8_sortsBy_12 (Or.inl rfl)) ⟨fun h => h.2, fun h => ⟨show 3 < 5 by decide, h⟩⟩
theorem dX8_sortsBy_13 : decode cX8_sortsBy 13 = .ok (.iconst 0, 1) := by decide +kernel
theorem rX8_sortsBy_13 {R : zP} {x0 x1 x2 x3 x4 : Option zV} {st : List zV} {M : zM} : uX8_sortsBy R 13 [x0, x1, x2, x3, x4] st M ↔ uX8_sortsBy R 14 [x0, x1, x2, x3, x4] (.inl (0) :: st) M := zU_step dX8_sortsBy_13 (Or.inl rfl)
theorem dX8_sortsBy_14 : decode cX8_sortsBy 14 = .ok (.istore 4, 2) := by decide +kernel
theorem rX8_sortsBy_14 {R : zP} {x0 x1 x2 x4 : Option zV} {st : List zV} {M : zM} {a : Int} {y : Int} : uX8_sortsBy R 14 [x0, x1, x2, some (.inl y), x4] (.inl a :: st) M ↔ uX8_sortsBy R 16 [x0, x1, x2, some (.inl y), some (.inl a)] st M := Iff.trans (zU_step dX8_sortsBy_14 (Or.inl rfl)) ⟨fun h => h.2, fun h => ⟨show 4 < 5 by decide, h⟩⟩
theorem rX8_sortsBy_14z {R : zP} {x0 x1 x2 x3 x4 : Option zV} {st : List zV} {M : zM} {a : Int} : uX8_sortsBy R 14 [x0, x1, x2, x3, x4] (.inl a :: st) M ↔ uX8_sortsBy R 16 [x0, x1, x2, zkeep x3, some (.inl a)] st M := Iff.trans (zU_step dX8_sortsBy_14 (Or.inl rfl)) ⟨fun h => h.2, fun h => ⟨show 4 < 5 by decide, h⟩⟩
theorem dX8_sortsBy_16 : decode cX8_sortsBy 16 = .ok (.iload 4, 2) := by decide +kernel
theorem rX8_sortsBy_16 {R : zP} {x0 x1 x2 x3 : Option zV} {st : List zV} {M : zM} {a : Int} : uX8_sortsBy R 16 [x0, x1, x2, x3, some (.inl a)] st M ↔ uX8_sortsBy R 18 [x0, x1, x2, x3, some (.inl a)] (.inl a :: st) M := zU_step dX8_sortsBy_16 (Or.inl rfl)
theorem dX8_sortsBy_18 : decode cX8_sortsBy 18 = .ok (.iconst 3, 1) := by decide +kernel
theorem rX8_sortsBy_18 {R : zP} {x0 x1 x2 x3 x4 : Option zV} {st : List zV} {M : zM} : uX8_sortsBy R 18 [x0, x1, x2, x3, x4] st M ↔ uX8_sortsBy R 19 [x0, x1, x2, x3, x4] (.inl (3) :: st) M := zU_step dX8_sortsBy_18 (Or.inl rfl)
theorem dX8_sortsBy_19 : decode cX8_sortsBy 19 = .ok (.if_icmp .ge 35, 3) := by decide +kernel
theorem rX8_sortsBy_19 {R : zP} {x0 x1 x2 x3 x4 : Option zV} {st : List zV} {M : zM} {a b : Int} : uX8_sortsBy R 19 [x0, x1, x2, x3, x4] (.inl b :: .inl a :: st) M ↔ ((zIR a ∧ zIR b) ∧ if b ≤ a then uX8_sortsBy R 54 [x0, x1, x2, x3, x4] st M else uX8_sortsBy R 22 [x0, x1, x2, x3, x4] st M) := Iff.trans (zU_step dX8_sortsBy_19 (Or.inl rfl)) ⟨fun h => ⟨⟨h.1.1, h.1.2.1⟩, (zite (c := b ≤ a)).mpr h.2⟩, fun h => ⟨⟨h.1.1, h.1.2, by decide⟩, (zite (c := b ≤ a)).mp h.2⟩⟩
theorem dX8_sortsBy_22 : decode cX8_sortsBy 22 = .ok (.aload_n 0, 1) := by decide +kernel
theorem rX8_sortsBy_22 {R : zP} {x1 x2 x3 x4 : Option zV} {st : List zV} {M : zM} {a : Nat} : uX8_sortsBy R 22 [some (.inr (.inr a)), x1, x2, x3, x4] st M ↔ uX8_sortsBy R 23 [some (.inr (.inr a)), x1, x2, x3, x4] (.inr (.inr a) :: st) M := zU_step dX8_sortsBy_22 (Or.inl rfl)
theorem dX8_sortsBy_23 : decode cX8_sortsBy 23 = .ok (.getfield 16, 3) := by decide +kernel
theorem rX8_sortsBy_23 {R : zP} {x0 x1 x2 x3 x4 : Option zV} {st : List zV} {M : zM} {r : Nat} : uX8_sortsBy R 23 [x0, x1, x2, x3, x4] (.inr (.inr r) :: st) M ↔ zgetx fX8 16 r M (fun v => uX8_sortsBy R 26 [x0, x1, x2, x3, x4] (v :: st) M) := zU_step dX8_sortsBy_23 (Or.inl rfl)
theorem dX8_sortsBy_26 : decode cX8_sortsBy 26 = .ok (.iload_n 1, 1) := by decide +kernel
theorem rX8_sortsBy_26 {R : zP} {x0 x2 x3 x4 : Option zV} {st : List zV} {M : zM} {a : Int} : uX8_sortsBy R 26 [x0, some (.inl a), x2, x3, x4] st M ↔ uX8_sortsBy R 27 [x0, some (.inl a), x2, x3, x4] (.inl a :: st) M := zU_step dX8_sortsBy_26 (Or.inl rfl)
theorem dX8_sortsBy_27 : decode cX8_sortsBy 27 = .ok (.iload 4, 2) := by decide +kernel
theorem rX8_sortsBy_27 {R : zP} {x0 x1 x2 x3 : Option zV} {st : List zV} {M : zM} {a : Int} : uX8_sortsBy R 27 [x0, x1, x2, x3, some (.inl a)] st M ↔ uX8_sortsBy R 29 [x0, x1, x2, x3, some (.inl a)] (.inl a :: st) M := zU_step dX8_sortsBy_27 (Or.inl rfl)
theorem dX8_sortsBy_29 : decode cX8_sortsBy 29 = .ok (.iastore, 1) := by decide +kernel
theorem rX8_sortsBy_29 {R : zP} {x0 x1 x2 x3 x4 : Option zV} {st : List zV} {M : zM} {i v : Int} {r : Nat} : uX8_sortsBy R 29 [x0, x1, x2, x3, x4] (.inl v :: .inl i :: .inr (.inr r) :: st) M ↔ zwrite 0 r i (uX8_sortsBy R 30 [x0, x1, x2, x3, x4] st (zup M r i v)) := zU_step dX8_sortsBy_29 (Or.inl rfl)
theorem dX8_sortsBy_30 : decode cX8_sortsBy 30 = .ok (.iload_n 3, 1) := by decide +kernel
theorem rX8_sortsBy_30 {R : zP} {x0 x1 x2 x4 : Option zV} {st : List zV} {M : zM} {a : Int} : uX8_sortsBy R 30 [x0, x1, x2, some (.inl a), x4] st M ↔ uX8_sortsBy R 31 [x0, x1, x2, some (.inl a), x4] (.inl a :: st) M := zU_step dX8_sortsBy_30 (Or.inl rfl)
theorem dX8_sortsBy_31 : decode cX8_sortsBy 31 = .ok (.aload_n 0, 1) := by decide +kernel
theorem rX8_sortsBy_31 {R : zP} {x1 x2 x3 x4 : Option zV} {st : List zV} {M : zM} {a : Nat} : uX8_sortsBy R 31 [some (.inr (.inr a)), x1, x2, x3, x4] st M ↔ uX8_sortsBy R 32 [some (.inr (.inr a)), x1, x2, x3, x4] (.inr (.inr a) :: st) M := zU_step dX8_sortsBy_31 (Or.inl rfl)
theorem dX8_sortsBy_32 : decode cX8_sortsBy 32 = .ok (.invokevirtual 293, 3) := by decide +kernel
theorem rX8_sortsBy_32 {R : zP} {x0 x1 x2 x3 x4 : Option zV} {st : List zV} {M : zM} {a0 : zV} : uX8_sortsBy R 32 [x0, x1, x2, x3, x4] (a0 :: st) M ↔ (st.length ≤ 4 ∧ zcv (zv 8 tX8_isSeen) [a0] M (fun v M => uX8_sortsBy R 35 [x0, x1, x2, x3, x4] (v :: st) M)) := Iff.trans (zU_step dX8_sortsBy_32 (Or.inl rfl)) ⟨fun h => ⟨h.2.1, zcv_of h.2.2⟩, fun h => ⟨rfl, h.1, zcv_to h.2⟩⟩
theorem dX8_sortsBy_35 : decode cX8_sortsBy 35 = .ok (.ifCond .eq 10, 3) := by decide +kernel
theorem rX8_sortsBy_35 {R : zP} {x0 x1 x2 x3 x4 : Option zV} {st : List zV} {M : zM} {a : Int} : uX8_sortsBy R 35 [x0, x1, x2, x3, x4] (.inl a :: st) M ↔ (zIR a ∧ if a = 0 then uX8_sortsBy R 45 [x0, x1, x2, x3, x4] st M else uX8_sortsBy R 38 [x0, x1, x2, x3, x4] st M) := Iff.trans (zU_step dX8_sortsBy_35 (Or.inl rfl)) ⟨fun h => ⟨h.1.1, (zite (c := a = 0)).mpr h.2⟩, fun h => ⟨⟨h.1, by decide⟩, (zite (c := a = 0)).mp h.2⟩⟩
theorem dX8_sortsBy_38 : decode cX8_sortsBy 38 = .ok (.iconst 1, 1) := by decide +kernel
theorem rX8_sortsBy_38 {R : zP} {x0 x1 x2 x3 x4 : Option zV} {st : List zV} {M : zM} : uX8_sortsBy R 38 [x0, x1, x2, x3, x4] st M ↔ uX8_sortsBy R 39 [x0, x1, x2, x3, x4] (.inl (1) :: st) M := zU_step dX8_sortsBy_38 (Or.inl rfl)
theorem dX8_sortsBy_39 : decode cX8_sortsBy 39 = .ok (.iload 4, 2) := by decide +kernel
theorem rX8_sortsBy_39 {R : zP} {x0 x1 x2 x3 : Option zV} {st : List zV} {M : zM} {a : Int} : uX8_sortsBy R 39 [x0, x1, x2, x3, some (.inl a)] st M ↔ uX8_sortsBy R 41 [x0, x1, x2, x3, some (.inl a)] (.inl a :: st) M := zU_step dX8_sortsBy_39 (Or.inl rfl)
theorem dX8_sortsBy_41 : decode cX8_sortsBy 41 = .ok (.ishl, 1) := by decide +kernel
theorem rX8_sortsBy_41 {R : zP} {x0 x1 x2 x3 x4 : Option zV} {st : List zV} {M : zM} {a b : Int} : uX8_sortsBy R 41 [x0, x1, x2, x3, x4] (.inl b :: .inl a :: st) M ↔ uX8_sortsBy R 42 [x0, x1, x2, x3, x4] (.inl (zshl a b) :: st) M := zU_step dX8_sortsBy_41 (Or.inl rfl)
theorem dX8_sortsBy_42 : decode cX8_sortsBy 42 = .ok (.goto 4, 3) := by decide +kernel
theorem rX8_sortsBy_42 {R : zP} {x0 x1 x2 x3 x4 : Option zV} {st : List zV} {M : zM} : uX8_sortsBy R 42 [x0, x1, x2, x3, x4] st M ↔ uX8_sortsBy R 46 [x0, x1, x2, x3, x4] st M := Iff.trans (zU_step dX8_sortsBy_42 (Or.inl rfl)) ⟨fun h => h.2, fun h => ⟨by decide, h⟩⟩
theorem dX8_sortsBy_45 : decode cX8_sortsBy 45 = .ok (.iconst 0, 1) := by decide +kernel
theorem rX8_sortsBy_45 {R : zP} {x0 x1 x2 x3 x4 : Option zV} {st : List zV} {M : zM} : uX8_sortsBy R 45 [x0, x1, x2, x3, x4] st M ↔ uX8_sortsBy R 46 [x0, x1, x2, x3, x4] (.inl (0) :: st) M := zU_step dX8_sortsBy_45 (Or.inl rfl)
theorem dX8_sortsBy_46 : decode cX8_sortsBy 46 = .ok (.ior, 1) := by decide +kernel
theorem rX8_sortsBy_46 {R : zP} {x0 x1 x2 x3 x4 : Option zV} {st : List zV} {M : zM} {a b : Int} : uX8_sortsBy R 46 [x0, x1, x2, x3, x4] (.inl b :: .inl a :: st) M ↔ uX8_sortsBy R 47 [x0, x1, x2, x3, x4] (.inl (zor a b) :: st) M := zU_step dX8_sortsBy_46 (Or.inl rfl)
theorem dX8_sortsBy_47 : decode cX8_sortsBy 47 = .ok (.istore_n 3, 1) := by decide +kernel
theorem rX8_sortsBy_47 {R : zP} {x0 x1 x3 x4 : Option zV} {st : List zV} {M : zM} {a : Int} {y : Int} : uX8_sortsBy R 47 [x0, x1, some (.inl y), x3, x4] (.inl a :: st) M ↔ uX8_sortsBy R 48 [x0, x1, some (.inl y), some (.inl a), x4] st M := Iff.trans (zU_step dX8_sortsBy_47 (Or.inl rfl)) ⟨fun h => h.2, fun h => ⟨show 3 < 5 by decide, h⟩⟩
theorem rX8_sortsBy_47z {R : zP} {x0 x1 x2 x3 x4 : Option zV} {st : List zV} {M : zM} {a : Int} : uX8_sortsBy R 47 [x0, x1, x2, x3, x4] (.inl a :: st) M ↔ uX8_sortsBy R 48 [x0, x1, zkeep x2, some (.inl a), x4] st M := Iff.trans (zU_step dX8_sortsBy_47 (Or.inl rfl)) ⟨fun h => h.2, fun h => ⟨show 3 < 5 by decide, h⟩⟩
theorem dX8_sortsBy_48 : decode cX8_sortsBy 48 = .ok (.iinc 4 1, 3) := by decide +kernel
theorem rX8_sortsBy_48 {R : zP} {x0 x1 x2 : Option zV} {st : List zV} {M : zM} {a : Int} {y : Int} : uX8_sortsBy R 48 [x0, x1, x2, some (.inl y), some (.inl a)] st M ↔ uX8_sortsBy R 51 [x0, x1, x2, some (.inl y), some (.inl (a + (1)))] st M := Iff.trans (zU_step dX8_sortsBy_48 (Or.inl rfl)) ⟨fun h => h.2, fun h => ⟨show 4 < 5 by decide, h⟩⟩
theorem rX8_sortsBy_48z {R : zP} {x0 x1 x2 x3 : Option zV} {st : List zV} {M : zM} {a : Int} : uX8_sortsBy R 48 [x0, x1, x2, x3, some (.inl a)] st M ↔ uX8_sortsBy R 51 [x0, x1, x2, zkeep x3, some (.inl (a + (1)))] st M := Iff.trans (zU_step dX8_sortsBy_48 (Or.inl rfl)) ⟨fun h => h.2, fun h => ⟨show 4 < 5 by decide, h⟩⟩
theorem dX8_sortsBy_51 : decode cX8_sortsBy 51 = .ok (.goto (-35), 3) := by decide +kernel
theorem rX8_sortsBy_51 {R : zP} {x0 x1 x2 x3 x4 : Option zV} {st : List zV} {M : zM} : uX8_sortsBy R 51 [x0, x1, x2, x3, x4] st M ↔ uX8_sortsBy R 16 [x0, x1, x2, x3, x4] st M := Iff.trans (zU_step dX8_sortsBy_51 (Or.inl rfl)) ⟨fun h => h.2, fun h => ⟨by decide, h⟩⟩
theorem dX8_sortsBy_54 : decode cX8_sortsBy 54 = .ok (.aload_n 0, 1) := by decide +kernel
theorem rX8_sortsBy_54 {R : zP} {x1 x2 x3 x4 : Option zV} {st : List zV} {M : zM} {a : Nat} : uX8_sortsBy R 54 [some (.inr (.inr a)), x1, x2, x3, x4] st M ↔ uX8_sortsBy R 55 [some (.inr (.inr a)), x1, x2, x3, x4] (.inr (.inr a) :: st) M := zU_step dX8_sortsBy_54 (Or.inl rfl)
theorem dX8_sortsBy_55 : decode cX8_sortsBy 55 = .ok (.getfield 16, 3) := by decide +kernel
theorem rX8_sortsBy_55 {R : zP} {x0 x1 x2 x3 x4 : Option zV} {st : List zV} {M : zM} {r : Nat} : uX8_sortsBy R 55 [x0, x1, x2, x3, x4] (.inr (.inr r) :: st) M ↔ zgetx fX8 16 r M (fun v => uX8_sortsBy R 58 [x0, x1, x2, x3, x4] (v :: st) M) := zU_step dX8_sortsBy_55 (Or.inl rfl)
theorem dX8_sortsBy_58 : decode cX8_sortsBy 58 = .ok (.iload_n 1, 1) := by decide +kernel
theorem rX8_sortsBy_58 {R : zP} {x0 x2 x3 x4 : Option zV} {st : List zV} {M : zM} {a : Int} : uX8_sortsBy R 58 [x0, some (.inl a), x2, x3, x4] st M ↔ uX8_sortsBy R 59 [x0, some (.inl a), x2, x3, x4] (.inl a :: st) M := zU_step dX8_sortsBy_58 (Or.inl rfl)
theorem dX8_sortsBy_59 : decode cX8_sortsBy 59 = .ok (.iload_n 2, 1) := by decide +kernel
theorem rX8_sortsBy_59 {R : zP} {x0 x1 x3 x4 : Option zV} {st : List zV} {M : zM} {a : Int} : uX8_sortsBy R 59 [x0, x1, some (.inl a), x3, x4] st M ↔ uX8_sortsBy R 60 [x0, x1, some (.inl a), x3, x4] (.inl a :: st) M := zU_step dX8_sortsBy_59 (Or.inl rfl)
theorem dX8_sortsBy_60 : decode cX8_sortsBy 60 = .ok (.iastore, 1) := by decide +kernel
theorem rX8_sortsBy_60 {R : zP} {x0 x1 x2 x3 x4 : Option zV} {st : List zV} {M : zM} {i v : Int} {r : Nat} : uX8_sortsBy R 60 [x0, x1, x2, x3, x4] (.inl v :: .inl i :: .inr (.inr r) :: st) M ↔ zwrite 0 r i (uX8_sortsBy R 61 [x0, x1, x2, x3, x4] st (zup M r i v)) := zU_step dX8_sortsBy_60 (Or.inl rfl)
theorem dX8_sortsBy_61 : decode cX8_sortsBy 61 = .ok (.iload_n 3, 1) := by decide +kernel
theorem rX8_sortsBy_61 {R : zP} {x0 x1 x2 x4 : Option zV} {st : List zV} {M : zM} {a : Int} : uX8_sortsBy R 61 [x0, x1, x2, some (.inl a), x4] st M ↔ uX8_sortsBy R 62 [x0, x1, x2, some (.inl a), x4] (.inl a :: st) M := zU_step dX8_sortsBy_61 (Or.inl rfl)
theorem dX8_sortsBy_62 : decode cX8_sortsBy 62 = .ok (.ireturn, 1) := by decide +kernel
theorem rX8_sortsBy_62 {R : zP} {x0 x1 x2 x3 x4 : Option zV} {M : zM} {a : Int} : uX8_sortsBy R 62 [x0, x1, x2, x3, x4] [.inl a] M ↔ R (some (.inl a)) M := Iff.trans (zU_step dX8_sortsBy_62 (Or.inl rfl)) ⟨fun h => h.2.2, fun h => ⟨rfl, Or.inl rfl, h⟩⟩
theorem eX8_sortsBy {R : zP} {M : zM} {a0 : Nat} {p0 : Int} : tX8_sortsBy [.inr (.inr a0), .inl p0] M R ↔ uX8_sortsBy R 0 [some (.inr (.inr a0)), some (.inl p0), none, none, none] [] M := ⟨fun h => h.2, fun h => ⟨show 2 ≤ 5 by decide, h⟩⟩
def uX8_sort (R : zP) : zK := zU fX8 vX8_sort cX8_sort R
theorem dX8_sort_0 : decode cX8_sort 0 = .ok (.aload_n 0, 1) := by decide +kernel
theorem rX8_sort_0 {R : zP} {x1 : Option zV} {st : List zV} {M : zM} {a : Nat} : uX8_sort R 0 [some (.inr (.inr a)), x1] st M ↔ uX8_sort R 1 [some (.inr (.inr a)), x1] (.inr (.inr a) :: st) M := zU_step dX8_sort_0 (Or.inl rfl)
theorem dX8_sort_1 : decode cX8_sort 1 = .ok (.iload_n 1, 1) := by decide +kernel
theorem rX8_sort_1 {R : zP} {x0 : Option zV} {st : List zV} {M : zM} {a : Int} : uX8_sort R 1 [x0, some (.inl a)] st M ↔ uX8_sort R 2 [x0, some (.inl a)] (.inl a :: st) M := zU_step dX8_sort_1 (Or.inl rfl)
theorem dX8_sort_2 : decode cX8_sort 2 = .ok (.invokevirtual 148, 3) := by decide +kernel
theorem rX8_sort_2 {R : zP} {x0 x1 : Option zV} {st : List zV} {M : zM} {a0 a1 : zV} : uX8_sort R 2 [x0, x1] (a1 :: a0 :: st) M ↔ (st.length ≤ 4 ∧ zcv (zv 8 tX8_isMember) [a0, a1] M (fun v M => uX8_sort R 5 [x0, x1] (v :: st) M)) := Iff.trans (zU_step dX8_sort_2 (Or.inl rfl)) ⟨fun h => ⟨h.2.1, zcv_of h.2.2⟩, fun h => ⟨rfl, h.1, zcv_to h.2⟩⟩
theorem dX8_sort_5 : decode cX8_sort 5 = .ok (.ifCond .eq 11, 3) := by decide +kernel
theorem rX8_sort_5 {R : zP} {x0 x1 : Option zV} {st : List zV} {M : zM} {a : Int} : uX8_sort R 5 [x0, x1] (.inl a :: st) M ↔ (zIR a ∧ if a = 0 then uX8_sort R 16 [x0, x1] st M else uX8_sort R 8 [x0, x1] st M) := Iff.trans (zU_step dX8_sort_5 (Or.inl rfl)) ⟨fun h => ⟨h.1.1, (zite (c := a = 0)).mpr h.2⟩, fun h => ⟨⟨h.1, by decide⟩, (zite (c := a = 0)).mp h.2⟩⟩
theorem dX8_sort_8 : decode cX8_sort 8 = .ok (.aload_n 0, 1) := by decide +kernel
theorem rX8_sort_8 {R : zP} {x1 : Option zV} {st : List zV} {M : zM} {a : Nat} : uX8_sort R 8 [some (.inr (.inr a)), x1] st M ↔ uX8_sort R 9 [some (.inr (.inr a)), x1] (.inr (.inr a) :: st) M := zU_step dX8_sort_8 (Or.inl rfl)
theorem dX8_sort_9 : decode cX8_sort 9 = .ok (.iload_n 1, 1) := by decide +kernel
theorem rX8_sort_9 {R : zP} {x0 : Option zV} {st : List zV} {M : zM} {a : Int} : uX8_sort R 9 [x0, some (.inl a)] st M ↔ uX8_sort R 10 [x0, some (.inl a)] (.inl a :: st) M := zU_step dX8_sort_9 (Or.inl rfl)
theorem dX8_sort_10 : decode cX8_sort 10 = .ok (.invokevirtual 300, 3) := by decide +kernel
theorem rX8_sort_10 {R : zP} {x0 x1 : Option zV} {st : List zV} {M : zM} {a0 a1 : zV} : uX8_sort R 10 [x0, x1] (a1 :: a0 :: st) M ↔ (st.length ≤ 4 ∧ zcv (zv 8 tX8_sortsBy) [a0, a1] M (fun v M => uX8_sort R 13 [x0, x1] (v :: st) M)) := Iff.trans (zU_step dX8_sort_10 (Or.inl rfl)) ⟨fun h => ⟨h.2.1, zcv_of h.2.2⟩, fun h => ⟨rfl, h.1, zcv_to h.2⟩⟩
theorem dX8_sort_13 : decode cX8_sort 13 = .ok (.goto 5, 3) := by decide +kernel
theorem rX8_sort_13 {R : zP} {x0 x1 : Option zV} {st : List zV} {M : zM} : uX8_sort R 13 [x0, x1] st M ↔ uX8_sort R 18 [x0, x1] st M := Iff.trans (zU_step dX8_sort_13 (Or.inl rfl)) ⟨fun h => h.2, fun h => ⟨by decide, h⟩⟩
theorem dX8_sort_16 : decode cX8_sort 16 = .ok (.bipush (-2), 2) := by decide +kernel
theorem rX8_sort_16 {R : zP} {x0 x1 : Option zV} {st : List zV} {M : zM} : uX8_sort R 16 [x0, x1] st M ↔ uX8_sort R 18 [x0, x1] (.inl (-2) :: st) M := Iff.trans (zU_step dX8_sort_16 (Or.inl rfl)) ⟨fun h => h.2, fun h => ⟨by decide, h⟩⟩
theorem dX8_sort_18 : decode cX8_sort 18 = .ok (.ireturn, 1) := by decide +kernel
theorem rX8_sort_18 {R : zP} {x0 x1 : Option zV} {M : zM} {a : Int} : uX8_sort R 18 [x0, x1] [.inl a] M ↔ R (some (.inl a)) M := Iff.trans (zU_step dX8_sort_18 (Or.inl rfl)) ⟨fun h => h.2.2, fun h => ⟨rfl, Or.inl rfl, h⟩⟩
theorem eX8_sort {R : zP} {M : zM} {a0 : Nat} {p0 : Int} : tX8_sort [.inr (.inr a0), .inl p0] M R ↔ uX8_sort R 0 [some (.inr (.inr a0)), some (.inl p0)] [] M := ⟨fun h => h.2, fun h => ⟨show 2 ≤ 2 by decide, h⟩⟩
def uX8_firstBy (R : zP) : zK := zU fX8 vX8_firstBy cX8_firstBy R
theorem dX8_firstBy_0 : decode cX8_firstBy 0 = .ok (.aload_n 0, 1) := by decide +kernel
theorem rX8_firstBy_0 {R : zP} {x1 x2 x3 x4 x5 x6 x7 : Option zV} {st : List zV} {M : zM} {a : Nat} : uX8_firstBy R 0 [some (.inr (.inr a)), x1, x2, x3, x4, x5, x6, x7] st M ↔ uX8_firstBy R 1 [some (.inr (.inr a)), x1, x2, x3, x4, x5, x6, x7] (.inr (.inr a) :: st) M := zU_step dX8_firstBy_0 (Or.inl rfl)
theorem dX8_firstBy_1 : decode cX8_firstBy 1 = .ok (.invokevirtual 199, 3) := by decide +kernel
theorem rX8_firstBy_1 {R : zP} {x0 x1 x2 x3 x4 x5 x6 x7 : Option zV} {st : List zV} {M : zM} {a0 : zV} : uX8_firstBy R 1 [x0, x1, x2, x3, x4, x5, x6, x7] (a0 :: st) M ↔ (st.length ≤ 4 ∧ zcn (zv 8 tX8_asTold) [a0] M (fun M => uX8_firstBy R 4 [x0, x1, x2, x3, x4, x5, x6, x7] st M)) := Iff.trans (zU_step dX8_firstBy_1 (Or.inl rfl)) ⟨fun h => ⟨h.2.1, zcn_of h.2.2⟩, fun h => ⟨rfl, h.1, zcn_to h.2⟩⟩
theorem dX8_firstBy_4 : decode cX8_firstBy 4 = .ok (.iconst 4, 1) := by decide +kernel
theorem rX8_firstBy_4 {R : zP} {x0 x1 x2 x3 x4 x5 x6 x7 : Option zV} {st : List zV} {M : zM} : uX8_firstBy R 4 [x0, x1, x2, x3, x4, x5, x6, x7] st M ↔ uX8_firstBy R 5 [x0, x1, x2, x3, x4, x5, x6, x7] (.inl (4) :: st) M := zU_step dX8_firstBy_4 (Or.inl rfl)
theorem dX8_firstBy_5 : decode cX8_firstBy 5 = .ok (.iload_n 1, 1) := by decide +kernel
theorem rX8_firstBy_5 {R : zP} {x0 x2 x3 x4 x5 x6 x7 : Option zV} {st : List zV} {M : zM} {a : Int} : uX8_firstBy R 5 [x0, some (.inl a), x2, x3, x4, x5, x6, x7] st M ↔ uX8_firstBy R 6 [x0, some (.inl a), x2, x3, x4, x5, x6, x7] (.inl a :: st) M := zU_step dX8_firstBy_5 (Or.inl rfl)
theorem dX8_firstBy_6 : decode cX8_firstBy 6 = .ok (.imul, 1) := by decide +kernel
theorem rX8_firstBy_6 {R : zP} {x0 x1 x2 x3 x4 x5 x6 x7 : Option zV} {st : List zV} {M : zM} {a b : Int} : uX8_firstBy R 6 [x0, x1, x2, x3, x4, x5, x6, x7] (.inl b :: .inl a :: st) M ↔ uX8_firstBy R 7 [x0, x1, x2, x3, x4, x5, x6, x7] (.inl (a * b) :: st) M := zU_step dX8_firstBy_6 (Or.inl rfl)
theorem dX8_firstBy_7 : decode cX8_firstBy 7 = .ok (.iload_n 2, 1) := by decide +kernel
theorem rX8_firstBy_7 {R : zP} {x0 x1 x3 x4 x5 x6 x7 : Option zV} {st : List zV} {M : zM} {a : Int} : uX8_firstBy R 7 [x0, x1, some (.inl a), x3, x4, x5, x6, x7] st M ↔ uX8_firstBy R 8 [x0, x1, some (.inl a), x3, x4, x5, x6, x7] (.inl a :: st) M := zU_step dX8_firstBy_7 (Or.inl rfl)
theorem dX8_firstBy_8 : decode cX8_firstBy 8 = .ok (.iadd, 1) := by decide +kernel
theorem rX8_firstBy_8 {R : zP} {x0 x1 x2 x3 x4 x5 x6 x7 : Option zV} {st : List zV} {M : zM} {a b : Int} : uX8_firstBy R 8 [x0, x1, x2, x3, x4, x5, x6, x7] (.inl b :: .inl a :: st) M ↔ uX8_firstBy R 9 [x0, x1, x2, x3, x4, x5, x6, x7] (.inl (a + b) :: st) M := zU_step dX8_firstBy_8 (Or.inl rfl)
theorem dX8_firstBy_9 : decode cX8_firstBy 9 = .ok (.istore_n 3, 1) := by decide +kernel
theorem rX8_firstBy_9 {R : zP} {x0 x1 x3 x4 x5 x6 x7 : Option zV} {st : List zV} {M : zM} {a : Int} {y : Int} : uX8_firstBy R 9 [x0, x1, some (.inl y), x3, x4, x5, x6, x7] (.inl a :: st) M ↔ uX8_firstBy R 10 [x0, x1, some (.inl y), some (.inl a), x4, x5, x6, x7] st M := Iff.trans (zU_step dX8_firstBy_9 (Or.inl rfl)) ⟨fun h => h.2, fun h => ⟨show 3 < 8 by decide, h⟩⟩
theorem rX8_firstBy_9z {R : zP} {x0 x1 x2 x3 x4 x5 x6 x7 : Option zV} {st : List zV} {M : zM} {a : Int} : uX8_firstBy R 9 [x0, x1, x2, x3, x4, x5, x6, x7] (.inl a :: st) M ↔ uX8_firstBy R 10 [x0, x1, zkeep x2, some (.inl a), x4, x5, x6, x7] st M := Iff.trans (zU_step dX8_firstBy_9 (Or.inl rfl)) ⟨fun h => h.2, fun h => ⟨show 3 < 8 by decide, h⟩⟩
theorem dX8_firstBy_10 : decode cX8_firstBy 10 = .ok (.aload_n 0, 1) := by decide +kernel
theorem rX8_firstBy_10 {R : zP} {x1 x2 x3 x4 x5 x6 x7 : Option zV} {st : List zV} {M : zM} {a : Nat} : uX8_firstBy R 10 [some (.inr (.inr a)), x1, x2, x3, x4, x5, x6, x7] st M ↔ uX8_firstBy R 11 [some (.inr (.inr a)), x1, x2, x3, x4, x5, x6, x7] (.inr (.inr a) :: st) M := zU_step dX8_firstBy_10 (Or.inl rfl)
theorem dX8_firstBy_11 : decode cX8_firstBy 11 = .ok (.getfield 19, 3) := by decide +kernel
theorem rX8_firstBy_11 {R : zP} {x0 x1 x2 x3 x4 x5 x6 x7 : Option zV} {st : List zV} {M : zM} {r : Nat} : uX8_firstBy R 11 [x0, x1, x2, x3, x4, x5, x6, x7] (.inr (.inr r) :: st) M ↔ zgetx fX8 19 r M (fun v => uX8_firstBy R 14 [x0, x1, x2, x3, x4, x5, x6, x7] (v :: st) M) := zU_step dX8_firstBy_11 (Or.inl rfl)
theorem dX8_firstBy_14 : decode cX8_firstBy 14 = .ok (.iload_n 3, 1) := by decide +kernel
theorem rX8_firstBy_14 {R : zP} {x0 x1 x2 x4 x5 x6 x7 : Option zV} {st : List zV} {M : zM} {a : Int} : uX8_firstBy R 14 [x0, x1, x2, some (.inl a), x4, x5, x6, x7] st M ↔ uX8_firstBy R 15 [x0, x1, x2, some (.inl a), x4, x5, x6, x7] (.inl a :: st) M := zU_step dX8_firstBy_14 (Or.inl rfl)
theorem dX8_firstBy_15 : decode cX8_firstBy 15 = .ok (.iaload, 1) := by decide +kernel
theorem rX8_firstBy_15 {R : zP} {x0 x1 x2 x3 x4 x5 x6 x7 : Option zV} {st : List zV} {M : zM} {i : Int} {r : Nat} : uX8_firstBy R 15 [x0, x1, x2, x3, x4, x5, x6, x7] (.inl i :: .inr (.inr r) :: st) M ↔ zread fX8 0 r M i (fun v => uX8_firstBy R 16 [x0, x1, x2, x3, x4, x5, x6, x7] (.inl v :: st) M) := zU_step dX8_firstBy_15 (Or.inl rfl)
theorem dX8_firstBy_16 : decode cX8_firstBy 16 = .ok (.istore 4, 2) := by decide +kernel
theorem rX8_firstBy_16 {R : zP} {x0 x1 x2 x4 x5 x6 x7 : Option zV} {st : List zV} {M : zM} {a : Int} {y : Int} : uX8_firstBy R 16 [x0, x1, x2, some (.inl y), x4, x5, x6, x7] (.inl a :: st) M ↔ uX8_firstBy R 18 [x0, x1, x2, some (.inl y), some (.inl a), x5, x6, x7] st M := Iff.trans (zU_step dX8_firstBy_16 (Or.inl rfl)) ⟨fun h => h.2, fun h => ⟨show 4 < 8 by decide, h⟩⟩
theorem rX8_firstBy_16z {R : zP} {x0 x1 x2 x3 x4 x5 x6 x7 : Option zV} {st : List zV} {M : zM} {a : Int} : uX8_firstBy R 16 [x0, x1, x2, x3, x4, x5, x6, x7] (.inl a :: st) M ↔ uX8_firstBy R 18 [x0, x1, x2, zkeep x3, some (.inl a), x5, x6, x7] st M := Iff.trans (zU_step dX8_firstBy_16 (Or.inl rfl)) ⟨fun h => h.2, fun h => ⟨show 4 < 8 by decide, h⟩⟩
theorem dX8_firstBy_18 : decode cX8_firstBy 18 = .ok (.iconst 0, 1) := by decide +kernel
theorem rX8_firstBy_18 {R : zP} {x0 x1 x2 x3 x4 x5 x6 x7 : Option zV} {st : List zV} {M : zM} : uX8_firstBy R 18 [x0, x1, x2, x3, x4, x5, x6, x7] st M ↔ uX8_firstBy R 19 [x0, x1, x2, x3, x4, x5, x6, x7] (.inl (0) :: st) M := zU_step dX8_firstBy_18 (Or.inl rfl)
theorem dX8_firstBy_19 : decode cX8_firstBy 19 = .ok (.istore 5, 2) := by decide +kernel
theorem rX8_firstBy_19 {R : zP} {x0 x1 x2 x3 x5 x6 x7 : Option zV} {st : List zV} {M : zM} {a : Int} {y : Int} : uX8_firstBy R 19 [x0, x1, x2, x3, some (.inl y), x5, x6, x7] (.inl a :: st) M ↔ uX8_firstBy R 21 [x0, x1, x2, x3, some (.inl y), some (.inl a), x6, x7] st M := Iff.trans (zU_step dX8_firstBy_19 (Or.inl rfl)) ⟨fun h => h.2, fun h => ⟨show 5 < 8 by decide, h⟩⟩
theorem rX8_firstBy_19z {R : zP} {x0 x1 x2 x3 x4 x5 x6 x7 : Option zV} {st : List zV} {M : zM} {a : Int} : uX8_firstBy R 19 [x0, x1, x2, x3, x4, x5, x6, x7] (.inl a :: st) M ↔ uX8_firstBy R 21 [x0, x1, x2, x3, zkeep x4, some (.inl a), x6, x7] st M := Iff.trans (zU_step dX8_firstBy_19 (Or.inl rfl)) ⟨fun h => h.2, fun h => ⟨show 5 < 8 by decide, h⟩⟩
theorem dX8_firstBy_21 : decode cX8_firstBy 21 = .ok (.iconst 0, 1) := by decide +kernel
theorem rX8_firstBy_21 {R : zP} {x0 x1 x2 x3 x4 x5 x6 x7 : Option zV} {st : List zV} {M : zM} : uX8_firstBy R 21 [x0, x1, x2, x3, x4, x5, x6, x7] st M ↔ uX8_firstBy R 22 [x0, x1, x2, x3, x4, x5, x6, x7] (.inl (0) :: st) M := zU_step dX8_firstBy_21 (Or.inl rfl)
theorem dX8_firstBy_22 : decode cX8_firstBy 22 = .ok (.istore 6, 2) := by decide +kernel
theorem rX8_firstBy_22 {R : zP} {x0 x1 x2 x3 x4 x6 x7 : Option zV} {st : List zV} {M : zM} {a : Int} {y : Int} : uX8_firstBy R 22 [x0, x1, x2, x3, x4, some (.inl y), x6, x7] (.inl a :: st) M ↔ uX8_firstBy R 24 [x0, x1, x2, x3, x4, some (.inl y), some (.inl a), x7] st M := Iff.trans (zU_step dX8_firstBy_22 (Or.inl rfl)) ⟨fun h => h.2, fun h => ⟨show 6 < 8 by decide, h⟩⟩
theorem rX8_firstBy_22z {R : zP} {x0 x1 x2 x3 x4 x5 x6 x7 : Option zV} {st : List zV} {M : zM} {a : Int} : uX8_firstBy R 22 [x0, x1, x2, x3, x4, x5, x6, x7] (.inl a :: st) M ↔ uX8_firstBy R 24 [x0, x1, x2, x3, x4, zkeep x5, some (.inl a), x7] st M := Iff.trans (zU_step dX8_firstBy_22 (Or.inl rfl)) ⟨fun h => h.2, fun h => ⟨show 6 < 8 by decide, h⟩⟩
theorem dX8_firstBy_24 : decode cX8_firstBy 24 = .ok (.iload 6, 2) := by decide +kernel
theorem rX8_firstBy_24 {R : zP} {x0 x1 x2 x3 x4 x5 x7 : Option zV} {st : List zV} {M : zM} {a : Int} : uX8_firstBy R 24 [x0, x1, x2, x3, x4, x5, some (.inl a), x7] st M ↔ uX8_firstBy R 26 [x0, x1, x2, x3, x4, x5, some (.inl a), x7] (.inl a :: st) M := zU_step dX8_firstBy_24 (Or.inl rfl)
theorem dX8_firstBy_26 : decode cX8_firstBy 26 = .ok (.bipush 10, 2) := by decide +kernel
theorem rX8_firstBy_26 {R : zP} {x0 x1 x2 x3 x4 x5 x6 x7 : Option zV} {st : List zV} {M : zM} : uX8_firstBy R 26 [x0, x1, x2, x3, x4, x5, x6, x7] st M ↔ uX8_firstBy R 28 [x0, x1, x2, x3, x4, x5, x6, x7] (.inl (10) :: st) M := Iff.trans (zU_step dX8_firstBy_26 (Or.inl rfl)) ⟨fun h => h.2, fun h => ⟨by decide, h⟩⟩
theorem dX8_firstBy_28 : decode cX8_firstBy 28 = .ok (.if_icmp .ge 78, 3) := by decide +kernel
theorem rX8_firstBy_28 {R : zP} {x0 x1 x2 x3 x4 x5 x6 x7 : Option zV} {st : List zV} {M : zM} {a b : Int} : uX8_firstBy R 28 [x0, x1, x2, x3, x4, x5, x6, x7] (.inl b :: .inl a :: st) M ↔ ((zIR a ∧ zIR b) ∧ if b ≤ a then uX8_firstBy R 106 [x0, x1, x2, x3, x4, x5, x6, x7] st M else uX8_firstBy R 31 [x0, x1, x2, x3, x4, x5, x6, x7] st M) := Iff.trans (zU_step dX8_firstBy_28 (Or.inl rfl)) ⟨fun h => ⟨⟨h.1.1, h.1.2.1⟩, (zite (c := b ≤ a)).mpr h.2⟩, fun h => ⟨⟨h.1.1, h.1.2, by decide⟩, (zite (c := b ≤ a)).mp h.2⟩⟩
theorem dX8_firstBy_31 : decode cX8_firstBy 31 = .ok (.aload_n 0, 1) := by decide +kernel
theorem rX8_firstBy_31 {R : zP} {x1 x2 x3 x4 x5 x6 x7 : Option zV} {st : List zV} {M : zM} {a : Nat} : uX8_firstBy R 31 [some (.inr (.inr a)), x1, x2, x3, x4, x5, x6, x7] st M ↔ uX8_firstBy R 32 [some (.inr (.inr a)), x1, x2, x3, x4, x5, x6, x7] (.inr (.inr a) :: st) M := zU_step dX8_firstBy_31 (Or.inl rfl)
theorem dX8_firstBy_32 : decode cX8_firstBy 32 = .ok (.getfield 19, 3) := by decide +kernel
theorem rX8_firstBy_32 {R : zP} {x0 x1 x2 x3 x4 x5 x6 x7 : Option zV} {st : List zV} {M : zM} {r : Nat} : uX8_firstBy R 32 [x0, x1, x2, x3, x4, x5, x6, x7] (.inr (.inr r) :: st) M ↔ zgetx fX8 19 r M (fun v => uX8_firstBy R 35 [x0, x1, x2, x3, x4, x5, x6, x7] (v :: st) M) := zU_step dX8_firstBy_32 (Or.inl rfl)
theorem dX8_firstBy_35 : decode cX8_firstBy 35 = .ok (.iload_n 3, 1) := by decide +kernel
theorem rX8_firstBy_35 {R : zP} {x0 x1 x2 x4 x5 x6 x7 : Option zV} {st : List zV} {M : zM} {a : Int} : uX8_firstBy R 35 [x0, x1, x2, some (.inl a), x4, x5, x6, x7] st M ↔ uX8_firstBy R 36 [x0, x1, x2, some (.inl a), x4, x5, x6, x7] (.inl a :: st) M := zU_step dX8_firstBy_35 (Or.inl rfl)
theorem dX8_firstBy_36 : decode cX8_firstBy 36 = .ok (.iload 6, 2) := by decide +kernel
theorem rX8_firstBy_36 {R : zP} {x0 x1 x2 x3 x4 x5 x7 : Option zV} {st : List zV} {M : zM} {a : Int} : uX8_firstBy R 36 [x0, x1, x2, x3, x4, x5, some (.inl a), x7] st M ↔ uX8_firstBy R 38 [x0, x1, x2, x3, x4, x5, some (.inl a), x7] (.inl a :: st) M := zU_step dX8_firstBy_36 (Or.inl rfl)
theorem dX8_firstBy_38 : decode cX8_firstBy 38 = .ok (.iastore, 1) := by decide +kernel
theorem rX8_firstBy_38 {R : zP} {x0 x1 x2 x3 x4 x5 x6 x7 : Option zV} {st : List zV} {M : zM} {i v : Int} {r : Nat} : uX8_firstBy R 38 [x0, x1, x2, x3, x4, x5, x6, x7] (.inl v :: .inl i :: .inr (.inr r) :: st) M ↔ zwrite 0 r i (uX8_firstBy R 39 [x0, x1, x2, x3, x4, x5, x6, x7] st (zup M r i v)) := zU_step dX8_firstBy_38 (Or.inl rfl)
theorem dX8_firstBy_39 : decode cX8_firstBy 39 = .ok (.iload 5, 2) := by decide +kernel
theorem rX8_firstBy_39 {R : zP} {x0 x1 x2 x3 x4 x6 x7 : Option zV} {st : List zV} {M : zM} {a : Int} : uX8_firstBy R 39 [x0, x1, x2, x3, x4, some (.inl a), x6, x7] st M ↔ uX8_firstBy R 41 [x0, x1, x2, x3, x4, some (.inl a), x6, x7] (.inl a :: st) M := zU_step dX8_firstBy_39 (Or.inl rfl)
theorem dX8_firstBy_41 : decode cX8_firstBy 41 = .ok (.aload_n 0, 1) := by decide +kernel
theorem rX8_firstBy_41 {R : zP} {x1 x2 x3 x4 x5 x6 x7 : Option zV} {st : List zV} {M : zM} {a : Nat} : uX8_firstBy R 41 [some (.inr (.inr a)), x1, x2, x3, x4, x5, x6, x7] st M ↔ uX8_firstBy R 42 [some (.inr (.inr a)), x1, x2, x3, x4, x5, x6, x7] (.inr (.inr a) :: st) M := zU_step dX8_firstBy_41 (Or.inl rfl)
theorem dX8_firstBy_42 : decode cX8_firstBy 42 = .ok (.invokevirtual 293, 3) := by decide +kernel
theorem rX8_firstBy_42 {R : zP} {x0 x1 x2 x3 x4 x5 x6 x7 : Option zV} {st : List zV} {M : zM} {a0 : zV} : uX8_firstBy R 42 [x0, x1, x2, x3, x4, x5, x6, x7] (a0 :: st) M ↔ (st.length ≤ 4 ∧ zcv (zv 8 tX8_isSeen) [a0] M (fun v M => uX8_firstBy R 45 [x0, x1, x2, x3, x4, x5, x6, x7] (v :: st) M)) := Iff.trans (zU_step dX8_firstBy_42 (Or.inl rfl)) ⟨fun h => ⟨h.2.1, zcv_of h.2.2⟩, fun h => ⟨rfl, h.1, zcv_to h.2⟩⟩
theorem dX8_firstBy_45 : decode cX8_firstBy 45 = .ok (.ifCond .eq 10, 3) := by decide +kernel
theorem rX8_firstBy_45 {R : zP} {x0 x1 x2 x3 x4 x5 x6 x7 : Option zV} {st : List zV} {M : zM} {a : Int} : uX8_firstBy R 45 [x0, x1, x2, x3, x4, x5, x6, x7] (.inl a :: st) M ↔ (zIR a ∧ if a = 0 then uX8_firstBy R 55 [x0, x1, x2, x3, x4, x5, x6, x7] st M else uX8_firstBy R 48 [x0, x1, x2, x3, x4, x5, x6, x7] st M) := Iff.trans (zU_step dX8_firstBy_45 (Or.inl rfl)) ⟨fun h => ⟨h.1.1, (zite (c := a = 0)).mpr h.2⟩, fun h => ⟨⟨h.1, by decide⟩, (zite (c := a = 0)).mp h.2⟩⟩
theorem dX8_firstBy_48 : decode cX8_firstBy 48 = .ok (.iconst 1, 1) := by decide +kernel
theorem rX8_firstBy_48 {R : zP} {x0 x1 x2 x3 x4 x5 x6 x7 : Option zV} {st : List zV} {M : zM} : uX8_firstBy R 48 [x0, x1, x2, x3, x4, x5, x6, x7] st M ↔ uX8_firstBy R 49 [x0, x1, x2, x3, x4, x5, x6, x7] (.inl (1) :: st) M := zU_step dX8_firstBy_48 (Or.inl rfl)
theorem dX8_firstBy_49 : decode cX8_firstBy 49 = .ok (.iload 6, 2) := by decide +kernel
theorem rX8_firstBy_49 {R : zP} {x0 x1 x2 x3 x4 x5 x7 : Option zV} {st : List zV} {M : zM} {a : Int} : uX8_firstBy R 49 [x0, x1, x2, x3, x4, x5, some (.inl a), x7] st M ↔ uX8_firstBy R 51 [x0, x1, x2, x3, x4, x5, some (.inl a), x7] (.inl a :: st) M := zU_step dX8_firstBy_49 (Or.inl rfl)
theorem dX8_firstBy_51 : decode cX8_firstBy 51 = .ok (.ishl, 1) := by decide +kernel
theorem rX8_firstBy_51 {R : zP} {x0 x1 x2 x3 x4 x5 x6 x7 : Option zV} {st : List zV} {M : zM} {a b : Int} : uX8_firstBy R 51 [x0, x1, x2, x3, x4, x5, x6, x7] (.inl b :: .inl a :: st) M ↔ uX8_firstBy R 52 [x0, x1, x2, x3, x4, x5, x6, x7] (.inl (zshl a b) :: st) M := zU_step dX8_firstBy_51 (Or.inl rfl)
theorem dX8_firstBy_52 : decode cX8_firstBy 52 = .ok (.goto 4, 3) := by decide +kernel
theorem rX8_firstBy_52 {R : zP} {x0 x1 x2 x3 x4 x5 x6 x7 : Option zV} {st : List zV} {M : zM} : uX8_firstBy R 52 [x0, x1, x2, x3, x4, x5, x6, x7] st M ↔ uX8_firstBy R 56 [x0, x1, x2, x3, x4, x5, x6, x7] st M := Iff.trans (zU_step dX8_firstBy_52 (Or.inl rfl)) ⟨fun h => h.2, fun h => ⟨by decide, h⟩⟩
theorem dX8_firstBy_55 : decode cX8_firstBy 55 = .ok (.iconst 0, 1) := by decide +kernel
theorem rX8_firstBy_55 {R : zP} {x0 x1 x2 x3 x4 x5 x6 x7 : Option zV} {st : List zV} {M : zM} : uX8_firstBy R 55 [x0, x1, x2, x3, x4, x5, x6, x7] st M ↔ uX8_firstBy R 56 [x0, x1, x2, x3, x4, x5, x6, x7] (.inl (0) :: st) M := zU_step dX8_firstBy_55 (Or.inl rfl)
theorem dX8_firstBy_56 : decode cX8_firstBy 56 = .ok (.ior, 1) := by decide +kernel
theorem rX8_firstBy_56 {R : zP} {x0 x1 x2 x3 x4 x5 x6 x7 : Option zV} {st : List zV} {M : zM} {a b : Int} : uX8_firstBy R 56 [x0, x1, x2, x3, x4, x5, x6, x7] (.inl b :: .inl a :: st) M ↔ uX8_firstBy R 57 [x0, x1, x2, x3, x4, x5, x6, x7] (.inl (zor a b) :: st) M := zU_step dX8_firstBy_56 (Or.inl rfl)
theorem dX8_firstBy_57 : decode cX8_firstBy 57 = .ok (.istore 5, 2) := by decide +kernel
theorem rX8_firstBy_57 {R : zP} {x0 x1 x2 x3 x5 x6 x7 : Option zV} {st : List zV} {M : zM} {a : Int} {y : Int} : uX8_firstBy R 57 [x0, x1, x2, x3, some (.inl y), x5, x6, x7] (.inl a :: st) M ↔ uX8_firstBy R 59 [x0, x1, x2, x3, some (.inl y), some (.inl a), x6, x7] st M := Iff.trans (zU_step dX8_firstBy_57 (Or.inl rfl)) ⟨fun h => h.2, fun h => ⟨show 5 < 8 by decide, h⟩⟩
theorem rX8_firstBy_57z {R : zP} {x0 x1 x2 x3 x4 x5 x6 x7 : Option zV} {st : List zV} {M : zM} {a : Int} : uX8_firstBy R 57 [x0, x1, x2, x3, x4, x5, x6, x7] (.inl a :: st) M ↔ uX8_firstBy R 59 [x0, x1, x2, x3, zkeep x4, some (.inl a), x6, x7] st M := Iff.trans (zU_step dX8_firstBy_57 (Or.inl rfl)) ⟨fun h => h.2, fun h => ⟨show 5 < 8 by decide, h⟩⟩
theorem dX8_firstBy_59 : decode cX8_firstBy 59 = .ok (.iconst 0, 1) := by decide +kernel
theorem rX8_firstBy_59 {R : zP} {x0 x1 x2 x3 x4 x5 x6 x7 : Option zV} {st : List zV} {M : zM} : uX8_firstBy R 59 [x0, x1, x2, x3, x4, x5, x6, x7] st M ↔ uX8_firstBy R 60 [x0, x1, x2, x3, x4, x5, x6, x7] (.inl (0) :: st) M := zU_step dX8_firstBy_59 (Or.inl rfl)
theorem dX8_firstBy_60 : decode cX8_firstBy 60 = .ok (.istore 7, 2) := by decide +kernel
theorem rX8_firstBy_60 {R : zP} {x0 x1 x2 x3 x4 x5 x7 : Option zV} {st : List zV} {M : zM} {a : Int} {y : Int} : uX8_firstBy R 60 [x0, x1, x2, x3, x4, x5, some (.inl y), x7] (.inl a :: st) M ↔ uX8_firstBy R 62 [x0, x1, x2, x3, x4, x5, some (.inl y), some (.inl a)] st M := Iff.trans (zU_step dX8_firstBy_60 (Or.inl rfl)) ⟨fun h => h.2, fun h => ⟨show 7 < 8 by decide, h⟩⟩
theorem rX8_firstBy_60z {R : zP} {x0 x1 x2 x3 x4 x5 x6 x7 : Option zV} {st : List zV} {M : zM} {a : Int} : uX8_firstBy R 60 [x0, x1, x2, x3, x4, x5, x6, x7] (.inl a :: st) M ↔ uX8_firstBy R 62 [x0, x1, x2, x3, x4, x5, zkeep x6, some (.inl a)] st M := Iff.trans (zU_step dX8_firstBy_60 (Or.inl rfl)) ⟨fun h => h.2, fun h => ⟨show 7 < 8 by decide, h⟩⟩
theorem dX8_firstBy_62 : decode cX8_firstBy 62 = .ok (.iload 7, 2) := by decide +kernel
theorem rX8_firstBy_62 {R : zP} {x0 x1 x2 x3 x4 x5 x6 : Option zV} {st : List zV} {M : zM} {a : Int} : uX8_firstBy R 62 [x0, x1, x2, x3, x4, x5, x6, some (.inl a)] st M ↔ uX8_firstBy R 64 [x0, x1, x2, x3, x4, x5, x6, some (.inl a)] (.inl a :: st) M := zU_step dX8_firstBy_62 (Or.inl rfl)
theorem dX8_firstBy_64 : decode cX8_firstBy 64 = .ok (.bipush 20, 2) := by decide +kernel
theorem rX8_firstBy_64 {R : zP} {x0 x1 x2 x3 x4 x5 x6 x7 : Option zV} {st : List zV} {M : zM} : uX8_firstBy R 64 [x0, x1, x2, x3, x4, x5, x6, x7] st M ↔ uX8_firstBy R 66 [x0, x1, x2, x3, x4, x5, x6, x7] (.inl (20) :: st) M := Iff.trans (zU_step dX8_firstBy_64 (Or.inl rfl)) ⟨fun h => h.2, fun h => ⟨by decide, h⟩⟩
theorem dX8_firstBy_66 : decode cX8_firstBy 66 = .ok (.if_icmp .ge 34, 3) := by decide +kernel
theorem rX8_firstBy_66 {R : zP} {x0 x1 x2 x3 x4 x5 x6 x7 : Option zV} {st : List zV} {M : zM} {a b : Int} : uX8_firstBy R 66 [x0, x1, x2, x3, x4, x5, x6, x7] (.inl b :: .inl a :: st) M ↔ ((zIR a ∧ zIR b) ∧ if b ≤ a then uX8_firstBy R 100 [x0, x1, x2, x3, x4, x5, x6, x7] st M else uX8_firstBy R 69 [x0, x1, x2, x3, x4, x5, x6, x7] st M) := Iff.trans (zU_step dX8_firstBy_66 (Or.inl rfl)) ⟨fun h => ⟨⟨h.1.1, h.1.2.1⟩, (zite (c := b ≤ a)).mpr h.2⟩, fun h => ⟨⟨h.1.1, h.1.2, by decide⟩, (zite (c := b ≤ a)).mp h.2⟩⟩
theorem dX8_firstBy_69 : decode cX8_firstBy 69 = .ok (.aload_n 0, 1) := by decide +kernel
theorem rX8_firstBy_69 {R : zP} {x1 x2 x3 x4 x5 x6 x7 : Option zV} {st : List zV} {M : zM} {a : Nat} : uX8_firstBy R 69 [some (.inr (.inr a)), x1, x2, x3, x4, x5, x6, x7] st M ↔ uX8_firstBy R 70 [some (.inr (.inr a)), x1, x2, x3, x4, x5, x6, x7] (.inr (.inr a) :: st) M := zU_step dX8_firstBy_69 (Or.inl rfl)
theorem dX8_firstBy_70 : decode cX8_firstBy 70 = .ok (.getfield 91, 3) := by decide +kernel
theorem rX8_firstBy_70 {R : zP} {x0 x1 x2 x3 x4 x5 x6 x7 : Option zV} {st : List zV} {M : zM} {r : Nat} : uX8_firstBy R 70 [x0, x1, x2, x3, x4, x5, x6, x7] (.inr (.inr r) :: st) M ↔ zgetx fX8 91 r M (fun v => uX8_firstBy R 73 [x0, x1, x2, x3, x4, x5, x6, x7] (v :: st) M) := zU_step dX8_firstBy_70 (Or.inl rfl)
theorem dX8_firstBy_73 : decode cX8_firstBy 73 = .ok (.bipush 20, 2) := by decide +kernel
theorem rX8_firstBy_73 {R : zP} {x0 x1 x2 x3 x4 x5 x6 x7 : Option zV} {st : List zV} {M : zM} : uX8_firstBy R 73 [x0, x1, x2, x3, x4, x5, x6, x7] st M ↔ uX8_firstBy R 75 [x0, x1, x2, x3, x4, x5, x6, x7] (.inl (20) :: st) M := Iff.trans (zU_step dX8_firstBy_73 (Or.inl rfl)) ⟨fun h => h.2, fun h => ⟨by decide, h⟩⟩
theorem dX8_firstBy_75 : decode cX8_firstBy 75 = .ok (.iload 6, 2) := by decide +kernel
theorem rX8_firstBy_75 {R : zP} {x0 x1 x2 x3 x4 x5 x7 : Option zV} {st : List zV} {M : zM} {a : Int} : uX8_firstBy R 75 [x0, x1, x2, x3, x4, x5, some (.inl a), x7] st M ↔ uX8_firstBy R 77 [x0, x1, x2, x3, x4, x5, some (.inl a), x7] (.inl a :: st) M := zU_step dX8_firstBy_75 (Or.inl rfl)
theorem dX8_firstBy_77 : decode cX8_firstBy 77 = .ok (.imul, 1) := by decide +kernel
theorem rX8_firstBy_77 {R : zP} {x0 x1 x2 x3 x4 x5 x6 x7 : Option zV} {st : List zV} {M : zM} {a b : Int} : uX8_firstBy R 77 [x0, x1, x2, x3, x4, x5, x6, x7] (.inl b :: .inl a :: st) M ↔ uX8_firstBy R 78 [x0, x1, x2, x3, x4, x5, x6, x7] (.inl (a * b) :: st) M := zU_step dX8_firstBy_77 (Or.inl rfl)
theorem dX8_firstBy_78 : decode cX8_firstBy 78 = .ok (.iload 7, 2) := by decide +kernel
theorem rX8_firstBy_78 {R : zP} {x0 x1 x2 x3 x4 x5 x6 : Option zV} {st : List zV} {M : zM} {a : Int} : uX8_firstBy R 78 [x0, x1, x2, x3, x4, x5, x6, some (.inl a)] st M ↔ uX8_firstBy R 80 [x0, x1, x2, x3, x4, x5, x6, some (.inl a)] (.inl a :: st) M := zU_step dX8_firstBy_78 (Or.inl rfl)
theorem dX8_firstBy_80 : decode cX8_firstBy 80 = .ok (.iadd, 1) := by decide +kernel
theorem rX8_firstBy_80 {R : zP} {x0 x1 x2 x3 x4 x5 x6 x7 : Option zV} {st : List zV} {M : zM} {a b : Int} : uX8_firstBy R 80 [x0, x1, x2, x3, x4, x5, x6, x7] (.inl b :: .inl a :: st) M ↔ uX8_firstBy R 81 [x0, x1, x2, x3, x4, x5, x6, x7] (.inl (a + b) :: st) M := zU_step dX8_firstBy_80 (Or.inl rfl)
theorem dX8_firstBy_81 : decode cX8_firstBy 81 = .ok (.aload_n 0, 1) := by decide +kernel
theorem rX8_firstBy_81 {R : zP} {x1 x2 x3 x4 x5 x6 x7 : Option zV} {st : List zV} {M : zM} {a : Nat} : uX8_firstBy R 81 [some (.inr (.inr a)), x1, x2, x3, x4, x5, x6, x7] st M ↔ uX8_firstBy R 82 [some (.inr (.inr a)), x1, x2, x3, x4, x5, x6, x7] (.inr (.inr a) :: st) M := zU_step dX8_firstBy_81 (Or.inl rfl)
theorem dX8_firstBy_82 : decode cX8_firstBy 82 = .ok (.getfield 61, 3) := by decide +kernel
theorem rX8_firstBy_82 {R : zP} {x0 x1 x2 x3 x4 x5 x6 x7 : Option zV} {st : List zV} {M : zM} {r : Nat} : uX8_firstBy R 82 [x0, x1, x2, x3, x4, x5, x6, x7] (.inr (.inr r) :: st) M ↔ zgetx fX8 61 r M (fun v => uX8_firstBy R 85 [x0, x1, x2, x3, x4, x5, x6, x7] (v :: st) M) := zU_step dX8_firstBy_82 (Or.inl rfl)
theorem dX8_firstBy_85 : decode cX8_firstBy 85 = .ok (.bipush 32, 2) := by decide +kernel
theorem rX8_firstBy_85 {R : zP} {x0 x1 x2 x3 x4 x5 x6 x7 : Option zV} {st : List zV} {M : zM} : uX8_firstBy R 85 [x0, x1, x2, x3, x4, x5, x6, x7] st M ↔ uX8_firstBy R 87 [x0, x1, x2, x3, x4, x5, x6, x7] (.inl (32) :: st) M := Iff.trans (zU_step dX8_firstBy_85 (Or.inl rfl)) ⟨fun h => h.2, fun h => ⟨by decide, h⟩⟩
theorem dX8_firstBy_87 : decode cX8_firstBy 87 = .ok (.iload 7, 2) := by decide +kernel
theorem rX8_firstBy_87 {R : zP} {x0 x1 x2 x3 x4 x5 x6 : Option zV} {st : List zV} {M : zM} {a : Int} : uX8_firstBy R 87 [x0, x1, x2, x3, x4, x5, x6, some (.inl a)] st M ↔ uX8_firstBy R 89 [x0, x1, x2, x3, x4, x5, x6, some (.inl a)] (.inl a :: st) M := zU_step dX8_firstBy_87 (Or.inl rfl)
theorem dX8_firstBy_89 : decode cX8_firstBy 89 = .ok (.imul, 1) := by decide +kernel
theorem rX8_firstBy_89 {R : zP} {x0 x1 x2 x3 x4 x5 x6 x7 : Option zV} {st : List zV} {M : zM} {a b : Int} : uX8_firstBy R 89 [x0, x1, x2, x3, x4, x5, x6, x7] (.inl b :: .inl a :: st) M ↔ uX8_firstBy R 90 [x0, x1, x2, x3, x4, x5, x6, x7] (.inl (a * b) :: st) M := zU_step dX8_firstBy_89 (Or.inl rfl)
theorem dX8_firstBy_90 : decode cX8_firstBy 90 = .ok (.iload_n 3, 1) := by decide +kernel
theorem rX8_firstBy_90 {R : zP} {x0 x1 x2 x4 x5 x6 x7 : Option zV} {st : List zV} {M : zM} {a : Int} : uX8_firstBy R 90 [x0, x1, x2, some (.inl a), x4, x5, x6, x7] st M ↔ uX8_firstBy R 91 [x0, x1, x2, some (.inl a), x4, x5, x6, x7] (.inl a :: st) M := zU_step dX8_firstBy_90 (Or.inl rfl)
theorem dX8_firstBy_91 : decode cX8_firstBy 91 = .ok (.iadd, 1) := by decide +kernel
theorem rX8_firstBy_91 {R : zP} {x0 x1 x2 x3 x4 x5 x6 x7 : Option zV} {st : List zV} {M : zM} {a b : Int} : uX8_firstBy R 91 [x0, x1, x2, x3, x4, x5, x6, x7] (.inl b :: .inl a :: st) M ↔ uX8_firstBy R 92 [x0, x1, x2, x3, x4, x5, x6, x7] (.inl (a + b) :: st) M := zU_step dX8_firstBy_91 (Or.inl rfl)
theorem dX8_firstBy_92 : decode cX8_firstBy 92 = .ok (.iaload, 1) := by decide +kernel
theorem rX8_firstBy_92 {R : zP} {x0 x1 x2 x3 x4 x5 x6 x7 : Option zV} {st : List zV} {M : zM} {i : Int} {r : Nat} : uX8_firstBy R 92 [x0, x1, x2, x3, x4, x5, x6, x7] (.inl i :: .inr (.inr r) :: st) M ↔ zread fX8 0 r M i (fun v => uX8_firstBy R 93 [x0, x1, x2, x3, x4, x5, x6, x7] (.inl v :: st) M) := zU_step dX8_firstBy_92 (Or.inl rfl)
theorem dX8_firstBy_93 : decode cX8_firstBy 93 = .ok (.iastore, 1) := by decide +kernel
theorem rX8_firstBy_93 {R : zP} {x0 x1 x2 x3 x4 x5 x6 x7 : Option zV} {st : List zV} {M : zM} {i v : Int} {r : Nat} : uX8_firstBy R 93 [x0, x1, x2, x3, x4, x5, x6, x7] (.inl v :: .inl i :: .inr (.inr r) :: st) M ↔ zwrite 0 r i (uX8_firstBy R 94 [x0, x1, x2, x3, x4, x5, x6, x7] st (zup M r i v)) := zU_step dX8_firstBy_93 (Or.inl rfl)
theorem dX8_firstBy_94 : decode cX8_firstBy 94 = .ok (.iinc 7 1, 3) := by decide +kernel
theorem rX8_firstBy_94 {R : zP} {x0 x1 x2 x3 x4 x5 : Option zV} {st : List zV} {M : zM} {a : Int} {y : Int} : uX8_firstBy R 94 [x0, x1, x2, x3, x4, x5, some (.inl y), some (.inl a)] st M ↔ uX8_firstBy R 97 [x0, x1, x2, x3, x4, x5, some (.inl y), some (.inl (a + (1)))] st M := Iff.trans (zU_step dX8_firstBy_94 (Or.inl rfl)) ⟨fun h => h.2, fun h => ⟨show 7 < 8 by decide, h⟩⟩
theorem rX8_firstBy_94z {R : zP} {x0 x1 x2 x3 x4 x5 x6 : Option zV} {st : List zV} {M : zM} {a : Int} : uX8_firstBy R 94 [x0, x1, x2, x3, x4, x5, x6, some (.inl a)] st M ↔ uX8_firstBy R 97 [x0, x1, x2, x3, x4, x5, zkeep x6, some (.inl (a + (1)))] st M := Iff.trans (zU_step dX8_firstBy_94 (Or.inl rfl)) ⟨fun h => h.2, fun h => ⟨show 7 < 8 by decide, h⟩⟩
theorem dX8_firstBy_97 : decode cX8_firstBy 97 = .ok (.goto (-35), 3) := by decide +kernel
theorem rX8_firstBy_97 {R : zP} {x0 x1 x2 x3 x4 x5 x6 x7 : Option zV} {st : List zV} {M : zM} : uX8_firstBy R 97 [x0, x1, x2, x3, x4, x5, x6, x7] st M ↔ uX8_firstBy R 62 [x0, x1, x2, x3, x4, x5, x6, x7] st M := Iff.trans (zU_step dX8_firstBy_97 (Or.inl rfl)) ⟨fun h => h.2, fun h => ⟨by decide, h⟩⟩
theorem dX8_firstBy_100 : decode cX8_firstBy 100 = .ok (.iinc 6 1, 3) := by decide +kernel
theorem rX8_firstBy_100 {R : zP} {x0 x1 x2 x3 x4 x7 : Option zV} {st : List zV} {M : zM} {a : Int} {y : Int} : uX8_firstBy R 100 [x0, x1, x2, x3, x4, some (.inl y), some (.inl a), x7] st M ↔ uX8_firstBy R 103 [x0, x1, x2, x3, x4, some (.inl y), some (.inl (a + (1))), x7] st M := Iff.trans (zU_step dX8_firstBy_100 (Or.inl rfl)) ⟨fun h => h.2, fun h => ⟨show 6 < 8 by decide, h⟩⟩
theorem rX8_firstBy_100z {R : zP} {x0 x1 x2 x3 x4 x5 x7 : Option zV} {st : List zV} {M : zM} {a : Int} : uX8_firstBy R 100 [x0, x1, x2, x3, x4, x5, some (.inl a), x7] st M ↔ uX8_firstBy R 103 [x0, x1, x2, x3, x4, zkeep x5, some (.inl (a + (1))), x7] st M := Iff.trans (zU_step dX8_firstBy_100 (Or.inl rfl)) ⟨fun h => h.2, fun h => ⟨show 6 < 8 by decide, h⟩⟩
theorem dX8_firstBy_103 : decode cX8_firstBy 103 = .ok (.goto (-79), 3) := by decide +kernel
theorem rX8_firstBy_103 {R : zP} {x0 x1 x2 x3 x4 x5 x6 x7 : Option zV} {st : List zV} {M : zM} : uX8_firstBy R 103 [x0, x1, x2, x3, x4, x5, x6, x7] st M ↔ uX8_firstBy R 24 [x0, x1, x2, x3, x4, x5, x6, x7] st M := Iff.trans (zU_step dX8_firstBy_103 (Or.inl rfl)) ⟨fun h => h.2, fun h => ⟨by decide, h⟩⟩
theorem dX8_firstBy_106 : decode cX8_firstBy 106 = .ok (.aload_n 0, 1) := by decide +kernel
theorem rX8_firstBy_106 {R : zP} {x1 x2 x3 x4 x5 x6 x7 : Option zV} {st : List zV} {M : zM} {a : Nat} : uX8_firstBy R 106 [some (.inr (.inr a)), x1, x2, x3, x4, x5, x6, x7] st M ↔ uX8_firstBy R 107 [some (.inr (.inr a)), x1, x2, x3, x4, x5, x6, x7] (.inr (.inr a) :: st) M := zU_step dX8_firstBy_106 (Or.inl rfl)
theorem dX8_firstBy_107 : decode cX8_firstBy 107 = .ok (.getfield 19, 3) := by decide +kernel
theorem rX8_firstBy_107 {R : zP} {x0 x1 x2 x3 x4 x5 x6 x7 : Option zV} {st : List zV} {M : zM} {r : Nat} : uX8_firstBy R 107 [x0, x1, x2, x3, x4, x5, x6, x7] (.inr (.inr r) :: st) M ↔ zgetx fX8 19 r M (fun v => uX8_firstBy R 110 [x0, x1, x2, x3, x4, x5, x6, x7] (v :: st) M) := zU_step dX8_firstBy_107 (Or.inl rfl)
theorem dX8_firstBy_110 : decode cX8_firstBy 110 = .ok (.iload_n 3, 1) := by decide +kernel
theorem rX8_firstBy_110 {R : zP} {x0 x1 x2 x4 x5 x6 x7 : Option zV} {st : List zV} {M : zM} {a : Int} : uX8_firstBy R 110 [x0, x1, x2, some (.inl a), x4, x5, x6, x7] st M ↔ uX8_firstBy R 111 [x0, x1, x2, some (.inl a), x4, x5, x6, x7] (.inl a :: st) M := zU_step dX8_firstBy_110 (Or.inl rfl)
theorem dX8_firstBy_111 : decode cX8_firstBy 111 = .ok (.iload 4, 2) := by decide +kernel
theorem rX8_firstBy_111 {R : zP} {x0 x1 x2 x3 x5 x6 x7 : Option zV} {st : List zV} {M : zM} {a : Int} : uX8_firstBy R 111 [x0, x1, x2, x3, some (.inl a), x5, x6, x7] st M ↔ uX8_firstBy R 113 [x0, x1, x2, x3, some (.inl a), x5, x6, x7] (.inl a :: st) M := zU_step dX8_firstBy_111 (Or.inl rfl)
theorem dX8_firstBy_113 : decode cX8_firstBy 113 = .ok (.iastore, 1) := by decide +kernel
theorem rX8_firstBy_113 {R : zP} {x0 x1 x2 x3 x4 x5 x6 x7 : Option zV} {st : List zV} {M : zM} {i v : Int} {r : Nat} : uX8_firstBy R 113 [x0, x1, x2, x3, x4, x5, x6, x7] (.inl v :: .inl i :: .inr (.inr r) :: st) M ↔ zwrite 0 r i (uX8_firstBy R 114 [x0, x1, x2, x3, x4, x5, x6, x7] st (zup M r i v)) := zU_step dX8_firstBy_113 (Or.inl rfl)
theorem dX8_firstBy_114 : decode cX8_firstBy 114 = .ok (.iload 5, 2) := by decide +kernel
theorem rX8_firstBy_114 {R : zP} {x0 x1 x2 x3 x4 x6 x7 : Option zV} {st : List zV} {M : zM} {a : Int} : uX8_firstBy R 114 [x0, x1, x2, x3, x4, some (.inl a), x6, x7] st M ↔ uX8_firstBy R 116 [x0, x1, x2, x3, x4, some (.inl a), x6, x7] (.inl a :: st) M := zU_step dX8_firstBy_114 (Or.inl rfl)
theorem dX8_firstBy_116 : decode cX8_firstBy 116 = .ok (.ireturn, 1) := by decide +kernel
theorem rX8_firstBy_116 {R : zP} {x0 x1 x2 x3 x4 x5 x6 x7 : Option zV} {M : zM} {a : Int} : uX8_firstBy R 116 [x0, x1, x2, x3, x4, x5, x6, x7] [.inl a] M ↔ R (some (.inl a)) M := Iff.trans (zU_step dX8_firstBy_116 (Or.inl rfl)) ⟨fun h => h.2.2, fun h => ⟨rfl, Or.inl rfl, h⟩⟩
theorem eX8_firstBy {R : zP} {M : zM} {a0 : Nat} {p0 : Int} {p1 : Int} : tX8_firstBy [.inr (.inr a0), .inl p0, .inl p1] M R ↔ uX8_firstBy R 0 [some (.inr (.inr a0)), some (.inl p0), some (.inl p1), none, none, none, none, none] [] M := ⟨fun h => h.2, fun h => ⟨show 3 ≤ 8 by decide, h⟩⟩
def uX8_first (R : zP) : zK := zU fX8 vX8_first cX8_first R
theorem dX8_first_0 : decode cX8_first 0 = .ok (.aload_n 0, 1) := by decide +kernel
theorem rX8_first_0 {R : zP} {x1 x2 : Option zV} {st : List zV} {M : zM} {a : Nat} : uX8_first R 0 [some (.inr (.inr a)), x1, x2] st M ↔ uX8_first R 1 [some (.inr (.inr a)), x1, x2] (.inr (.inr a) :: st) M := zU_step dX8_first_0 (Or.inl rfl)
theorem dX8_first_1 : decode cX8_first 1 = .ok (.iload_n 1, 1) := by decide +kernel
theorem rX8_first_1 {R : zP} {x0 x2 : Option zV} {st : List zV} {M : zM} {a : Int} : uX8_first R 1 [x0, some (.inl a), x2] st M ↔ uX8_first R 2 [x0, some (.inl a), x2] (.inl a :: st) M := zU_step dX8_first_1 (Or.inl rfl)
theorem dX8_first_2 : decode cX8_first 2 = .ok (.invokevirtual 148, 3) := by decide +kernel
theorem rX8_first_2 {R : zP} {x0 x1 x2 : Option zV} {st : List zV} {M : zM} {a0 a1 : zV} : uX8_first R 2 [x0, x1, x2] (a1 :: a0 :: st) M ↔ (st.length ≤ 4 ∧ zcv (zv 8 tX8_isMember) [a0, a1] M (fun v M => uX8_first R 5 [x0, x1, x2] (v :: st) M)) := Iff.trans (zU_step dX8_first_2 (Or.inl rfl)) ⟨fun h => ⟨h.2.1, zcv_of h.2.2⟩, fun h => ⟨rfl, h.1, zcv_to h.2⟩⟩
theorem dX8_first_5 : decode cX8_first 5 = .ok (.ifCond .eq 19, 3) := by decide +kernel
theorem rX8_first_5 {R : zP} {x0 x1 x2 : Option zV} {st : List zV} {M : zM} {a : Int} : uX8_first R 5 [x0, x1, x2] (.inl a :: st) M ↔ (zIR a ∧ if a = 0 then uX8_first R 24 [x0, x1, x2] st M else uX8_first R 8 [x0, x1, x2] st M) := Iff.trans (zU_step dX8_first_5 (Or.inl rfl)) ⟨fun h => ⟨h.1.1, (zite (c := a = 0)).mpr h.2⟩, fun h => ⟨⟨h.1, by decide⟩, (zite (c := a = 0)).mp h.2⟩⟩
theorem dX8_first_8 : decode cX8_first 8 = .ok (.iload_n 2, 1) := by decide +kernel
theorem rX8_first_8 {R : zP} {x0 x1 : Option zV} {st : List zV} {M : zM} {a : Int} : uX8_first R 8 [x0, x1, some (.inl a)] st M ↔ uX8_first R 9 [x0, x1, some (.inl a)] (.inl a :: st) M := zU_step dX8_first_8 (Or.inl rfl)
theorem dX8_first_9 : decode cX8_first 9 = .ok (.invokestatic 208, 3) := by decide +kernel
theorem rX8_first_9 {R : zP} {x0 x1 x2 : Option zV} {st : List zV} {M : zM} {a0 : zV} : uX8_first R 9 [x0, x1, x2] (a0 :: st) M ↔ (st.length ≤ 4 ∧ zcv tX8_isQuestion [a0] M (fun v M => uX8_first R 12 [x0, x1, x2] (v :: st) M)) := Iff.trans (zU_step dX8_first_9 (Or.inl rfl)) ⟨fun h => ⟨h.2.1, zcv_of h.2.2⟩, fun h => ⟨rfl, h.1, zcv_to h.2⟩⟩
theorem dX8_first_12 : decode cX8_first 12 = .ok (.ifCond .eq 12, 3) := by decide +kernel
theorem rX8_first_12 {R : zP} {x0 x1 x2 : Option zV} {st : List zV} {M : zM} {a : Int} : uX8_first R 12 [x0, x1, x2] (.inl a :: st) M ↔ (zIR a ∧ if a = 0 then uX8_first R 24 [x0, x1, x2] st M else uX8_first R 15 [x0, x1, x2] st M) := Iff.trans (zU_step dX8_first_12 (Or.inl rfl)) ⟨fun h => ⟨h.1.1, (zite (c := a = 0)).mpr h.2⟩, fun h => ⟨⟨h.1, by decide⟩, (zite (c := a = 0)).mp h.2⟩⟩
theorem dX8_first_15 : decode cX8_first 15 = .ok (.aload_n 0, 1) := by decide +kernel
theorem rX8_first_15 {R : zP} {x1 x2 : Option zV} {st : List zV} {M : zM} {a : Nat} : uX8_first R 15 [some (.inr (.inr a)), x1, x2] st M ↔ uX8_first R 16 [some (.inr (.inr a)), x1, x2] (.inr (.inr a) :: st) M := zU_step dX8_first_15 (Or.inl rfl)
theorem dX8_first_16 : decode cX8_first 16 = .ok (.iload_n 1, 1) := by decide +kernel
theorem rX8_first_16 {R : zP} {x0 x2 : Option zV} {st : List zV} {M : zM} {a : Int} : uX8_first R 16 [x0, some (.inl a), x2] st M ↔ uX8_first R 17 [x0, some (.inl a), x2] (.inl a :: st) M := zU_step dX8_first_16 (Or.inl rfl)
theorem dX8_first_17 : decode cX8_first 17 = .ok (.iload_n 2, 1) := by decide +kernel
theorem rX8_first_17 {R : zP} {x0 x1 : Option zV} {st : List zV} {M : zM} {a : Int} : uX8_first R 17 [x0, x1, some (.inl a)] st M ↔ uX8_first R 18 [x0, x1, some (.inl a)] (.inl a :: st) M := zU_step dX8_first_17 (Or.inl rfl)
theorem dX8_first_18 : decode cX8_first 18 = .ok (.invokevirtual 303, 3) := by decide +kernel
theorem rX8_first_18 {R : zP} {x0 x1 x2 : Option zV} {st : List zV} {M : zM} {a0 a1 a2 : zV} : uX8_first R 18 [x0, x1, x2] (a2 :: a1 :: a0 :: st) M ↔ (st.length ≤ 4 ∧ zcv (zv 8 tX8_firstBy) [a0, a1, a2] M (fun v M => uX8_first R 21 [x0, x1, x2] (v :: st) M)) := Iff.trans (zU_step dX8_first_18 (Or.inl rfl)) ⟨fun h => ⟨h.2.1, zcv_of h.2.2⟩, fun h => ⟨rfl, h.1, zcv_to h.2⟩⟩
theorem dX8_first_21 : decode cX8_first 21 = .ok (.goto 5, 3) := by decide +kernel
theorem rX8_first_21 {R : zP} {x0 x1 x2 : Option zV} {st : List zV} {M : zM} : uX8_first R 21 [x0, x1, x2] st M ↔ uX8_first R 26 [x0, x1, x2] st M := Iff.trans (zU_step dX8_first_21 (Or.inl rfl)) ⟨fun h => h.2, fun h => ⟨by decide, h⟩⟩
theorem dX8_first_24 : decode cX8_first 24 = .ok (.bipush (-2), 2) := by decide +kernel
theorem rX8_first_24 {R : zP} {x0 x1 x2 : Option zV} {st : List zV} {M : zM} : uX8_first R 24 [x0, x1, x2] st M ↔ uX8_first R 26 [x0, x1, x2] (.inl (-2) :: st) M := Iff.trans (zU_step dX8_first_24 (Or.inl rfl)) ⟨fun h => h.2, fun h => ⟨by decide, h⟩⟩
theorem dX8_first_26 : decode cX8_first 26 = .ok (.ireturn, 1) := by decide +kernel
theorem rX8_first_26 {R : zP} {x0 x1 x2 : Option zV} {M : zM} {a : Int} : uX8_first R 26 [x0, x1, x2] [.inl a] M ↔ R (some (.inl a)) M := Iff.trans (zU_step dX8_first_26 (Or.inl rfl)) ⟨fun h => h.2.2, fun h => ⟨rfl, Or.inl rfl, h⟩⟩
theorem eX8_first {R : zP} {M : zM} {a0 : Nat} {p0 : Int} {p1 : Int} : tX8_first [.inr (.inr a0), .inl p0, .inl p1] M R ↔ uX8_first R 0 [some (.inr (.inr a0)), some (.inl p0), some (.inl p1)] [] M := ⟨fun h => h.2, fun h => ⟨show 3 ≤ 3 by decide, h⟩⟩
def uX8_askOf (R : zP) : zK := zU fX8 vX8_askOf cX8_askOf R
theorem dX8_askOf_0 : decode cX8_askOf 0 = .ok (.aload_n 0, 1) := by decide +kernel
theorem rX8_askOf_0 {R : zP} {x1 x2 x3 x4 x5 x6 x7 x8 x9 x10 : Option zV} {st : List zV} {M : zM} {a : Nat} : uX8_askOf R 0 [some (.inr (.inr a)), x1, x2, x3, x4, x5, x6, x7, x8, x9, x10] st M ↔ uX8_askOf R 1 [some (.inr (.inr a)), x1, x2, x3, x4, x5, x6, x7, x8, x9, x10] (.inr (.inr a) :: st) M := zU_step dX8_askOf_0 (Or.inl rfl)
theorem dX8_askOf_1 : decode cX8_askOf 1 = .ok (.iload_n 1, 1) := by decide +kernel
theorem rX8_askOf_1 {R : zP} {x0 x2 x3 x4 x5 x6 x7 x8 x9 x10 : Option zV} {st : List zV} {M : zM} {a : Int} : uX8_askOf R 1 [x0, some (.inl a), x2, x3, x4, x5, x6, x7, x8, x9, x10] st M ↔ uX8_askOf R 2 [x0, some (.inl a), x2, x3, x4, x5, x6, x7, x8, x9, x10] (.inl a :: st) M := zU_step dX8_askOf_1 (Or.inl rfl)
theorem dX8_askOf_2 : decode cX8_askOf 2 = .ok (.iload_n 2, 1) := by decide +kernel
theorem rX8_askOf_2 {R : zP} {x0 x1 x3 x4 x5 x6 x7 x8 x9 x10 : Option zV} {st : List zV} {M : zM} {a : Int} : uX8_askOf R 2 [x0, x1, some (.inl a), x3, x4, x5, x6, x7, x8, x9, x10] st M ↔ uX8_askOf R 3 [x0, x1, some (.inl a), x3, x4, x5, x6, x7, x8, x9, x10] (.inl a :: st) M := zU_step dX8_askOf_2 (Or.inl rfl)
theorem dX8_askOf_3 : decode cX8_askOf 3 = .ok (.invokevirtual 303, 3) := by decide +kernel
theorem rX8_askOf_3 {R : zP} {x0 x1 x2 x3 x4 x5 x6 x7 x8 x9 x10 : Option zV} {st : List zV} {M : zM} {a0 a1 a2 : zV} : uX8_askOf R 3 [x0, x1, x2, x3, x4, x5, x6, x7, x8, x9, x10] (a2 :: a1 :: a0 :: st) M ↔ (st.length ≤ 4 ∧ zcv (zv 8 tX8_firstBy) [a0, a1, a2] M (fun v M => uX8_askOf R 6 [x0, x1, x2, x3, x4, x5, x6, x7, x8, x9, x10] (v :: st) M)) := Iff.trans (zU_step dX8_askOf_3 (Or.inl rfl)) ⟨fun h => ⟨h.2.1, zcv_of h.2.2⟩, fun h => ⟨rfl, h.1, zcv_to h.2⟩⟩
theorem dX8_askOf_6 : decode cX8_askOf 6 = .ok (.istore_n 3, 1) := by decide +kernel
theorem rX8_askOf_6 {R : zP} {x0 x1 x3 x4 x5 x6 x7 x8 x9 x10 : Option zV} {st : List zV} {M : zM} {a : Int} {y : Int} : uX8_askOf R 6 [x0, x1, some (.inl y), x3, x4, x5, x6, x7, x8, x9, x10] (.inl a :: st) M ↔ uX8_askOf R 7 [x0, x1, some (.inl y), some (.inl a), x4, x5, x6, x7, x8, x9, x10] st M := Iff.trans (zU_step dX8_askOf_6 (Or.inl rfl)) ⟨fun h => h.2, fun h => ⟨show 3 < 11 by decide, h⟩⟩
theorem rX8_askOf_6z {R : zP} {x0 x1 x2 x3 x4 x5 x6 x7 x8 x9 x10 : Option zV} {st : List zV} {M : zM} {a : Int} : uX8_askOf R 6 [x0, x1, x2, x3, x4, x5, x6, x7, x8, x9, x10] (.inl a :: st) M ↔ uX8_askOf R 7 [x0, x1, zkeep x2, some (.inl a), x4, x5, x6, x7, x8, x9, x10] st M := Iff.trans (zU_step dX8_askOf_6 (Or.inl rfl)) ⟨fun h => h.2, fun h => ⟨show 3 < 11 by decide, h⟩⟩
theorem dX8_askOf_7 : decode cX8_askOf 7 = .ok (.iconst (-1), 1) := by decide +kernel
theorem rX8_askOf_7 {R : zP} {x0 x1 x2 x3 x4 x5 x6 x7 x8 x9 x10 : Option zV} {st : List zV} {M : zM} : uX8_askOf R 7 [x0, x1, x2, x3, x4, x5, x6, x7, x8, x9, x10] st M ↔ uX8_askOf R 8 [x0, x1, x2, x3, x4, x5, x6, x7, x8, x9, x10] (.inl (-1) :: st) M := zU_step dX8_askOf_7 (Or.inl rfl)
theorem dX8_askOf_8 : decode cX8_askOf 8 = .ok (.istore 4, 2) := by decide +kernel
theorem rX8_askOf_8 {R : zP} {x0 x1 x2 x4 x5 x6 x7 x8 x9 x10 : Option zV} {st : List zV} {M : zM} {a : Int} {y : Int} : uX8_askOf R 8 [x0, x1, x2, some (.inl y), x4, x5, x6, x7, x8, x9, x10] (.inl a :: st) M ↔ uX8_askOf R 10 [x0, x1, x2, some (.inl y), some (.inl a), x5, x6, x7, x8, x9, x10] st M := Iff.trans (zU_step dX8_askOf_8 (Or.inl rfl)) ⟨fun h => h.2, fun h => ⟨show 4 < 11 by decide, h⟩⟩
theorem rX8_askOf_8z {R : zP} {x0 x1 x2 x3 x4 x5 x6 x7 x8 x9 x10 : Option zV} {st : List zV} {M : zM} {a : Int} : uX8_askOf R 8 [x0, x1, x2, x3, x4, x5, x6, x7, x8, x9, x10] (.inl a :: st) M ↔ uX8_askOf R 10 [x0, x1, x2, zkeep x3, some (.inl a), x5, x6, x7, x8, x9, x10] st M := Iff.trans (zU_step dX8_askOf_8 (Or.inl rfl)) ⟨fun h => h.2, fun h => ⟨show 4 < 11 by decide, h⟩⟩
theorem dX8_askOf_10 : decode cX8_askOf 10 = .ok (.iconst 0, 1) := by decide +kernel
theorem rX8_askOf_10 {R : zP} {x0 x1 x2 x3 x4 x5 x6 x7 x8 x9 x10 : Option zV} {st : List zV} {M : zM} : uX8_askOf R 10 [x0, x1, x2, x3, x4, x5, x6, x7, x8, x9, x10] st M ↔ uX8_askOf R 11 [x0, x1, x2, x3, x4, x5, x6, x7, x8, x9, x10] (.inl (0) :: st) M := zU_step dX8_askOf_10 (Or.inl rfl)
theorem dX8_askOf_11 : decode cX8_askOf 11 = .ok (.istore 5, 2) := by decide +kernel
theorem rX8_askOf_11 {R : zP} {x0 x1 x2 x3 x5 x6 x7 x8 x9 x10 : Option zV} {st : List zV} {M : zM} {a : Int} {y : Int} : uX8_askOf R 11 [x0, x1, x2, x3, some (.inl y), x5, x6, x7, x8, x9, x10] (.inl a :: st) M ↔ uX8_askOf R 13 [x0, x1, x2, x3, some (.inl y), some (.inl a), x6, x7, x8, x9, x10] st M := Iff.trans (zU_step dX8_askOf_11 (Or.inl rfl)) ⟨fun h => h.2, fun h => ⟨show 5 < 11 by decide, h⟩⟩
theorem rX8_askOf_11z {R : zP} {x0 x1 x2 x3 x4 x5 x6 x7 x8 x9 x10 : Option zV} {st : List zV} {M : zM} {a : Int} : uX8_askOf R 11 [x0, x1, x2, x3, x4, x5, x6, x7, x8, x9, x10] (.inl a :: st) M ↔ uX8_askOf R 13 [x0, x1, x2, x3, zkeep x4, some (.inl a), x6, x7, x8, x9, x10] st M := Iff.trans (zU_step dX8_askOf_11 (Or.inl rfl)) ⟨fun h => h.2, fun h => ⟨show 5 < 11 by decide, h⟩⟩
theorem dX8_askOf_13 : decode cX8_askOf 13 = .ok (.iconst 0, 1) := by decide +kernel
theorem rX8_askOf_13 {R : zP} {x0 x1 x2 x3 x4 x5 x6 x7 x8 x9 x10 : Option zV} {st : List zV} {M : zM} : uX8_askOf R 13 [x0, x1, x2, x3, x4, x5, x6, x7, x8, x9, x10] st M ↔ uX8_askOf R 14 [x0, x1, x2, x3, x4, x5, x6, x7, x8, x9, x10] (.inl (0) :: st) M := zU_step dX8_askOf_13 (Or.inl rfl)
theorem dX8_askOf_14 : decode cX8_askOf 14 = .ok (.istore 6, 2) := by decide +kernel
theorem rX8_askOf_14 {R : zP} {x0 x1 x2 x3 x4 x6 x7 x8 x9 x10 : Option zV} {st : List zV} {M : zM} {a : Int} {y : Int} : uX8_askOf R 14 [x0, x1, x2, x3, x4, some (.inl y), x6, x7, x8, x9, x10] (.inl a :: st) M ↔ uX8_askOf R 16 [x0, x1, x2, x3, x4, some (.inl y), some (.inl a), x7, x8, x9, x10] st M := Iff.trans (zU_step dX8_askOf_14 (Or.inl rfl)) ⟨fun h => h.2, fun h => ⟨show 6 < 11 by decide, h⟩⟩
theorem rX8_askOf_14z {R : zP} {x0 x1 x2 x3 x4 x5 x6 x7 x8 x9 x10 : Option zV} {st : List zV} {M : zM} {a : Int} : uX8_askOf R 14 [x0, x1, x2, x3, x4, x5, x6, x7, x8, x9, x10] (.inl a :: st) M ↔ uX8_askOf R 16 [x0, x1, x2, x3, x4, zkeep x5, some (.inl a), x7, x8, x9, x10] st M := Iff.trans (zU_step dX8_askOf_14 (Or.inl rfl)) ⟨fun h => h.2, fun h => ⟨show 6 < 11 by decide, h⟩⟩
theorem dX8_askOf_16 : decode cX8_askOf 16 = .ok (.iload 6, 2) := by decide +kernel
theorem rX8_askOf_16 {R : zP} {x0 x1 x2 x3 x4 x5 x7 x8 x9 x10 : Option zV} {st : List zV} {M : zM} {a : Int} : uX8_askOf R 16 [x0, x1, x2, x3, x4, x5, some (.inl a), x7, x8, x9, x10] st M ↔ uX8_askOf R 18 [x0, x1, x2, x3, x4, x5, some (.inl a), x7, x8, x9, x10] (.inl a :: st) M := zU_step dX8_askOf_16 (Or.inl rfl)
theorem dX8_askOf_18 : decode cX8_askOf 18 = .ok (.bipush 20, 2) := by decide +kernel
theorem rX8_askOf_18 {R : zP} {x0 x1 x2 x3 x4 x5 x6 x7 x8 x9 x10 : Option zV} {st : List zV} {M : zM} : uX8_askOf R 18 [x0, x1, x2, x3, x4, x5, x6, x7, x8, x9, x10] st M ↔ uX8_askOf R 20 [x0, x1, x2, x3, x4, x5, x6, x7, x8, x9, x10] (.inl (20) :: st) M := Iff.trans (zU_step dX8_askOf_18 (Or.inl rfl)) ⟨fun h => h.2, fun h => ⟨by decide, h⟩⟩
theorem dX8_askOf_20 : decode cX8_askOf 20 = .ok (.if_icmp .ge 168, 3) := by decide +kernel
theorem rX8_askOf_20 {R : zP} {x0 x1 x2 x3 x4 x5 x6 x7 x8 x9 x10 : Option zV} {st : List zV} {M : zM} {a b : Int} : uX8_askOf R 20 [x0, x1, x2, x3, x4, x5, x6, x7, x8, x9, x10] (.inl b :: .inl a :: st) M ↔ ((zIR a ∧ zIR b) ∧ if b ≤ a then uX8_askOf R 188 [x0, x1, x2, x3, x4, x5, x6, x7, x8, x9, x10] st M else uX8_askOf R 23 [x0, x1, x2, x3, x4, x5, x6, x7, x8, x9, x10] st M) := Iff.trans (zU_step dX8_askOf_20 (Or.inl rfl)) ⟨fun h => ⟨⟨h.1.1, h.1.2.1⟩, (zite (c := b ≤ a)).mpr h.2⟩, fun h => ⟨⟨h.1.1, h.1.2, by decide⟩, (zite (c := b ≤ a)).mp h.2⟩⟩
theorem dX8_askOf_23 : decode cX8_askOf 23 = .ok (.iconst 0, 1) := by decide +kernel
theorem rX8_askOf_23 {R : zP} {x0 x1 x2 x3 x4 x5 x6 x7 x8 x9 x10 : Option zV} {st : List zV} {M : zM} : uX8_askOf R 23 [x0, x1, x2, x3, x4, x5, x6, x7, x8, x9, x10] st M ↔ uX8_askOf R 24 [x0, x1, x2, x3, x4, x5, x6, x7, x8, x9, x10] (.inl (0) :: st) M := zU_step dX8_askOf_23 (Or.inl rfl)
theorem dX8_askOf_24 : decode cX8_askOf 24 = .ok (.istore 7, 2) := by decide +kernel
theorem rX8_askOf_24 {R : zP} {x0 x1 x2 x3 x4 x5 x7 x8 x9 x10 : Option zV} {st : List zV} {M : zM} {a : Int} {y : Int} : uX8_askOf R 24 [x0, x1, x2, x3, x4, x5, some (.inl y), x7, x8, x9, x10] (.inl a :: st) M ↔ uX8_askOf R 26 [x0, x1, x2, x3, x4, x5, some (.inl y), some (.inl a), x8, x9, x10] st M := Iff.trans (zU_step dX8_askOf_24 (Or.inl rfl)) ⟨fun h => h.2, fun h => ⟨show 7 < 11 by decide, h⟩⟩
theorem rX8_askOf_24z {R : zP} {x0 x1 x2 x3 x4 x5 x6 x7 x8 x9 x10 : Option zV} {st : List zV} {M : zM} {a : Int} : uX8_askOf R 24 [x0, x1, x2, x3, x4, x5, x6, x7, x8, x9, x10] (.inl a :: st) M ↔ uX8_askOf R 26 [x0, x1, x2, x3, x4, x5, zkeep x6, some (.inl a), x8, x9, x10] st M := Iff.trans (zU_step dX8_askOf_24 (Or.inl rfl)) ⟨fun h => h.2, fun h => ⟨show 7 < 11 by decide, h⟩⟩
theorem dX8_askOf_26 : decode cX8_askOf 26 = .ok (.iconst 0, 1) := by decide +kernel
theorem rX8_askOf_26 {R : zP} {x0 x1 x2 x3 x4 x5 x6 x7 x8 x9 x10 : Option zV} {st : List zV} {M : zM} : uX8_askOf R 26 [x0, x1, x2, x3, x4, x5, x6, x7, x8, x9, x10] st M ↔ uX8_askOf R 27 [x0, x1, x2, x3, x4, x5, x6, x7, x8, x9, x10] (.inl (0) :: st) M := zU_step dX8_askOf_26 (Or.inl rfl)
theorem dX8_askOf_27 : decode cX8_askOf 27 = .ok (.istore 8, 2) := by decide +kernel
theorem rX8_askOf_27 {R : zP} {x0 x1 x2 x3 x4 x5 x6 x8 x9 x10 : Option zV} {st : List zV} {M : zM} {a : Int} {y : Int} : uX8_askOf R 27 [x0, x1, x2, x3, x4, x5, x6, some (.inl y), x8, x9, x10] (.inl a :: st) M ↔ uX8_askOf R 29 [x0, x1, x2, x3, x4, x5, x6, some (.inl y), some (.inl a), x9, x10] st M := Iff.trans (zU_step dX8_askOf_27 (Or.inl rfl)) ⟨fun h => h.2, fun h => ⟨show 8 < 11 by decide, h⟩⟩
theorem rX8_askOf_27z {R : zP} {x0 x1 x2 x3 x4 x5 x6 x7 x8 x9 x10 : Option zV} {st : List zV} {M : zM} {a : Int} : uX8_askOf R 27 [x0, x1, x2, x3, x4, x5, x6, x7, x8, x9, x10] (.inl a :: st) M ↔ uX8_askOf R 29 [x0, x1, x2, x3, x4, x5, x6, zkeep x7, some (.inl a), x9, x10] st M := Iff.trans (zU_step dX8_askOf_27 (Or.inl rfl)) ⟨fun h => h.2, fun h => ⟨show 8 < 11 by decide, h⟩⟩
theorem dX8_askOf_29 : decode cX8_askOf 29 = .ok (.iload 8, 2) := by decide +kernel
theorem rX8_askOf_29 {R : zP} {x0 x1 x2 x3 x4 x5 x6 x7 x9 x10 : Option zV} {st : List zV} {M : zM} {a : Int} : uX8_askOf R 29 [x0, x1, x2, x3, x4, x5, x6, x7, some (.inl a), x9, x10] st M ↔ uX8_askOf R 31 [x0, x1, x2, x3, x4, x5, x6, x7, some (.inl a), x9, x10] (.inl a :: st) M := zU_step dX8_askOf_29 (Or.inl rfl)
theorem dX8_askOf_31 : decode cX8_askOf 31 = .ok (.bipush 10, 2) := by decide +kernel
theorem rX8_askOf_31 {R : zP} {x0 x1 x2 x3 x4 x5 x6 x7 x8 x9 x10 : Option zV} {st : List zV} {M : zM} : uX8_askOf R 31 [x0, x1, x2, x3, x4, x5, x6, x7, x8, x9, x10] st M ↔ uX8_askOf R 33 [x0, x1, x2, x3, x4, x5, x6, x7, x8, x9, x10] (.inl (10) :: st) M := Iff.trans (zU_step dX8_askOf_31 (Or.inl rfl)) ⟨fun h => h.2, fun h => ⟨by decide, h⟩⟩
theorem dX8_askOf_33 : decode cX8_askOf 33 = .ok (.if_icmp .ge 101, 3) := by decide +kernel
theorem rX8_askOf_33 {R : zP} {x0 x1 x2 x3 x4 x5 x6 x7 x8 x9 x10 : Option zV} {st : List zV} {M : zM} {a b : Int} : uX8_askOf R 33 [x0, x1, x2, x3, x4, x5, x6, x7, x8, x9, x10] (.inl b :: .inl a :: st) M ↔ ((zIR a ∧ zIR b) ∧ if b ≤ a then uX8_askOf R 134 [x0, x1, x2, x3, x4, x5, x6, x7, x8, x9, x10] st M else uX8_askOf R 36 [x0, x1, x2, x3, x4, x5, x6, x7, x8, x9, x10] st M) := Iff.trans (zU_step dX8_askOf_33 (Or.inl rfl)) ⟨fun h => ⟨⟨h.1.1, h.1.2.1⟩, (zite (c := b ≤ a)).mpr h.2⟩, fun h => ⟨⟨h.1.1, h.1.2, by decide⟩, (zite (c := b ≤ a)).mp h.2⟩⟩
theorem dX8_askOf_36 : decode cX8_askOf 36 = .ok (.iconst 0, 1) := by decide +kernel
theorem rX8_askOf_36 {R : zP} {x0 x1 x2 x3 x4 x5 x6 x7 x8 x9 x10 : Option zV} {st : List zV} {M : zM} : uX8_askOf R 36 [x0, x1, x2, x3, x4, x5, x6, x7, x8, x9, x10] st M ↔ uX8_askOf R 37 [x0, x1, x2, x3, x4, x5, x6, x7, x8, x9, x10] (.inl (0) :: st) M := zU_step dX8_askOf_36 (Or.inl rfl)
theorem dX8_askOf_37 : decode cX8_askOf 37 = .ok (.istore 9, 2) := by decide +kernel
theorem rX8_askOf_37 {R : zP} {x0 x1 x2 x3 x4 x5 x6 x7 x9 x10 : Option zV} {st : List zV} {M : zM} {a : Int} {y : Int} : uX8_askOf R 37 [x0, x1, x2, x3, x4, x5, x6, x7, some (.inl y), x9, x10] (.inl a :: st) M ↔ uX8_askOf R 39 [x0, x1, x2, x3, x4, x5, x6, x7, some (.inl y), some (.inl a), x10] st M := Iff.trans (zU_step dX8_askOf_37 (Or.inl rfl)) ⟨fun h => h.2, fun h => ⟨show 9 < 11 by decide, h⟩⟩
theorem rX8_askOf_37z {R : zP} {x0 x1 x2 x3 x4 x5 x6 x7 x8 x9 x10 : Option zV} {st : List zV} {M : zM} {a : Int} : uX8_askOf R 37 [x0, x1, x2, x3, x4, x5, x6, x7, x8, x9, x10] (.inl a :: st) M ↔ uX8_askOf R 39 [x0, x1, x2, x3, x4, x5, x6, x7, zkeep x8, some (.inl a), x10] st M := Iff.trans (zU_step dX8_askOf_37 (Or.inl rfl)) ⟨fun h => h.2, fun h => ⟨show 9 < 11 by decide, h⟩⟩
theorem dX8_askOf_39 : decode cX8_askOf 39 = .ok (.iconst 0, 1) := by decide +kernel
theorem rX8_askOf_39 {R : zP} {x0 x1 x2 x3 x4 x5 x6 x7 x8 x9 x10 : Option zV} {st : List zV} {M : zM} : uX8_askOf R 39 [x0, x1, x2, x3, x4, x5, x6, x7, x8, x9, x10] st M ↔ uX8_askOf R 40 [x0, x1, x2, x3, x4, x5, x6, x7, x8, x9, x10] (.inl (0) :: st) M := zU_step dX8_askOf_39 (Or.inl rfl)
theorem dX8_askOf_40 : decode cX8_askOf 40 = .ok (.istore 10, 2) := by decide +kernel
theorem rX8_askOf_40 {R : zP} {x0 x1 x2 x3 x4 x5 x6 x7 x8 x10 : Option zV} {st : List zV} {M : zM} {a : Int} {y : Int} : uX8_askOf R 40 [x0, x1, x2, x3, x4, x5, x6, x7, x8, some (.inl y), x10] (.inl a :: st) M ↔ uX8_askOf R 42 [x0, x1, x2, x3, x4, x5, x6, x7, x8, some (.inl y), some (.inl a)] st M := Iff.trans (zU_step dX8_askOf_40 (Or.inl rfl)) ⟨fun h => h.2, fun h => ⟨show 10 < 11 by decide, h⟩⟩
theorem rX8_askOf_40z {R : zP} {x0 x1 x2 x3 x4 x5 x6 x7 x8 x9 x10 : Option zV} {st : List zV} {M : zM} {a : Int} : uX8_askOf R 40 [x0, x1, x2, x3, x4, x5, x6, x7, x8, x9, x10] (.inl a :: st) M ↔ uX8_askOf R 42 [x0, x1, x2, x3, x4, x5, x6, x7, x8, zkeep x9, some (.inl a)] st M := Iff.trans (zU_step dX8_askOf_40 (Or.inl rfl)) ⟨fun h => h.2, fun h => ⟨show 10 < 11 by decide, h⟩⟩
theorem dX8_askOf_42 : decode cX8_askOf 42 = .ok (.iload 10, 2) := by decide +kernel
theorem rX8_askOf_42 {R : zP} {x0 x1 x2 x3 x4 x5 x6 x7 x8 x9 : Option zV} {st : List zV} {M : zM} {a : Int} : uX8_askOf R 42 [x0, x1, x2, x3, x4, x5, x6, x7, x8, x9, some (.inl a)] st M ↔ uX8_askOf R 44 [x0, x1, x2, x3, x4, x5, x6, x7, x8, x9, some (.inl a)] (.inl a :: st) M := zU_step dX8_askOf_42 (Or.inl rfl)
theorem dX8_askOf_44 : decode cX8_askOf 44 = .ok (.bipush 10, 2) := by decide +kernel
theorem rX8_askOf_44 {R : zP} {x0 x1 x2 x3 x4 x5 x6 x7 x8 x9 x10 : Option zV} {st : List zV} {M : zM} : uX8_askOf R 44 [x0, x1, x2, x3, x4, x5, x6, x7, x8, x9, x10] st M ↔ uX8_askOf R 46 [x0, x1, x2, x3, x4, x5, x6, x7, x8, x9, x10] (.inl (10) :: st) M := Iff.trans (zU_step dX8_askOf_44 (Or.inl rfl)) ⟨fun h => h.2, fun h => ⟨by decide, h⟩⟩
theorem dX8_askOf_46 : decode cX8_askOf 46 = .ok (.if_icmp .ge 66, 3) := by decide +kernel
theorem rX8_askOf_46 {R : zP} {x0 x1 x2 x3 x4 x5 x6 x7 x8 x9 x10 : Option zV} {st : List zV} {M : zM} {a b : Int} : uX8_askOf R 46 [x0, x1, x2, x3, x4, x5, x6, x7, x8, x9, x10] (.inl b :: .inl a :: st) M ↔ ((zIR a ∧ zIR b) ∧ if b ≤ a then uX8_askOf R 112 [x0, x1, x2, x3, x4, x5, x6, x7, x8, x9, x10] st M else uX8_askOf R 49 [x0, x1, x2, x3, x4, x5, x6, x7, x8, x9, x10] st M) := Iff.trans (zU_step dX8_askOf_46 (Or.inl rfl)) ⟨fun h => ⟨⟨h.1.1, h.1.2.1⟩, (zite (c := b ≤ a)).mpr h.2⟩, fun h => ⟨⟨h.1.1, h.1.2, by decide⟩, (zite (c := b ≤ a)).mp h.2⟩⟩
theorem dX8_askOf_49 : decode cX8_askOf 49 = .ok (.iload 9, 2) := by decide +kernel
theorem rX8_askOf_49 {R : zP} {x0 x1 x2 x3 x4 x5 x6 x7 x8 x10 : Option zV} {st : List zV} {M : zM} {a : Int} : uX8_askOf R 49 [x0, x1, x2, x3, x4, x5, x6, x7, x8, some (.inl a), x10] st M ↔ uX8_askOf R 51 [x0, x1, x2, x3, x4, x5, x6, x7, x8, some (.inl a), x10] (.inl a :: st) M := zU_step dX8_askOf_49 (Or.inl rfl)
theorem dX8_askOf_51 : decode cX8_askOf 51 = .ok (.iload_n 3, 1) := by decide +kernel
theorem rX8_askOf_51 {R : zP} {x0 x1 x2 x4 x5 x6 x7 x8 x9 x10 : Option zV} {st : List zV} {M : zM} {a : Int} : uX8_askOf R 51 [x0, x1, x2, some (.inl a), x4, x5, x6, x7, x8, x9, x10] st M ↔ uX8_askOf R 52 [x0, x1, x2, some (.inl a), x4, x5, x6, x7, x8, x9, x10] (.inl a :: st) M := zU_step dX8_askOf_51 (Or.inl rfl)
theorem dX8_askOf_52 : decode cX8_askOf 52 = .ok (.iload 8, 2) := by decide +kernel
theorem rX8_askOf_52 {R : zP} {x0 x1 x2 x3 x4 x5 x6 x7 x9 x10 : Option zV} {st : List zV} {M : zM} {a : Int} : uX8_askOf R 52 [x0, x1, x2, x3, x4, x5, x6, x7, some (.inl a), x9, x10] st M ↔ uX8_askOf R 54 [x0, x1, x2, x3, x4, x5, x6, x7, some (.inl a), x9, x10] (.inl a :: st) M := zU_step dX8_askOf_52 (Or.inl rfl)
theorem dX8_askOf_54 : decode cX8_askOf 54 = .ok (.invokestatic 187, 3) := by decide +kernel
theorem rX8_askOf_54 {R : zP} {x0 x1 x2 x3 x4 x5 x6 x7 x8 x9 x10 : Option zV} {st : List zV} {M : zM} {a0 a1 : zV} : uX8_askOf R 54 [x0, x1, x2, x3, x4, x5, x6, x7, x8, x9, x10] (a1 :: a0 :: st) M ↔ (st.length ≤ 4 ∧ zcv tX8_isIn [a0, a1] M (fun v M => uX8_askOf R 57 [x0, x1, x2, x3, x4, x5, x6, x7, x8, x9, x10] (v :: st) M)) := Iff.trans (zU_step dX8_askOf_54 (Or.inl rfl)) ⟨fun h => ⟨h.2.1, zcv_of h.2.2⟩, fun h => ⟨rfl, h.1, zcv_to h.2⟩⟩
theorem dX8_askOf_57 : decode cX8_askOf 57 = .ok (.ifCond .eq 45, 3) := by decide +kernel
theorem rX8_askOf_57 {R : zP} {x0 x1 x2 x3 x4 x5 x6 x7 x8 x9 x10 : Option zV} {st : List zV} {M : zM} {a : Int} : uX8_askOf R 57 [x0, x1, x2, x3, x4, x5, x6, x7, x8, x9, x10] (.inl a :: st) M ↔ (zIR a ∧ if a = 0 then uX8_askOf R 102 [x0, x1, x2, x3, x4, x5, x6, x7, x8, x9, x10] st M else uX8_askOf R 60 [x0, x1, x2, x3, x4, x5, x6, x7, x8, x9, x10] st M) := Iff.trans (zU_step dX8_askOf_57 (Or.inl rfl)) ⟨fun h => ⟨h.1.1, (zite (c := a = 0)).mpr h.2⟩, fun h => ⟨⟨h.1, by decide⟩, (zite (c := a = 0)).mp h.2⟩⟩
theorem dX8_askOf_60 : decode cX8_askOf 60 = .ok (.iload_n 3, 1) := by decide +kernel
theorem rX8_askOf_60 {R : zP} {x0 x1 x2 x4 x5 x6 x7 x8 x9 x10 : Option zV} {st : List zV} {M : zM} {a : Int} : uX8_askOf R 60 [x0, x1, x2, some (.inl a), x4, x5, x6, x7, x8, x9, x10] st M ↔ uX8_askOf R 61 [x0, x1, x2, some (.inl a), x4, x5, x6, x7, x8, x9, x10] (.inl a :: st) M := zU_step dX8_askOf_60 (Or.inl rfl)
theorem dX8_askOf_61 : decode cX8_askOf 61 = .ok (.iload 10, 2) := by decide +kernel
theorem rX8_askOf_61 {R : zP} {x0 x1 x2 x3 x4 x5 x6 x7 x8 x9 : Option zV} {st : List zV} {M : zM} {a : Int} : uX8_askOf R 61 [x0, x1, x2, x3, x4, x5, x6, x7, x8, x9, some (.inl a)] st M ↔ uX8_askOf R 63 [x0, x1, x2, x3, x4, x5, x6, x7, x8, x9, some (.inl a)] (.inl a :: st) M := zU_step dX8_askOf_61 (Or.inl rfl)
theorem dX8_askOf_63 : decode cX8_askOf 63 = .ok (.invokestatic 187, 3) := by decide +kernel
theorem rX8_askOf_63 {R : zP} {x0 x1 x2 x3 x4 x5 x6 x7 x8 x9 x10 : Option zV} {st : List zV} {M : zM} {a0 a1 : zV} : uX8_askOf R 63 [x0, x1, x2, x3, x4, x5, x6, x7, x8, x9, x10] (a1 :: a0 :: st) M ↔ (st.length ≤ 4 ∧ zcv tX8_isIn [a0, a1] M (fun v M => uX8_askOf R 66 [x0, x1, x2, x3, x4, x5, x6, x7, x8, x9, x10] (v :: st) M)) := Iff.trans (zU_step dX8_askOf_63 (Or.inl rfl)) ⟨fun h => ⟨h.2.1, zcv_of h.2.2⟩, fun h => ⟨rfl, h.1, zcv_to h.2⟩⟩
theorem dX8_askOf_66 : decode cX8_askOf 66 = .ok (.ifCond .eq 36, 3) := by decide +kernel
theorem rX8_askOf_66 {R : zP} {x0 x1 x2 x3 x4 x5 x6 x7 x8 x9 x10 : Option zV} {st : List zV} {M : zM} {a : Int} : uX8_askOf R 66 [x0, x1, x2, x3, x4, x5, x6, x7, x8, x9, x10] (.inl a :: st) M ↔ (zIR a ∧ if a = 0 then uX8_askOf R 102 [x0, x1, x2, x3, x4, x5, x6, x7, x8, x9, x10] st M else uX8_askOf R 69 [x0, x1, x2, x3, x4, x5, x6, x7, x8, x9, x10] st M) := Iff.trans (zU_step dX8_askOf_66 (Or.inl rfl)) ⟨fun h => ⟨h.1.1, (zite (c := a = 0)).mpr h.2⟩, fun h => ⟨⟨h.1, by decide⟩, (zite (c := a = 0)).mp h.2⟩⟩
theorem dX8_askOf_69 : decode cX8_askOf 69 = .ok (.aload_n 0, 1) := by decide +kernel
theorem rX8_askOf_69 {R : zP} {x1 x2 x3 x4 x5 x6 x7 x8 x9 x10 : Option zV} {st : List zV} {M : zM} {a : Nat} : uX8_askOf R 69 [some (.inr (.inr a)), x1, x2, x3, x4, x5, x6, x7, x8, x9, x10] st M ↔ uX8_askOf R 70 [some (.inr (.inr a)), x1, x2, x3, x4, x5, x6, x7, x8, x9, x10] (.inr (.inr a) :: st) M := zU_step dX8_askOf_69 (Or.inl rfl)
theorem dX8_askOf_70 : decode cX8_askOf 70 = .ok (.getfield 91, 3) := by decide +kernel
theorem rX8_askOf_70 {R : zP} {x0 x1 x2 x3 x4 x5 x6 x7 x8 x9 x10 : Option zV} {st : List zV} {M : zM} {r : Nat} : uX8_askOf R 70 [x0, x1, x2, x3, x4, x5, x6, x7, x8, x9, x10] (.inr (.inr r) :: st) M ↔ zgetx fX8 91 r M (fun v => uX8_askOf R 73 [x0, x1, x2, x3, x4, x5, x6, x7, x8, x9, x10] (v :: st) M) := zU_step dX8_askOf_70 (Or.inl rfl)
theorem dX8_askOf_73 : decode cX8_askOf 73 = .ok (.bipush 20, 2) := by decide +kernel
theorem rX8_askOf_73 {R : zP} {x0 x1 x2 x3 x4 x5 x6 x7 x8 x9 x10 : Option zV} {st : List zV} {M : zM} : uX8_askOf R 73 [x0, x1, x2, x3, x4, x5, x6, x7, x8, x9, x10] st M ↔ uX8_askOf R 75 [x0, x1, x2, x3, x4, x5, x6, x7, x8, x9, x10] (.inl (20) :: st) M := Iff.trans (zU_step dX8_askOf_73 (Or.inl rfl)) ⟨fun h => h.2, fun h => ⟨by decide, h⟩⟩
theorem dX8_askOf_75 : decode cX8_askOf 75 = .ok (.iload 8, 2) := by decide +kernel
theorem rX8_askOf_75 {R : zP} {x0 x1 x2 x3 x4 x5 x6 x7 x9 x10 : Option zV} {st : List zV} {M : zM} {a : Int} : uX8_askOf R 75 [x0, x1, x2, x3, x4, x5, x6, x7, some (.inl a), x9, x10] st M ↔ uX8_askOf R 77 [x0, x1, x2, x3, x4, x5, x6, x7, some (.inl a), x9, x10] (.inl a :: st) M := zU_step dX8_askOf_75 (Or.inl rfl)
theorem dX8_askOf_77 : decode cX8_askOf 77 = .ok (.imul, 1) := by decide +kernel
theorem rX8_askOf_77 {R : zP} {x0 x1 x2 x3 x4 x5 x6 x7 x8 x9 x10 : Option zV} {st : List zV} {M : zM} {a b : Int} : uX8_askOf R 77 [x0, x1, x2, x3, x4, x5, x6, x7, x8, x9, x10] (.inl b :: .inl a :: st) M ↔ uX8_askOf R 78 [x0, x1, x2, x3, x4, x5, x6, x7, x8, x9, x10] (.inl (a * b) :: st) M := zU_step dX8_askOf_77 (Or.inl rfl)
theorem dX8_askOf_78 : decode cX8_askOf 78 = .ok (.iload 6, 2) := by decide +kernel
theorem rX8_askOf_78 {R : zP} {x0 x1 x2 x3 x4 x5 x7 x8 x9 x10 : Option zV} {st : List zV} {M : zM} {a : Int} : uX8_askOf R 78 [x0, x1, x2, x3, x4, x5, some (.inl a), x7, x8, x9, x10] st M ↔ uX8_askOf R 80 [x0, x1, x2, x3, x4, x5, some (.inl a), x7, x8, x9, x10] (.inl a :: st) M := zU_step dX8_askOf_78 (Or.inl rfl)
theorem dX8_askOf_80 : decode cX8_askOf 80 = .ok (.iadd, 1) := by decide +kernel
theorem rX8_askOf_80 {R : zP} {x0 x1 x2 x3 x4 x5 x6 x7 x8 x9 x10 : Option zV} {st : List zV} {M : zM} {a b : Int} : uX8_askOf R 80 [x0, x1, x2, x3, x4, x5, x6, x7, x8, x9, x10] (.inl b :: .inl a :: st) M ↔ uX8_askOf R 81 [x0, x1, x2, x3, x4, x5, x6, x7, x8, x9, x10] (.inl (a + b) :: st) M := zU_step dX8_askOf_80 (Or.inl rfl)
theorem dX8_askOf_81 : decode cX8_askOf 81 = .ok (.iaload, 1) := by decide +kernel
theorem rX8_askOf_81 {R : zP} {x0 x1 x2 x3 x4 x5 x6 x7 x8 x9 x10 : Option zV} {st : List zV} {M : zM} {i : Int} {r : Nat} : uX8_askOf R 81 [x0, x1, x2, x3, x4, x5, x6, x7, x8, x9, x10] (.inl i :: .inr (.inr r) :: st) M ↔ zread fX8 0 r M i (fun v => uX8_askOf R 82 [x0, x1, x2, x3, x4, x5, x6, x7, x8, x9, x10] (.inl v :: st) M) := zU_step dX8_askOf_81 (Or.inl rfl)
theorem dX8_askOf_82 : decode cX8_askOf 82 = .ok (.aload_n 0, 1) := by decide +kernel
theorem rX8_askOf_82 {R : zP} {x1 x2 x3 x4 x5 x6 x7 x8 x9 x10 : Option zV} {st : List zV} {M : zM} {a : Nat} : uX8_askOf R 82 [some (.inr (.inr a)), x1, x2, x3, x4, x5, x6, x7, x8, x9, x10] st M ↔ uX8_askOf R 83 [some (.inr (.inr a)), x1, x2, x3, x4, x5, x6, x7, x8, x9, x10] (.inr (.inr a) :: st) M := zU_step dX8_askOf_82 (Or.inl rfl)
theorem dX8_askOf_83 : decode cX8_askOf 83 = .ok (.getfield 91, 3) := by decide +kernel
theorem rX8_askOf_83 {R : zP} {x0 x1 x2 x3 x4 x5 x6 x7 x8 x9 x10 : Option zV} {st : List zV} {M : zM} {r : Nat} : uX8_askOf R 83 [x0, x1, x2, x3, x4, x5, x6, x7, x8, x9, x10] (.inr (.inr r) :: st) M ↔ zgetx fX8 91 r M (fun v => uX8_askOf R 86 [x0, x1, x2, x3, x4, x5, x6, x7, x8, x9, x10] (v :: st) M) := zU_step dX8_askOf_83 (Or.inl rfl)
theorem dX8_askOf_86 : decode cX8_askOf 86 = .ok (.bipush 20, 2) := by decide +kernel
theorem rX8_askOf_86 {R : zP} {x0 x1 x2 x3 x4 x5 x6 x7 x8 x9 x10 : Option zV} {st : List zV} {M : zM} : uX8_askOf R 86 [x0, x1, x2, x3, x4, x5, x6, x7, x8, x9, x10] st M ↔ uX8_askOf R 88 [x0, x1, x2, x3, x4, x5, x6, x7, x8, x9, x10] (.inl (20) :: st) M := Iff.trans (zU_step dX8_askOf_86 (Or.inl rfl)) ⟨fun h => h.2, fun h => ⟨by decide, h⟩⟩
theorem dX8_askOf_88 : decode cX8_askOf 88 = .ok (.iload 10, 2) := by decide +kernel
theorem rX8_askOf_88 {R : zP} {x0 x1 x2 x3 x4 x5 x6 x7 x8 x9 : Option zV} {st : List zV} {M : zM} {a : Int} : uX8_askOf R 88 [x0, x1, x2, x3, x4, x5, x6, x7, x8, x9, some (.inl a)] st M ↔ uX8_askOf R 90 [x0, x1, x2, x3, x4, x5, x6, x7, x8, x9, some (.inl a)] (.inl a :: st) M := zU_step dX8_askOf_88 (Or.inl rfl)
theorem dX8_askOf_90 : decode cX8_askOf 90 = .ok (.imul, 1) := by decide +kernel
theorem rX8_askOf_90 {R : zP} {x0 x1 x2 x3 x4 x5 x6 x7 x8 x9 x10 : Option zV} {st : List zV} {M : zM} {a b : Int} : uX8_askOf R 90 [x0, x1, x2, x3, x4, x5, x6, x7, x8, x9, x10] (.inl b :: .inl a :: st) M ↔ uX8_askOf R 91 [x0, x1, x2, x3, x4, x5, x6, x7, x8, x9, x10] (.inl (a * b) :: st) M := zU_step dX8_askOf_90 (Or.inl rfl)
theorem dX8_askOf_91 : decode cX8_askOf 91 = .ok (.iload 6, 2) := by decide +kernel
theorem rX8_askOf_91 {R : zP} {x0 x1 x2 x3 x4 x5 x7 x8 x9 x10 : Option zV} {st : List zV} {M : zM} {a : Int} : uX8_askOf R 91 [x0, x1, x2, x3, x4, x5, some (.inl a), x7, x8, x9, x10] st M ↔ uX8_askOf R 93 [x0, x1, x2, x3, x4, x5, some (.inl a), x7, x8, x9, x10] (.inl a :: st) M := zU_step dX8_askOf_91 (Or.inl rfl)
theorem dX8_askOf_93 : decode cX8_askOf 93 = .ok (.iadd, 1) := by decide +kernel
theorem rX8_askOf_93 {R : zP} {x0 x1 x2 x3 x4 x5 x6 x7 x8 x9 x10 : Option zV} {st : List zV} {M : zM} {a b : Int} : uX8_askOf R 93 [x0, x1, x2, x3, x4, x5, x6, x7, x8, x9, x10] (.inl b :: .inl a :: st) M ↔ uX8_askOf R 94 [x0, x1, x2, x3, x4, x5, x6, x7, x8, x9, x10] (.inl (a + b) :: st) M := zU_step dX8_askOf_93 (Or.inl rfl)
theorem dX8_askOf_94 : decode cX8_askOf 94 = .ok (.iaload, 1) := by decide +kernel
theorem rX8_askOf_94 {R : zP} {x0 x1 x2 x3 x4 x5 x6 x7 x8 x9 x10 : Option zV} {st : List zV} {M : zM} {i : Int} {r : Nat} : uX8_askOf R 94 [x0, x1, x2, x3, x4, x5, x6, x7, x8, x9, x10] (.inl i :: .inr (.inr r) :: st) M ↔ zread fX8 0 r M i (fun v => uX8_askOf R 95 [x0, x1, x2, x3, x4, x5, x6, x7, x8, x9, x10] (.inl v :: st) M) := zU_step dX8_askOf_94 (Or.inl rfl)
theorem dX8_askOf_95 : decode cX8_askOf 95 = .ok (.if_icmp .ne 7, 3) := by decide +kernel
theorem rX8_askOf_95 {R : zP} {x0 x1 x2 x3 x4 x5 x6 x7 x8 x9 x10 : Option zV} {st : List zV} {M : zM} {a b : Int} : uX8_askOf R 95 [x0, x1, x2, x3, x4, x5, x6, x7, x8, x9, x10] (.inl b :: .inl a :: st) M ↔ ((zIR a ∧ zIR b) ∧ if a ≠ b then uX8_askOf R 102 [x0, x1, x2, x3, x4, x5, x6, x7, x8, x9, x10] st M else uX8_askOf R 98 [x0, x1, x2, x3, x4, x5, x6, x7, x8, x9, x10] st M) := Iff.trans (zU_step dX8_askOf_95 (Or.inl rfl)) ⟨fun h => ⟨⟨h.1.1, h.1.2.1⟩, (zite (c := a ≠ b)).mpr h.2⟩, fun h => ⟨⟨h.1.1, h.1.2, by decide⟩, (zite (c := a ≠ b)).mp h.2⟩⟩
theorem dX8_askOf_98 : decode cX8_askOf 98 = .ok (.iconst 1, 1) := by decide +kernel
theorem rX8_askOf_98 {R : zP} {x0 x1 x2 x3 x4 x5 x6 x7 x8 x9 x10 : Option zV} {st : List zV} {M : zM} : uX8_askOf R 98 [x0, x1, x2, x3, x4, x5, x6, x7, x8, x9, x10] st M ↔ uX8_askOf R 99 [x0, x1, x2, x3, x4, x5, x6, x7, x8, x9, x10] (.inl (1) :: st) M := zU_step dX8_askOf_98 (Or.inl rfl)
theorem dX8_askOf_99 : decode cX8_askOf 99 = .ok (.goto 4, 3) := by decide +kernel
theorem rX8_askOf_99 {R : zP} {x0 x1 x2 x3 x4 x5 x6 x7 x8 x9 x10 : Option zV} {st : List zV} {M : zM} : uX8_askOf R 99 [x0, x1, x2, x3, x4, x5, x6, x7, x8, x9, x10] st M ↔ uX8_askOf R 103 [x0, x1, x2, x3, x4, x5, x6, x7, x8, x9, x10] st M := Iff.trans (zU_step dX8_askOf_99 (Or.inl rfl)) ⟨fun h => h.2, fun h => ⟨by decide, h⟩⟩
theorem dX8_askOf_102 : decode cX8_askOf 102 = .ok (.iconst 0, 1) := by decide +kernel
theorem rX8_askOf_102 {R : zP} {x0 x1 x2 x3 x4 x5 x6 x7 x8 x9 x10 : Option zV} {st : List zV} {M : zM} : uX8_askOf R 102 [x0, x1, x2, x3, x4, x5, x6, x7, x8, x9, x10] st M ↔ uX8_askOf R 103 [x0, x1, x2, x3, x4, x5, x6, x7, x8, x9, x10] (.inl (0) :: st) M := zU_step dX8_askOf_102 (Or.inl rfl)
theorem dX8_askOf_103 : decode cX8_askOf 103 = .ok (.iadd, 1) := by decide +kernel
theorem rX8_askOf_103 {R : zP} {x0 x1 x2 x3 x4 x5 x6 x7 x8 x9 x10 : Option zV} {st : List zV} {M : zM} {a b : Int} : uX8_askOf R 103 [x0, x1, x2, x3, x4, x5, x6, x7, x8, x9, x10] (.inl b :: .inl a :: st) M ↔ uX8_askOf R 104 [x0, x1, x2, x3, x4, x5, x6, x7, x8, x9, x10] (.inl (a + b) :: st) M := zU_step dX8_askOf_103 (Or.inl rfl)
theorem dX8_askOf_104 : decode cX8_askOf 104 = .ok (.istore 9, 2) := by decide +kernel
theorem rX8_askOf_104 {R : zP} {x0 x1 x2 x3 x4 x5 x6 x7 x9 x10 : Option zV} {st : List zV} {M : zM} {a : Int} {y : Int} : uX8_askOf R 104 [x0, x1, x2, x3, x4, x5, x6, x7, some (.inl y), x9, x10] (.inl a :: st) M ↔ uX8_askOf R 106 [x0, x1, x2, x3, x4, x5, x6, x7, some (.inl y), some (.inl a), x10] st M := Iff.trans (zU_step dX8_askOf_104 (Or.inl rfl)) ⟨fun h => h.2, fun h => ⟨show 9 < 11 by decide, h⟩⟩
theorem rX8_askOf_104z {R : zP} {x0 x1 x2 x3 x4 x5 x6 x7 x8 x9 x10 : Option zV} {st : List zV} {M : zM} {a : Int} : uX8_askOf R 104 [x0, x1, x2, x3, x4, x5, x6, x7, x8, x9, x10] (.inl a :: st) M ↔ uX8_askOf R 106 [x0, x1, x2, x3, x4, x5, x6, x7, zkeep x8, some (.inl a), x10] st M := Iff.trans (zU_step dX8_askOf_104 (Or.inl rfl)) ⟨fun h => h.2, fun h => ⟨show 9 < 11 by decide, h⟩⟩
theorem dX8_askOf_106 : decode cX8_askOf 106 = .ok (.iinc 10 1, 3) := by decide +kernel
theorem rX8_askOf_106 {R : zP} {x0 x1 x2 x3 x4 x5 x6 x7 x8 : Option zV} {st : List zV} {M : zM} {a : Int} {y : Int} : uX8_askOf R 106 [x0, x1, x2, x3, x4, x5, x6, x7, x8, some (.inl y), some (.inl a)] st M ↔ uX8_askOf R 109 [x0, x1, x2, x3, x4, x5, x6, x7, x8, some (.inl y), some (.inl (a + (1)))] st M := Iff.trans (zU_step dX8_askOf_106 (Or.inl rfl)) ⟨fun h => h.2, fun h => ⟨show 10 < 11 by decide, h⟩⟩
theorem rX8_askOf_106z {R : zP} {x0 x1 x2 x3 x4 x5 x6 x7 x8 x9 : Option zV} {st : List zV} {M : zM} {a : Int} : uX8_askOf R 106 [x0, x1, x2, x3, x4, x5, x6, x7, x8, x9, some (.inl a)] st M ↔ uX8_askOf R 109 [x0, x1, x2, x3, x4, x5, x6, x7, x8, zkeep x9, some (.inl (a + (1)))] st M := Iff.trans (zU_step dX8_askOf_106 (Or.inl rfl)) ⟨fun h => h.2, fun h => ⟨show 10 < 11 by decide, h⟩⟩
theorem dX8_askOf_109 : decode cX8_askOf 109 = .ok (.goto (-67), 3) := by decide +kernel
theorem rX8_askOf_109 {R : zP} {x0 x1 x2 x3 x4 x5 x6 x7 x8 x9 x10 : Option zV} {st : List zV} {M : zM} : uX8_askOf R 109 [x0, x1, x2, x3, x4, x5, x6, x7, x8, x9, x10] st M ↔ uX8_askOf R 42 [x0, x1, x2, x3, x4, x5, x6, x7, x8, x9, x10] st M := Iff.trans (zU_step dX8_askOf_109 (Or.inl rfl)) ⟨fun h => h.2, fun h => ⟨by decide, h⟩⟩
theorem dX8_askOf_112 : decode cX8_askOf 112 = .ok (.iload 9, 2) := by decide +kernel
theorem rX8_askOf_112 {R : zP} {x0 x1 x2 x3 x4 x5 x6 x7 x8 x10 : Option zV} {st : List zV} {M : zM} {a : Int} : uX8_askOf R 112 [x0, x1, x2, x3, x4, x5, x6, x7, x8, some (.inl a), x10] st M ↔ uX8_askOf R 114 [x0, x1, x2, x3, x4, x5, x6, x7, x8, some (.inl a), x10] (.inl a :: st) M := zU_step dX8_askOf_112 (Or.inl rfl)
theorem dX8_askOf_114 : decode cX8_askOf 114 = .ok (.iload 7, 2) := by decide +kernel
theorem rX8_askOf_114 {R : zP} {x0 x1 x2 x3 x4 x5 x6 x8 x9 x10 : Option zV} {st : List zV} {M : zM} {a : Int} : uX8_askOf R 114 [x0, x1, x2, x3, x4, x5, x6, some (.inl a), x8, x9, x10] st M ↔ uX8_askOf R 116 [x0, x1, x2, x3, x4, x5, x6, some (.inl a), x8, x9, x10] (.inl a :: st) M := zU_step dX8_askOf_114 (Or.inl rfl)
theorem dX8_askOf_116 : decode cX8_askOf 116 = .ok (.if_icmp .le 8, 3) := by decide +kernel
theorem rX8_askOf_116 {R : zP} {x0 x1 x2 x3 x4 x5 x6 x7 x8 x9 x10 : Option zV} {st : List zV} {M : zM} {a b : Int} : uX8_askOf R 116 [x0, x1, x2, x3, x4, x5, x6, x7, x8, x9, x10] (.inl b :: .inl a :: st) M ↔ ((zIR a ∧ zIR b) ∧ if a ≤ b then uX8_askOf R 124 [x0, x1, x2, x3, x4, x5, x6, x7, x8, x9, x10] st M else uX8_askOf R 119 [x0, x1, x2, x3, x4, x5, x6, x7, x8, x9, x10] st M) := Iff.trans (zU_step dX8_askOf_116 (Or.inl rfl)) ⟨fun h => ⟨⟨h.1.1, h.1.2.1⟩, (zite (c := a ≤ b)).mpr h.2⟩, fun h => ⟨⟨h.1.1, h.1.2, by decide⟩, (zite (c := a ≤ b)).mp h.2⟩⟩
theorem dX8_askOf_119 : decode cX8_askOf 119 = .ok (.iload 9, 2) := by decide +kernel
theorem rX8_askOf_119 {R : zP} {x0 x1 x2 x3 x4 x5 x6 x7 x8 x10 : Option zV} {st : List zV} {M : zM} {a : Int} : uX8_askOf R 119 [x0, x1, x2, x3, x4, x5, x6, x7, x8, some (.inl a), x10] st M ↔ uX8_askOf R 121 [x0, x1, x2, x3, x4, x5, x6, x7, x8, some (.inl a), x10] (.inl a :: st) M := zU_step dX8_askOf_119 (Or.inl rfl)
theorem dX8_askOf_121 : decode cX8_askOf 121 = .ok (.goto 5, 3) := by decide +kernel
theorem rX8_askOf_121 {R : zP} {x0 x1 x2 x3 x4 x5 x6 x7 x8 x9 x10 : Option zV} {st : List zV} {M : zM} : uX8_askOf R 121 [x0, x1, x2, x3, x4, x5, x6, x7, x8, x9, x10] st M ↔ uX8_askOf R 126 [x0, x1, x2, x3, x4, x5, x6, x7, x8, x9, x10] st M := Iff.trans (zU_step dX8_askOf_121 (Or.inl rfl)) ⟨fun h => h.2, fun h => ⟨by decide, h⟩⟩
theorem dX8_askOf_124 : decode cX8_askOf 124 = .ok (.iload 7, 2) := by decide +kernel
theorem rX8_askOf_124 {R : zP} {x0 x1 x2 x3 x4 x5 x6 x8 x9 x10 : Option zV} {st : List zV} {M : zM} {a : Int} : uX8_askOf R 124 [x0, x1, x2, x3, x4, x5, x6, some (.inl a), x8, x9, x10] st M ↔ uX8_askOf R 126 [x0, x1, x2, x3, x4, x5, x6, some (.inl a), x8, x9, x10] (.inl a :: st) M := zU_step dX8_askOf_124 (Or.inl rfl)
theorem dX8_askOf_126 : decode cX8_askOf 126 = .ok (.istore 7, 2) := by decide +kernel
theorem rX8_askOf_126 {R : zP} {x0 x1 x2 x3 x4 x5 x7 x8 x9 x10 : Option zV} {st : List zV} {M : zM} {a : Int} {y : Int} : uX8_askOf R 126 [x0, x1, x2, x3, x4, x5, some (.inl y), x7, x8, x9, x10] (.inl a :: st) M ↔ uX8_askOf R 128 [x0, x1, x2, x3, x4, x5, some (.inl y), some (.inl a), x8, x9, x10] st M := Iff.trans (zU_step dX8_askOf_126 (Or.inl rfl)) ⟨fun h => h.2, fun h => ⟨show 7 < 11 by decide, h⟩⟩
theorem rX8_askOf_126z {R : zP} {x0 x1 x2 x3 x4 x5 x6 x7 x8 x9 x10 : Option zV} {st : List zV} {M : zM} {a : Int} : uX8_askOf R 126 [x0, x1, x2, x3, x4, x5, x6, x7, x8, x9, x10] (.inl a :: st) M ↔ uX8_askOf R 128 [x0, x1, x2, x3, x4, x5, zkeep x6, some (.inl a), x8, x9, x10] st M := Iff.trans (zU_step dX8_askOf_126 (Or.inl rfl)) ⟨fun h => h.2, fun h => ⟨show 7 < 11 by decide, h⟩⟩
theorem dX8_askOf_128 : decode cX8_askOf 128 = .ok (.iinc 8 1, 3) := by decide +kernel
theorem rX8_askOf_128 {R : zP} {x0 x1 x2 x3 x4 x5 x6 x9 x10 : Option zV} {st : List zV} {M : zM} {a : Int} {y : Int} : uX8_askOf R 128 [x0, x1, x2, x3, x4, x5, x6, some (.inl y), some (.inl a), x9, x10] st M ↔ uX8_askOf R 131 [x0, x1, x2, x3, x4, x5, x6, some (.inl y), some (.inl (a + (1))), x9, x10] st M := Iff.trans (zU_step dX8_askOf_128 (Or.inl rfl)) ⟨fun h => h.2, fun h => ⟨show 8 < 11 by decide, h⟩⟩
theorem rX8_askOf_128z {R : zP} {x0 x1 x2 x3 x4 x5 x6 x7 x9 x10 : Option zV} {st : List zV} {M : zM} {a : Int} : uX8_askOf R 128 [x0, x1, x2, x3, x4, x5, x6, x7, some (.inl a), x9, x10] st M ↔ uX8_askOf R 131 [x0, x1, x2, x3, x4, x5, x6, zkeep x7, some (.inl (a + (1))), x9, x10] st M := Iff.trans (zU_step dX8_askOf_128 (Or.inl rfl)) ⟨fun h => h.2, fun h => ⟨show 8 < 11 by decide, h⟩⟩
theorem dX8_askOf_131 : decode cX8_askOf 131 = .ok (.goto (-102), 3) := by decide +kernel
theorem rX8_askOf_131 {R : zP} {x0 x1 x2 x3 x4 x5 x6 x7 x8 x9 x10 : Option zV} {st : List zV} {M : zM} : uX8_askOf R 131 [x0, x1, x2, x3, x4, x5, x6, x7, x8, x9, x10] st M ↔ uX8_askOf R 29 [x0, x1, x2, x3, x4, x5, x6, x7, x8, x9, x10] st M := Iff.trans (zU_step dX8_askOf_131 (Or.inl rfl)) ⟨fun h => h.2, fun h => ⟨by decide, h⟩⟩
theorem dX8_askOf_134 : decode cX8_askOf 134 = .ok (.iload 4, 2) := by decide +kernel
theorem rX8_askOf_134 {R : zP} {x0 x1 x2 x3 x5 x6 x7 x8 x9 x10 : Option zV} {st : List zV} {M : zM} {a : Int} : uX8_askOf R 134 [x0, x1, x2, x3, some (.inl a), x5, x6, x7, x8, x9, x10] st M ↔ uX8_askOf R 136 [x0, x1, x2, x3, some (.inl a), x5, x6, x7, x8, x9, x10] (.inl a :: st) M := zU_step dX8_askOf_134 (Or.inl rfl)
theorem dX8_askOf_136 : decode cX8_askOf 136 = .ok (.iconst (-1), 1) := by decide +kernel
theorem rX8_askOf_136 {R : zP} {x0 x1 x2 x3 x4 x5 x6 x7 x8 x9 x10 : Option zV} {st : List zV} {M : zM} : uX8_askOf R 136 [x0, x1, x2, x3, x4, x5, x6, x7, x8, x9, x10] st M ↔ uX8_askOf R 137 [x0, x1, x2, x3, x4, x5, x6, x7, x8, x9, x10] (.inl (-1) :: st) M := zU_step dX8_askOf_136 (Or.inl rfl)
theorem dX8_askOf_137 : decode cX8_askOf 137 = .ok (.if_icmp .eq 10, 3) := by decide +kernel
theorem rX8_askOf_137 {R : zP} {x0 x1 x2 x3 x4 x5 x6 x7 x8 x9 x10 : Option zV} {st : List zV} {M : zM} {a b : Int} : uX8_askOf R 137 [x0, x1, x2, x3, x4, x5, x6, x7, x8, x9, x10] (.inl b :: .inl a :: st) M ↔ ((zIR a ∧ zIR b) ∧ if a = b then uX8_askOf R 147 [x0, x1, x2, x3, x4, x5, x6, x7, x8, x9, x10] st M else uX8_askOf R 140 [x0, x1, x2, x3, x4, x5, x6, x7, x8, x9, x10] st M) := Iff.trans (zU_step dX8_askOf_137 (Or.inl rfl)) ⟨fun h => ⟨⟨h.1.1, h.1.2.1⟩, (zite (c := a = b)).mpr h.2⟩, fun h => ⟨⟨h.1.1, h.1.2, by decide⟩, (zite (c := a = b)).mp h.2⟩⟩
theorem dX8_askOf_140 : decode cX8_askOf 140 = .ok (.iload 7, 2) := by decide +kernel
theorem rX8_askOf_140 {R : zP} {x0 x1 x2 x3 x4 x5 x6 x8 x9 x10 : Option zV} {st : List zV} {M : zM} {a : Int} : uX8_askOf R 140 [x0, x1, x2, x3, x4, x5, x6, some (.inl a), x8, x9, x10] st M ↔ uX8_askOf R 142 [x0, x1, x2, x3, x4, x5, x6, some (.inl a), x8, x9, x10] (.inl a :: st) M := zU_step dX8_askOf_140 (Or.inl rfl)
theorem dX8_askOf_142 : decode cX8_askOf 142 = .ok (.iload 5, 2) := by decide +kernel
theorem rX8_askOf_142 {R : zP} {x0 x1 x2 x3 x4 x6 x7 x8 x9 x10 : Option zV} {st : List zV} {M : zM} {a : Int} : uX8_askOf R 142 [x0, x1, x2, x3, x4, some (.inl a), x6, x7, x8, x9, x10] st M ↔ uX8_askOf R 144 [x0, x1, x2, x3, x4, some (.inl a), x6, x7, x8, x9, x10] (.inl a :: st) M := zU_step dX8_askOf_142 (Or.inl rfl)
theorem dX8_askOf_144 : decode cX8_askOf 144 = .ok (.if_icmp .ge 7, 3) := by decide +kernel
theorem rX8_askOf_144 {R : zP} {x0 x1 x2 x3 x4 x5 x6 x7 x8 x9 x10 : Option zV} {st : List zV} {M : zM} {a b : Int} : uX8_askOf R 144 [x0, x1, x2, x3, x4, x5, x6, x7, x8, x9, x10] (.inl b :: .inl a :: st) M ↔ ((zIR a ∧ zIR b) ∧ if b ≤ a then uX8_askOf R 151 [x0, x1, x2, x3, x4, x5, x6, x7, x8, x9, x10] st M else uX8_askOf R 147 [x0, x1, x2, x3, x4, x5, x6, x7, x8, x9, x10] st M) := Iff.trans (zU_step dX8_askOf_144 (Or.inl rfl)) ⟨fun h => ⟨⟨h.1.1, h.1.2.1⟩, (zite (c := b ≤ a)).mpr h.2⟩, fun h => ⟨⟨h.1.1, h.1.2, by decide⟩, (zite (c := b ≤ a)).mp h.2⟩⟩
theorem dX8_askOf_147 : decode cX8_askOf 147 = .ok (.iconst 1, 1) := by decide +kernel
theorem rX8_askOf_147 {R : zP} {x0 x1 x2 x3 x4 x5 x6 x7 x8 x9 x10 : Option zV} {st : List zV} {M : zM} : uX8_askOf R 147 [x0, x1, x2, x3, x4, x5, x6, x7, x8, x9, x10] st M ↔ uX8_askOf R 148 [x0, x1, x2, x3, x4, x5, x6, x7, x8, x9, x10] (.inl (1) :: st) M := zU_step dX8_askOf_147 (Or.inl rfl)
theorem dX8_askOf_148 : decode cX8_askOf 148 = .ok (.goto 4, 3) := by decide +kernel
theorem rX8_askOf_148 {R : zP} {x0 x1 x2 x3 x4 x5 x6 x7 x8 x9 x10 : Option zV} {st : List zV} {M : zM} : uX8_askOf R 148 [x0, x1, x2, x3, x4, x5, x6, x7, x8, x9, x10] st M ↔ uX8_askOf R 152 [x0, x1, x2, x3, x4, x5, x6, x7, x8, x9, x10] st M := Iff.trans (zU_step dX8_askOf_148 (Or.inl rfl)) ⟨fun h => h.2, fun h => ⟨by decide, h⟩⟩
theorem dX8_askOf_151 : decode cX8_askOf 151 = .ok (.iconst 0, 1) := by decide +kernel
theorem rX8_askOf_151 {R : zP} {x0 x1 x2 x3 x4 x5 x6 x7 x8 x9 x10 : Option zV} {st : List zV} {M : zM} : uX8_askOf R 151 [x0, x1, x2, x3, x4, x5, x6, x7, x8, x9, x10] st M ↔ uX8_askOf R 152 [x0, x1, x2, x3, x4, x5, x6, x7, x8, x9, x10] (.inl (0) :: st) M := zU_step dX8_askOf_151 (Or.inl rfl)
theorem dX8_askOf_152 : decode cX8_askOf 152 = .ok (.istore 8, 2) := by decide +kernel
theorem rX8_askOf_152 {R : zP} {x0 x1 x2 x3 x4 x5 x6 x8 x9 x10 : Option zV} {st : List zV} {M : zM} {a : Int} {y : Int} : uX8_askOf R 152 [x0, x1, x2, x3, x4, x5, x6, some (.inl y), x8, x9, x10] (.inl a :: st) M ↔ uX8_askOf R 154 [x0, x1, x2, x3, x4, x5, x6, some (.inl y), some (.inl a), x9, x10] st M := Iff.trans (zU_step dX8_askOf_152 (Or.inl rfl)) ⟨fun h => h.2, fun h => ⟨show 8 < 11 by decide, h⟩⟩
theorem rX8_askOf_152z {R : zP} {x0 x1 x2 x3 x4 x5 x6 x7 x8 x9 x10 : Option zV} {st : List zV} {M : zM} {a : Int} : uX8_askOf R 152 [x0, x1, x2, x3, x4, x5, x6, x7, x8, x9, x10] (.inl a :: st) M ↔ uX8_askOf R 154 [x0, x1, x2, x3, x4, x5, x6, zkeep x7, some (.inl a), x9, x10] st M := Iff.trans (zU_step dX8_askOf_152 (Or.inl rfl)) ⟨fun h => h.2, fun h => ⟨show 8 < 11 by decide, h⟩⟩
theorem dX8_askOf_154 : decode cX8_askOf 154 = .ok (.iload 8, 2) := by decide +kernel
theorem rX8_askOf_154 {R : zP} {x0 x1 x2 x3 x4 x5 x6 x7 x9 x10 : Option zV} {st : List zV} {M : zM} {a : Int} : uX8_askOf R 154 [x0, x1, x2, x3, x4, x5, x6, x7, some (.inl a), x9, x10] st M ↔ uX8_askOf R 156 [x0, x1, x2, x3, x4, x5, x6, x7, some (.inl a), x9, x10] (.inl a :: st) M := zU_step dX8_askOf_154 (Or.inl rfl)
theorem dX8_askOf_156 : decode cX8_askOf 156 = .ok (.ifCond .eq 8, 3) := by decide +kernel
theorem rX8_askOf_156 {R : zP} {x0 x1 x2 x3 x4 x5 x6 x7 x8 x9 x10 : Option zV} {st : List zV} {M : zM} {a : Int} : uX8_askOf R 156 [x0, x1, x2, x3, x4, x5, x6, x7, x8, x9, x10] (.inl a :: st) M ↔ (zIR a ∧ if a = 0 then uX8_askOf R 164 [x0, x1, x2, x3, x4, x5, x6, x7, x8, x9, x10] st M else uX8_askOf R 159 [x0, x1, x2, x3, x4, x5, x6, x7, x8, x9, x10] st M) := Iff.trans (zU_step dX8_askOf_156 (Or.inl rfl)) ⟨fun h => ⟨h.1.1, (zite (c := a = 0)).mpr h.2⟩, fun h => ⟨⟨h.1, by decide⟩, (zite (c := a = 0)).mp h.2⟩⟩
theorem dX8_askOf_159 : decode cX8_askOf 159 = .ok (.iload 6, 2) := by decide +kernel
theorem rX8_askOf_159 {R : zP} {x0 x1 x2 x3 x4 x5 x7 x8 x9 x10 : Option zV} {st : List zV} {M : zM} {a : Int} : uX8_askOf R 159 [x0, x1, x2, x3, x4, x5, some (.inl a), x7, x8, x9, x10] st M ↔ uX8_askOf R 161 [x0, x1, x2, x3, x4, x5, some (.inl a), x7, x8, x9, x10] (.inl a :: st) M := zU_step dX8_askOf_159 (Or.inl rfl)
theorem dX8_askOf_161 : decode cX8_askOf 161 = .ok (.goto 5, 3) := by decide +kernel
theorem rX8_askOf_161 {R : zP} {x0 x1 x2 x3 x4 x5 x6 x7 x8 x9 x10 : Option zV} {st : List zV} {M : zM} : uX8_askOf R 161 [x0, x1, x2, x3, x4, x5, x6, x7, x8, x9, x10] st M ↔ uX8_askOf R 166 [x0, x1, x2, x3, x4, x5, x6, x7, x8, x9, x10] st M := Iff.trans (zU_step dX8_askOf_161 (Or.inl rfl)) ⟨fun h => h.2, fun h => ⟨by decide, h⟩⟩
theorem dX8_askOf_164 : decode cX8_askOf 164 = .ok (.iload 4, 2) := by decide +kernel
theorem rX8_askOf_164 {R : zP} {x0 x1 x2 x3 x5 x6 x7 x8 x9 x10 : Option zV} {st : List zV} {M : zM} {a : Int} : uX8_askOf R 164 [x0, x1, x2, x3, some (.inl a), x5, x6, x7, x8, x9, x10] st M ↔ uX8_askOf R 166 [x0, x1, x2, x3, some (.inl a), x5, x6, x7, x8, x9, x10] (.inl a :: st) M := zU_step dX8_askOf_164 (Or.inl rfl)
theorem dX8_askOf_166 : decode cX8_askOf 166 = .ok (.istore 4, 2) := by decide +kernel
theorem rX8_askOf_166 {R : zP} {x0 x1 x2 x4 x5 x6 x7 x8 x9 x10 : Option zV} {st : List zV} {M : zM} {a : Int} {y : Int} : uX8_askOf R 166 [x0, x1, x2, some (.inl y), x4, x5, x6, x7, x8, x9, x10] (.inl a :: st) M ↔ uX8_askOf R 168 [x0, x1, x2, some (.inl y), some (.inl a), x5, x6, x7, x8, x9, x10] st M := Iff.trans (zU_step dX8_askOf_166 (Or.inl rfl)) ⟨fun h => h.2, fun h => ⟨show 4 < 11 by decide, h⟩⟩
theorem rX8_askOf_166z {R : zP} {x0 x1 x2 x3 x4 x5 x6 x7 x8 x9 x10 : Option zV} {st : List zV} {M : zM} {a : Int} : uX8_askOf R 166 [x0, x1, x2, x3, x4, x5, x6, x7, x8, x9, x10] (.inl a :: st) M ↔ uX8_askOf R 168 [x0, x1, x2, zkeep x3, some (.inl a), x5, x6, x7, x8, x9, x10] st M := Iff.trans (zU_step dX8_askOf_166 (Or.inl rfl)) ⟨fun h => h.2, fun h => ⟨show 4 < 11 by decide, h⟩⟩
theorem dX8_askOf_168 : decode cX8_askOf 168 = .ok (.iload 8, 2) := by decide +kernel
theorem rX8_askOf_168 {R : zP} {x0 x1 x2 x3 x4 x5 x6 x7 x9 x10 : Option zV} {st : List zV} {M : zM} {a : Int} : uX8_askOf R 168 [x0, x1, x2, x3, x4, x5, x6, x7, some (.inl a), x9, x10] st M ↔ uX8_askOf R 170 [x0, x1, x2, x3, x4, x5, x6, x7, some (.inl a), x9, x10] (.inl a :: st) M := zU_step dX8_askOf_168 (Or.inl rfl)
theorem dX8_askOf_170 : decode cX8_askOf 170 = .ok (.ifCond .eq 8, 3) := by decide +kernel
theorem rX8_askOf_170 {R : zP} {x0 x1 x2 x3 x4 x5 x6 x7 x8 x9 x10 : Option zV} {st : List zV} {M : zM} {a : Int} : uX8_askOf R 170 [x0, x1, x2, x3, x4, x5, x6, x7, x8, x9, x10] (.inl a :: st) M ↔ (zIR a ∧ if a = 0 then uX8_askOf R 178 [x0, x1, x2, x3, x4, x5, x6, x7, x8, x9, x10] st M else uX8_askOf R 173 [x0, x1, x2, x3, x4, x5, x6, x7, x8, x9, x10] st M) := Iff.trans (zU_step dX8_askOf_170 (Or.inl rfl)) ⟨fun h => ⟨h.1.1, (zite (c := a = 0)).mpr h.2⟩, fun h => ⟨⟨h.1, by decide⟩, (zite (c := a = 0)).mp h.2⟩⟩
theorem dX8_askOf_173 : decode cX8_askOf 173 = .ok (.iload 7, 2) := by decide +kernel
theorem rX8_askOf_173 {R : zP} {x0 x1 x2 x3 x4 x5 x6 x8 x9 x10 : Option zV} {st : List zV} {M : zM} {a : Int} : uX8_askOf R 173 [x0, x1, x2, x3, x4, x5, x6, some (.inl a), x8, x9, x10] st M ↔ uX8_askOf R 175 [x0, x1, x2, x3, x4, x5, x6, some (.inl a), x8, x9, x10] (.inl a :: st) M := zU_step dX8_askOf_173 (Or.inl rfl)
theorem dX8_askOf_175 : decode cX8_askOf 175 = .ok (.goto 5, 3) := by decide +kernel
theorem rX8_askOf_175 {R : zP} {x0 x1 x2 x3 x4 x5 x6 x7 x8 x9 x10 : Option zV} {st : List zV} {M : zM} : uX8_askOf R 175 [x0, x1, x2, x3, x4, x5, x6, x7, x8, x9, x10] st M ↔ uX8_askOf R 180 [x0, x1, x2, x3, x4, x5, x6, x7, x8, x9, x10] st M := Iff.trans (zU_step dX8_askOf_175 (Or.inl rfl)) ⟨fun h => h.2, fun h => ⟨by decide, h⟩⟩
theorem dX8_askOf_178 : decode cX8_askOf 178 = .ok (.iload 5, 2) := by decide +kernel
theorem rX8_askOf_178 {R : zP} {x0 x1 x2 x3 x4 x6 x7 x8 x9 x10 : Option zV} {st : List zV} {M : zM} {a : Int} : uX8_askOf R 178 [x0, x1, x2, x3, x4, some (.inl a), x6, x7, x8, x9, x10] st M ↔ uX8_askOf R 180 [x0, x1, x2, x3, x4, some (.inl a), x6, x7, x8, x9, x10] (.inl a :: st) M := zU_step dX8_askOf_178 (Or.inl rfl)
theorem dX8_askOf_180 : decode cX8_askOf 180 = .ok (.istore 5, 2) := by decide +kernel
theorem rX8_askOf_180 {R : zP} {x0 x1 x2 x3 x5 x6 x7 x8 x9 x10 : Option zV} {st : List zV} {M : zM} {a : Int} {y : Int} : uX8_askOf R 180 [x0, x1, x2, x3, some (.inl y), x5, x6, x7, x8, x9, x10] (.inl a :: st) M ↔ uX8_askOf R 182 [x0, x1, x2, x3, some (.inl y), some (.inl a), x6, x7, x8, x9, x10] st M := Iff.trans (zU_step dX8_askOf_180 (Or.inl rfl)) ⟨fun h => h.2, fun h => ⟨show 5 < 11 by decide, h⟩⟩
theorem rX8_askOf_180z {R : zP} {x0 x1 x2 x3 x4 x5 x6 x7 x8 x9 x10 : Option zV} {st : List zV} {M : zM} {a : Int} : uX8_askOf R 180 [x0, x1, x2, x3, x4, x5, x6, x7, x8, x9, x10] (.inl a :: st) M ↔ uX8_askOf R 182 [x0, x1, x2, x3, zkeep x4, some (.inl a), x6, x7, x8, x9, x10] st M := Iff.trans (zU_step dX8_askOf_180 (Or.inl rfl)) ⟨fun h => h.2, fun h => ⟨show 5 < 11 by decide, h⟩⟩
theorem dX8_askOf_182 : decode cX8_askOf 182 = .ok (.iinc 6 1, 3) := by decide +kernel
theorem rX8_askOf_182 {R : zP} {x0 x1 x2 x3 x4 x7 x8 x9 x10 : Option zV} {st : List zV} {M : zM} {a : Int} {y : Int} : uX8_askOf R 182 [x0, x1, x2, x3, x4, some (.inl y), some (.inl a), x7, x8, x9, x10] st M ↔ uX8_askOf R 185 [x0, x1, x2, x3, x4, some (.inl y), some (.inl (a + (1))), x7, x8, x9, x10] st M := Iff.trans (zU_step dX8_askOf_182 (Or.inl rfl)) ⟨fun h => h.2, fun h => ⟨show 6 < 11 by decide, h⟩⟩
theorem rX8_askOf_182z {R : zP} {x0 x1 x2 x3 x4 x5 x7 x8 x9 x10 : Option zV} {st : List zV} {M : zM} {a : Int} : uX8_askOf R 182 [x0, x1, x2, x3, x4, x5, some (.inl a), x7, x8, x9, x10] st M ↔ uX8_askOf R 185 [x0, x1, x2, x3, x4, zkeep x5, some (.inl (a + (1))), x7, x8, x9, x10] st M := Iff.trans (zU_step dX8_askOf_182 (Or.inl rfl)) ⟨fun h => h.2, fun h => ⟨show 6 < 11 by decide, h⟩⟩
theorem dX8_askOf_185 : decode cX8_askOf 185 = .ok (.goto (-169), 3) := by decide +kernel
theorem rX8_askOf_185 {R : zP} {x0 x1 x2 x3 x4 x5 x6 x7 x8 x9 x10 : Option zV} {st : List zV} {M : zM} : uX8_askOf R 185 [x0, x1, x2, x3, x4, x5, x6, x7, x8, x9, x10] st M ↔ uX8_askOf R 16 [x0, x1, x2, x3, x4, x5, x6, x7, x8, x9, x10] st M := Iff.trans (zU_step dX8_askOf_185 (Or.inl rfl)) ⟨fun h => h.2, fun h => ⟨by decide, h⟩⟩
theorem dX8_askOf_188 : decode cX8_askOf 188 = .ok (.iload 4, 2) := by decide +kernel
theorem rX8_askOf_188 {R : zP} {x0 x1 x2 x3 x5 x6 x7 x8 x9 x10 : Option zV} {st : List zV} {M : zM} {a : Int} : uX8_askOf R 188 [x0, x1, x2, x3, some (.inl a), x5, x6, x7, x8, x9, x10] st M ↔ uX8_askOf R 190 [x0, x1, x2, x3, some (.inl a), x5, x6, x7, x8, x9, x10] (.inl a :: st) M := zU_step dX8_askOf_188 (Or.inl rfl)
theorem dX8_askOf_190 : decode cX8_askOf 190 = .ok (.ireturn, 1) := by decide +kernel
theorem rX8_askOf_190 {R : zP} {x0 x1 x2 x3 x4 x5 x6 x7 x8 x9 x10 : Option zV} {M : zM} {a : Int} : uX8_askOf R 190 [x0, x1, x2, x3, x4, x5, x6, x7, x8, x9, x10] [.inl a] M ↔ R (some (.inl a)) M := Iff.trans (zU_step dX8_askOf_190 (Or.inl rfl)) ⟨fun h => h.2.2, fun h => ⟨rfl, Or.inl rfl, h⟩⟩
theorem eX8_askOf {R : zP} {M : zM} {a0 : Nat} {p0 : Int} {p1 : Int} : tX8_askOf [.inr (.inr a0), .inl p0, .inl p1] M R ↔ uX8_askOf R 0 [some (.inr (.inr a0)), some (.inl p0), some (.inl p1), none, none, none, none, none, none, none, none] [] M := ⟨fun h => h.2, fun h => ⟨show 3 ≤ 11 by decide, h⟩⟩
def uX8_ask (R : zP) : zK := zU fX8 vX8_ask cX8_ask R
theorem dX8_ask_0 : decode cX8_ask 0 = .ok (.aload_n 0, 1) := by decide +kernel
theorem rX8_ask_0 {R : zP} {x1 x2 : Option zV} {st : List zV} {M : zM} {a : Nat} : uX8_ask R 0 [some (.inr (.inr a)), x1, x2] st M ↔ uX8_ask R 1 [some (.inr (.inr a)), x1, x2] (.inr (.inr a) :: st) M := zU_step dX8_ask_0 (Or.inl rfl)
theorem dX8_ask_1 : decode cX8_ask 1 = .ok (.iload_n 1, 1) := by decide +kernel
theorem rX8_ask_1 {R : zP} {x0 x2 : Option zV} {st : List zV} {M : zM} {a : Int} : uX8_ask R 1 [x0, some (.inl a), x2] st M ↔ uX8_ask R 2 [x0, some (.inl a), x2] (.inl a :: st) M := zU_step dX8_ask_1 (Or.inl rfl)
theorem dX8_ask_2 : decode cX8_ask 2 = .ok (.invokevirtual 148, 3) := by decide +kernel
theorem rX8_ask_2 {R : zP} {x0 x1 x2 : Option zV} {st : List zV} {M : zM} {a0 a1 : zV} : uX8_ask R 2 [x0, x1, x2] (a1 :: a0 :: st) M ↔ (st.length ≤ 4 ∧ zcv (zv 8 tX8_isMember) [a0, a1] M (fun v M => uX8_ask R 5 [x0, x1, x2] (v :: st) M)) := Iff.trans (zU_step dX8_ask_2 (Or.inl rfl)) ⟨fun h => ⟨h.2.1, zcv_of h.2.2⟩, fun h => ⟨rfl, h.1, zcv_to h.2⟩⟩
theorem dX8_ask_5 : decode cX8_ask 5 = .ok (.ifCond .eq 19, 3) := by decide +kernel
theorem rX8_ask_5 {R : zP} {x0 x1 x2 : Option zV} {st : List zV} {M : zM} {a : Int} : uX8_ask R 5 [x0, x1, x2] (.inl a :: st) M ↔ (zIR a ∧ if a = 0 then uX8_ask R 24 [x0, x1, x2] st M else uX8_ask R 8 [x0, x1, x2] st M) := Iff.trans (zU_step dX8_ask_5 (Or.inl rfl)) ⟨fun h => ⟨h.1.1, (zite (c := a = 0)).mpr h.2⟩, fun h => ⟨⟨h.1, by decide⟩, (zite (c := a = 0)).mp h.2⟩⟩
theorem dX8_ask_8 : decode cX8_ask 8 = .ok (.iload_n 2, 1) := by decide +kernel
theorem rX8_ask_8 {R : zP} {x0 x1 : Option zV} {st : List zV} {M : zM} {a : Int} : uX8_ask R 8 [x0, x1, some (.inl a)] st M ↔ uX8_ask R 9 [x0, x1, some (.inl a)] (.inl a :: st) M := zU_step dX8_ask_8 (Or.inl rfl)
theorem dX8_ask_9 : decode cX8_ask 9 = .ok (.invokestatic 208, 3) := by decide +kernel
theorem rX8_ask_9 {R : zP} {x0 x1 x2 : Option zV} {st : List zV} {M : zM} {a0 : zV} : uX8_ask R 9 [x0, x1, x2] (a0 :: st) M ↔ (st.length ≤ 4 ∧ zcv tX8_isQuestion [a0] M (fun v M => uX8_ask R 12 [x0, x1, x2] (v :: st) M)) := Iff.trans (zU_step dX8_ask_9 (Or.inl rfl)) ⟨fun h => ⟨h.2.1, zcv_of h.2.2⟩, fun h => ⟨rfl, h.1, zcv_to h.2⟩⟩
theorem dX8_ask_12 : decode cX8_ask 12 = .ok (.ifCond .eq 12, 3) := by decide +kernel
theorem rX8_ask_12 {R : zP} {x0 x1 x2 : Option zV} {st : List zV} {M : zM} {a : Int} : uX8_ask R 12 [x0, x1, x2] (.inl a :: st) M ↔ (zIR a ∧ if a = 0 then uX8_ask R 24 [x0, x1, x2] st M else uX8_ask R 15 [x0, x1, x2] st M) := Iff.trans (zU_step dX8_ask_12 (Or.inl rfl)) ⟨fun h => ⟨h.1.1, (zite (c := a = 0)).mpr h.2⟩, fun h => ⟨⟨h.1, by decide⟩, (zite (c := a = 0)).mp h.2⟩⟩
theorem dX8_ask_15 : decode cX8_ask 15 = .ok (.aload_n 0, 1) := by decide +kernel
theorem rX8_ask_15 {R : zP} {x1 x2 : Option zV} {st : List zV} {M : zM} {a : Nat} : uX8_ask R 15 [some (.inr (.inr a)), x1, x2] st M ↔ uX8_ask R 16 [some (.inr (.inr a)), x1, x2] (.inr (.inr a) :: st) M := zU_step dX8_ask_15 (Or.inl rfl)
theorem dX8_ask_16 : decode cX8_ask 16 = .ok (.iload_n 1, 1) := by decide +kernel
theorem rX8_ask_16 {R : zP} {x0 x2 : Option zV} {st : List zV} {M : zM} {a : Int} : uX8_ask R 16 [x0, some (.inl a), x2] st M ↔ uX8_ask R 17 [x0, some (.inl a), x2] (.inl a :: st) M := zU_step dX8_ask_16 (Or.inl rfl)
theorem dX8_ask_17 : decode cX8_ask 17 = .ok (.iload_n 2, 1) := by decide +kernel
theorem rX8_ask_17 {R : zP} {x0 x1 : Option zV} {st : List zV} {M : zM} {a : Int} : uX8_ask R 17 [x0, x1, some (.inl a)] st M ↔ uX8_ask R 18 [x0, x1, some (.inl a)] (.inl a :: st) M := zU_step dX8_ask_17 (Or.inl rfl)
theorem dX8_ask_18 : decode cX8_ask 18 = .ok (.invokevirtual 306, 3) := by decide +kernel
theorem rX8_ask_18 {R : zP} {x0 x1 x2 : Option zV} {st : List zV} {M : zM} {a0 a1 a2 : zV} : uX8_ask R 18 [x0, x1, x2] (a2 :: a1 :: a0 :: st) M ↔ (st.length ≤ 4 ∧ zcv (zv 8 tX8_askOf) [a0, a1, a2] M (fun v M => uX8_ask R 21 [x0, x1, x2] (v :: st) M)) := Iff.trans (zU_step dX8_ask_18 (Or.inl rfl)) ⟨fun h => ⟨h.2.1, zcv_of h.2.2⟩, fun h => ⟨rfl, h.1, zcv_to h.2⟩⟩
theorem dX8_ask_21 : decode cX8_ask 21 = .ok (.goto 5, 3) := by decide +kernel
theorem rX8_ask_21 {R : zP} {x0 x1 x2 : Option zV} {st : List zV} {M : zM} : uX8_ask R 21 [x0, x1, x2] st M ↔ uX8_ask R 26 [x0, x1, x2] st M := Iff.trans (zU_step dX8_ask_21 (Or.inl rfl)) ⟨fun h => h.2, fun h => ⟨by decide, h⟩⟩
theorem dX8_ask_24 : decode cX8_ask 24 = .ok (.bipush (-2), 2) := by decide +kernel
theorem rX8_ask_24 {R : zP} {x0 x1 x2 : Option zV} {st : List zV} {M : zM} : uX8_ask R 24 [x0, x1, x2] st M ↔ uX8_ask R 26 [x0, x1, x2] (.inl (-2) :: st) M := Iff.trans (zU_step dX8_ask_24 (Or.inl rfl)) ⟨fun h => h.2, fun h => ⟨by decide, h⟩⟩
theorem dX8_ask_26 : decode cX8_ask 26 = .ok (.ireturn, 1) := by decide +kernel
theorem rX8_ask_26 {R : zP} {x0 x1 x2 : Option zV} {M : zM} {a : Int} : uX8_ask R 26 [x0, x1, x2] [.inl a] M ↔ R (some (.inl a)) M := Iff.trans (zU_step dX8_ask_26 (Or.inl rfl)) ⟨fun h => h.2.2, fun h => ⟨rfl, Or.inl rfl, h⟩⟩
theorem eX8_ask {R : zP} {M : zM} {a0 : Nat} {p0 : Int} {p1 : Int} : tX8_ask [.inr (.inr a0), .inl p0, .inl p1] M R ↔ uX8_ask R 0 [some (.inr (.inr a0)), some (.inl p0), some (.inl p1)] [] M := ⟨fun h => h.2, fun h => ⟨show 3 ≤ 3 by decide, h⟩⟩
def uX8_creamOf (R : zP) : zK := zU fX8 vX8_creamOf cX8_creamOf R
theorem dX8_creamOf_0 : decode cX8_creamOf 0 = .ok (.aload_n 0, 1) := by decide +kernel
theorem rX8_creamOf_0 {R : zP} {x1 x2 x3 x4 x5 x6 x7 x8 x9 x10 : Option zV} {st : List zV} {M : zM} {a : Nat} : uX8_creamOf R 0 [some (.inr (.inr a)), x1, x2, x3, x4, x5, x6, x7, x8, x9, x10] st M ↔ uX8_creamOf R 1 [some (.inr (.inr a)), x1, x2, x3, x4, x5, x6, x7, x8, x9, x10] (.inr (.inr a) :: st) M := zU_step dX8_creamOf_0 (Or.inl rfl)
theorem dX8_creamOf_1 : decode cX8_creamOf 1 = .ok (.invokevirtual 199, 3) := by decide +kernel
theorem rX8_creamOf_1 {R : zP} {x0 x1 x2 x3 x4 x5 x6 x7 x8 x9 x10 : Option zV} {st : List zV} {M : zM} {a0 : zV} : uX8_creamOf R 1 [x0, x1, x2, x3, x4, x5, x6, x7, x8, x9, x10] (a0 :: st) M ↔ (st.length ≤ 4 ∧ zcn (zv 8 tX8_asTold) [a0] M (fun M => uX8_creamOf R 4 [x0, x1, x2, x3, x4, x5, x6, x7, x8, x9, x10] st M)) := Iff.trans (zU_step dX8_creamOf_1 (Or.inl rfl)) ⟨fun h => ⟨h.2.1, zcn_of h.2.2⟩, fun h => ⟨rfl, h.1, zcn_to h.2⟩⟩
theorem dX8_creamOf_4 : decode cX8_creamOf 4 = .ok (.lconst 0, 1) := by decide +kernel
theorem rX8_creamOf_4 {R : zP} {x0 x1 x2 x3 x4 x5 x6 x7 x8 x9 x10 : Option zV} {st : List zV} {M : zM} : uX8_creamOf R 4 [x0, x1, x2, x3, x4, x5, x6, x7, x8, x9, x10] st M ↔ uX8_creamOf R 5 [x0, x1, x2, x3, x4, x5, x6, x7, x8, x9, x10] (.inr (.inl 0) :: st) M := zU_step dX8_creamOf_4 (Or.inl rfl)
theorem dX8_creamOf_5 : decode cX8_creamOf 5 = .ok (.lstore 5, 2) := by decide +kernel
theorem rX8_creamOf_5 {R : zP} {x0 x1 x2 x3 x5 x6 x7 x8 x9 x10 : Option zV} {st : List zV} {M : zM} {a : Int} {y : Int} : uX8_creamOf R 5 [x0, x1, x2, x3, some (.inl y), x5, x6, x7, x8, x9, x10] (.inr (.inl a) :: st) M ↔ uX8_creamOf R 7 [x0, x1, x2, x3, some (.inl y), some (.inr (.inl a)), none, x7, x8, x9, x10] st M := Iff.trans (zU_step dX8_creamOf_5 (Or.inl rfl)) ⟨fun h => h.2, fun h => ⟨show 5 + 1 < 11 by decide, h⟩⟩
theorem rX8_creamOf_5z {R : zP} {x0 x1 x2 x3 x4 x5 x6 x7 x8 x9 x10 : Option zV} {st : List zV} {M : zM} {a : Int} : uX8_creamOf R 5 [x0, x1, x2, x3, x4, x5, x6, x7, x8, x9, x10] (.inr (.inl a) :: st) M ↔ uX8_creamOf R 7 [x0, x1, x2, x3, zkeep x4, some (.inr (.inl a)), none, x7, x8, x9, x10] st M := Iff.trans (zU_step dX8_creamOf_5 (Or.inl rfl)) ⟨fun h => h.2, fun h => ⟨show 5 + 1 < 11 by decide, h⟩⟩
theorem dX8_creamOf_7 : decode cX8_creamOf 7 = .ok (.iconst 0, 1) := by decide +kernel
theorem rX8_creamOf_7 {R : zP} {x0 x1 x2 x3 x4 x5 x6 x7 x8 x9 x10 : Option zV} {st : List zV} {M : zM} : uX8_creamOf R 7 [x0, x1, x2, x3, x4, x5, x6, x7, x8, x9, x10] st M ↔ uX8_creamOf R 8 [x0, x1, x2, x3, x4, x5, x6, x7, x8, x9, x10] (.inl (0) :: st) M := zU_step dX8_creamOf_7 (Or.inl rfl)
theorem dX8_creamOf_8 : decode cX8_creamOf 8 = .ok (.istore 7, 2) := by decide +kernel
theorem rX8_creamOf_8 {R : zP} {x0 x1 x2 x3 x4 x5 x7 x8 x9 x10 : Option zV} {st : List zV} {M : zM} {a : Int} : uX8_creamOf R 8 [x0, x1, x2, x3, x4, x5, none, x7, x8, x9, x10] (.inl a :: st) M ↔ uX8_creamOf R 10 [x0, x1, x2, x3, x4, x5, none, some (.inl a), x8, x9, x10] st M := Iff.trans (zU_step dX8_creamOf_8 (Or.inl rfl)) ⟨fun h => h.2, fun h => ⟨show 7 < 11 by decide, h⟩⟩
theorem rX8_creamOf_8z {R : zP} {x0 x1 x2 x3 x4 x5 x6 x7 x8 x9 x10 : Option zV} {st : List zV} {M : zM} {a : Int} : uX8_creamOf R 8 [x0, x1, x2, x3, x4, x5, x6, x7, x8, x9, x10] (.inl a :: st) M ↔ uX8_creamOf R 10 [x0, x1, x2, x3, x4, x5, zkeep x6, some (.inl a), x8, x9, x10] st M := Iff.trans (zU_step dX8_creamOf_8 (Or.inl rfl)) ⟨fun h => h.2, fun h => ⟨show 7 < 11 by decide, h⟩⟩
theorem dX8_creamOf_10 : decode cX8_creamOf 10 = .ok (.iload 7, 2) := by decide +kernel
theorem rX8_creamOf_10 {R : zP} {x0 x1 x2 x3 x4 x5 x6 x8 x9 x10 : Option zV} {st : List zV} {M : zM} {a : Int} : uX8_creamOf R 10 [x0, x1, x2, x3, x4, x5, x6, some (.inl a), x8, x9, x10] st M ↔ uX8_creamOf R 12 [x0, x1, x2, x3, x4, x5, x6, some (.inl a), x8, x9, x10] (.inl a :: st) M := zU_step dX8_creamOf_10 (Or.inl rfl)
theorem dX8_creamOf_12 : decode cX8_creamOf 12 = .ok (.iconst 1, 1) := by decide +kernel
theorem rX8_creamOf_12 {R : zP} {x0 x1 x2 x3 x4 x5 x6 x7 x8 x9 x10 : Option zV} {st : List zV} {M : zM} : uX8_creamOf R 12 [x0, x1, x2, x3, x4, x5, x6, x7, x8, x9, x10] st M ↔ uX8_creamOf R 13 [x0, x1, x2, x3, x4, x5, x6, x7, x8, x9, x10] (.inl (1) :: st) M := zU_step dX8_creamOf_12 (Or.inl rfl)
theorem dX8_creamOf_13 : decode cX8_creamOf 13 = .ok (.aload_n 0, 1) := by decide +kernel
theorem rX8_creamOf_13 {R : zP} {x1 x2 x3 x4 x5 x6 x7 x8 x9 x10 : Option zV} {st : List zV} {M : zM} {a : Nat} : uX8_creamOf R 13 [some (.inr (.inr a)), x1, x2, x3, x4, x5, x6, x7, x8, x9, x10] st M ↔ uX8_creamOf R 14 [some (.inr (.inr a)), x1, x2, x3, x4, x5, x6, x7, x8, x9, x10] (.inr (.inr a) :: st) M := zU_step dX8_creamOf_13 (Or.inl rfl)
theorem dX8_creamOf_14 : decode cX8_creamOf 14 = .ok (.getfield 166, 3) := by decide +kernel
theorem rX8_creamOf_14 {R : zP} {x0 x1 x2 x3 x4 x5 x6 x7 x8 x9 x10 : Option zV} {st : List zV} {M : zM} {r : Nat} : uX8_creamOf R 14 [x0, x1, x2, x3, x4, x5, x6, x7, x8, x9, x10] (.inr (.inr r) :: st) M ↔ zgetx fX8 166 r M (fun v => uX8_creamOf R 17 [x0, x1, x2, x3, x4, x5, x6, x7, x8, x9, x10] (v :: st) M) := zU_step dX8_creamOf_14 (Or.inl rfl)
theorem dX8_creamOf_17 : decode cX8_creamOf 17 = .ok (.ishl, 1) := by decide +kernel
theorem rX8_creamOf_17 {R : zP} {x0 x1 x2 x3 x4 x5 x6 x7 x8 x9 x10 : Option zV} {st : List zV} {M : zM} {a b : Int} : uX8_creamOf R 17 [x0, x1, x2, x3, x4, x5, x6, x7, x8, x9, x10] (.inl b :: .inl a :: st) M ↔ uX8_creamOf R 18 [x0, x1, x2, x3, x4, x5, x6, x7, x8, x9, x10] (.inl (zshl a b) :: st) M := zU_step dX8_creamOf_17 (Or.inl rfl)
theorem dX8_creamOf_18 : decode cX8_creamOf 18 = .ok (.if_icmp .ge 96, 3) := by decide +kernel
theorem rX8_creamOf_18 {R : zP} {x0 x1 x2 x3 x4 x5 x6 x7 x8 x9 x10 : Option zV} {st : List zV} {M : zM} {a b : Int} : uX8_creamOf R 18 [x0, x1, x2, x3, x4, x5, x6, x7, x8, x9, x10] (.inl b :: .inl a :: st) M ↔ ((zIR a ∧ zIR b) ∧ if b ≤ a then uX8_creamOf R 114 [x0, x1, x2, x3, x4, x5, x6, x7, x8, x9, x10] st M else uX8_creamOf R 21 [x0, x1, x2, x3, x4, x5, x6, x7, x8, x9, x10] st M) := Iff.trans (zU_step dX8_creamOf_18 (Or.inl rfl)) ⟨fun h => ⟨⟨h.1.1, h.1.2.1⟩, (zite (c := b ≤ a)).mpr h.2⟩, fun h => ⟨⟨h.1.1, h.1.2, by decide⟩, (zite (c := b ≤ a)).mp h.2⟩⟩
theorem dX8_creamOf_21 : decode cX8_creamOf 21 = .ok (.lconst 1, 1) := by decide +kernel
theorem rX8_creamOf_21 {R : zP} {x0 x1 x2 x3 x4 x5 x6 x7 x8 x9 x10 : Option zV} {st : List zV} {M : zM} : uX8_creamOf R 21 [x0, x1, x2, x3, x4, x5, x6, x7, x8, x9, x10] st M ↔ uX8_creamOf R 22 [x0, x1, x2, x3, x4, x5, x6, x7, x8, x9, x10] (.inr (.inl 1) :: st) M := zU_step dX8_creamOf_21 (Or.inl rfl)
theorem dX8_creamOf_22 : decode cX8_creamOf 22 = .ok (.lstore 8, 2) := by decide +kernel
theorem rX8_creamOf_22 {R : zP} {x0 x1 x2 x3 x4 x5 x6 x8 x9 x10 : Option zV} {st : List zV} {M : zM} {a : Int} {y : Int} : uX8_creamOf R 22 [x0, x1, x2, x3, x4, x5, x6, some (.inl y), x8, x9, x10] (.inr (.inl a) :: st) M ↔ uX8_creamOf R 24 [x0, x1, x2, x3, x4, x5, x6, some (.inl y), some (.inr (.inl a)), none, x10] st M := Iff.trans (zU_step dX8_creamOf_22 (Or.inl rfl)) ⟨fun h => h.2, fun h => ⟨show 8 + 1 < 11 by decide, h⟩⟩
theorem rX8_creamOf_22z {R : zP} {x0 x1 x2 x3 x4 x5 x6 x7 x8 x9 x10 : Option zV} {st : List zV} {M : zM} {a : Int} : uX8_creamOf R 22 [x0, x1, x2, x3, x4, x5, x6, x7, x8, x9, x10] (.inr (.inl a) :: st) M ↔ uX8_creamOf R 24 [x0, x1, x2, x3, x4, x5, x6, zkeep x7, some (.inr (.inl a)), none, x10] st M := Iff.trans (zU_step dX8_creamOf_22 (Or.inl rfl)) ⟨fun h => h.2, fun h => ⟨show 8 + 1 < 11 by decide, h⟩⟩
theorem dX8_creamOf_24 : decode cX8_creamOf 24 = .ok (.iconst 0, 1) := by decide +kernel
theorem rX8_creamOf_24 {R : zP} {x0 x1 x2 x3 x4 x5 x6 x7 x8 x9 x10 : Option zV} {st : List zV} {M : zM} : uX8_creamOf R 24 [x0, x1, x2, x3, x4, x5, x6, x7, x8, x9, x10] st M ↔ uX8_creamOf R 25 [x0, x1, x2, x3, x4, x5, x6, x7, x8, x9, x10] (.inl (0) :: st) M := zU_step dX8_creamOf_24 (Or.inl rfl)
theorem dX8_creamOf_25 : decode cX8_creamOf 25 = .ok (.istore 10, 2) := by decide +kernel
theorem rX8_creamOf_25 {R : zP} {x0 x1 x2 x3 x4 x5 x6 x7 x8 x10 : Option zV} {st : List zV} {M : zM} {a : Int} : uX8_creamOf R 25 [x0, x1, x2, x3, x4, x5, x6, x7, x8, none, x10] (.inl a :: st) M ↔ uX8_creamOf R 27 [x0, x1, x2, x3, x4, x5, x6, x7, x8, none, some (.inl a)] st M := Iff.trans (zU_step dX8_creamOf_25 (Or.inl rfl)) ⟨fun h => h.2, fun h => ⟨show 10 < 11 by decide, h⟩⟩
theorem rX8_creamOf_25z {R : zP} {x0 x1 x2 x3 x4 x5 x6 x7 x8 x9 x10 : Option zV} {st : List zV} {M : zM} {a : Int} : uX8_creamOf R 25 [x0, x1, x2, x3, x4, x5, x6, x7, x8, x9, x10] (.inl a :: st) M ↔ uX8_creamOf R 27 [x0, x1, x2, x3, x4, x5, x6, x7, x8, zkeep x9, some (.inl a)] st M := Iff.trans (zU_step dX8_creamOf_25 (Or.inl rfl)) ⟨fun h => h.2, fun h => ⟨show 10 < 11 by decide, h⟩⟩
theorem dX8_creamOf_27 : decode cX8_creamOf 27 = .ok (.iload 10, 2) := by decide +kernel
theorem rX8_creamOf_27 {R : zP} {x0 x1 x2 x3 x4 x5 x6 x7 x8 x9 : Option zV} {st : List zV} {M : zM} {a : Int} : uX8_creamOf R 27 [x0, x1, x2, x3, x4, x5, x6, x7, x8, x9, some (.inl a)] st M ↔ uX8_creamOf R 29 [x0, x1, x2, x3, x4, x5, x6, x7, x8, x9, some (.inl a)] (.inl a :: st) M := zU_step dX8_creamOf_27 (Or.inl rfl)
theorem dX8_creamOf_29 : decode cX8_creamOf 29 = .ok (.aload_n 0, 1) := by decide +kernel
theorem rX8_creamOf_29 {R : zP} {x1 x2 x3 x4 x5 x6 x7 x8 x9 x10 : Option zV} {st : List zV} {M : zM} {a : Nat} : uX8_creamOf R 29 [some (.inr (.inr a)), x1, x2, x3, x4, x5, x6, x7, x8, x9, x10] st M ↔ uX8_creamOf R 30 [some (.inr (.inr a)), x1, x2, x3, x4, x5, x6, x7, x8, x9, x10] (.inr (.inr a) :: st) M := zU_step dX8_creamOf_29 (Or.inl rfl)
theorem dX8_creamOf_30 : decode cX8_creamOf 30 = .ok (.getfield 166, 3) := by decide +kernel
theorem rX8_creamOf_30 {R : zP} {x0 x1 x2 x3 x4 x5 x6 x7 x8 x9 x10 : Option zV} {st : List zV} {M : zM} {r : Nat} : uX8_creamOf R 30 [x0, x1, x2, x3, x4, x5, x6, x7, x8, x9, x10] (.inr (.inr r) :: st) M ↔ zgetx fX8 166 r M (fun v => uX8_creamOf R 33 [x0, x1, x2, x3, x4, x5, x6, x7, x8, x9, x10] (v :: st) M) := zU_step dX8_creamOf_30 (Or.inl rfl)
theorem dX8_creamOf_33 : decode cX8_creamOf 33 = .ok (.if_icmp .ge 34, 3) := by decide +kernel
theorem rX8_creamOf_33 {R : zP} {x0 x1 x2 x3 x4 x5 x6 x7 x8 x9 x10 : Option zV} {st : List zV} {M : zM} {a b : Int} : uX8_creamOf R 33 [x0, x1, x2, x3, x4, x5, x6, x7, x8, x9, x10] (.inl b :: .inl a :: st) M ↔ ((zIR a ∧ zIR b) ∧ if b ≤ a then uX8_creamOf R 67 [x0, x1, x2, x3, x4, x5, x6, x7, x8, x9, x10] st M else uX8_creamOf R 36 [x0, x1, x2, x3, x4, x5, x6, x7, x8, x9, x10] st M) := Iff.trans (zU_step dX8_creamOf_33 (Or.inl rfl)) ⟨fun h => ⟨⟨h.1.1, h.1.2.1⟩, (zite (c := b ≤ a)).mpr h.2⟩, fun h => ⟨⟨h.1.1, h.1.2, by decide⟩, (zite (c := b ≤ a)).mp h.2⟩⟩
theorem dX8_creamOf_36 : decode cX8_creamOf 36 = .ok (.lload 8, 2) := by decide +kernel
theorem rX8_creamOf_36 {R : zP} {x0 x1 x2 x3 x4 x5 x6 x7 x9 x10 : Option zV} {st : List zV} {M : zM} {a : Int} : uX8_creamOf R 36 [x0, x1, x2, x3, x4, x5, x6, x7, some (.inr (.inl a)), x9, x10] st M ↔ uX8_creamOf R 38 [x0, x1, x2, x3, x4, x5, x6, x7, some (.inr (.inl a)), x9, x10] (.inr (.inl a) :: st) M := zU_step dX8_creamOf_36 (Or.inl rfl)
theorem dX8_creamOf_38 : decode cX8_creamOf 38 = .ok (.iload 7, 2) := by decide +kernel
theorem rX8_creamOf_38 {R : zP} {x0 x1 x2 x3 x4 x5 x6 x8 x9 x10 : Option zV} {st : List zV} {M : zM} {a : Int} : uX8_creamOf R 38 [x0, x1, x2, x3, x4, x5, x6, some (.inl a), x8, x9, x10] st M ↔ uX8_creamOf R 40 [x0, x1, x2, x3, x4, x5, x6, some (.inl a), x8, x9, x10] (.inl a :: st) M := zU_step dX8_creamOf_38 (Or.inl rfl)
theorem dX8_creamOf_40 : decode cX8_creamOf 40 = .ok (.iload 10, 2) := by decide +kernel
theorem rX8_creamOf_40 {R : zP} {x0 x1 x2 x3 x4 x5 x6 x7 x8 x9 : Option zV} {st : List zV} {M : zM} {a : Int} : uX8_creamOf R 40 [x0, x1, x2, x3, x4, x5, x6, x7, x8, x9, some (.inl a)] st M ↔ uX8_creamOf R 42 [x0, x1, x2, x3, x4, x5, x6, x7, x8, x9, some (.inl a)] (.inl a :: st) M := zU_step dX8_creamOf_40 (Or.inl rfl)
theorem dX8_creamOf_42 : decode cX8_creamOf 42 = .ok (.invokestatic 187, 3) := by decide +kernel
theorem rX8_creamOf_42 {R : zP} {x0 x1 x2 x3 x4 x5 x6 x7 x8 x9 x10 : Option zV} {st : List zV} {M : zM} {a0 a1 : zV} : uX8_creamOf R 42 [x0, x1, x2, x3, x4, x5, x6, x7, x8, x9, x10] (a1 :: a0 :: st) M ↔ (st.length ≤ 4 ∧ zcv tX8_isIn [a0, a1] M (fun v M => uX8_creamOf R 45 [x0, x1, x2, x3, x4, x5, x6, x7, x8, x9, x10] (v :: st) M)) := Iff.trans (zU_step dX8_creamOf_42 (Or.inl rfl)) ⟨fun h => ⟨h.2.1, zcv_of h.2.2⟩, fun h => ⟨rfl, h.1, zcv_to h.2⟩⟩
theorem dX8_creamOf_45 : decode cX8_creamOf 45 = .ok (.ifCond .eq 11, 3) := by decide +kernel
theorem rX8_creamOf_45 {R : zP} {x0 x1 x2 x3 x4 x5 x6 x7 x8 x9 x10 : Option zV} {st : List zV} {M : zM} {a : Int} : uX8_creamOf R 45 [x0, x1, x2, x3, x4, x5, x6, x7, x8, x9, x10] (.inl a :: st) M ↔ (zIR a ∧ if a = 0 then uX8_creamOf R 56 [x0, x1, x2, x3, x4, x5, x6, x7, x8, x9, x10] st M else uX8_creamOf R 48 [x0, x1, x2, x3, x4, x5, x6, x7, x8, x9, x10] st M) := Iff.trans (zU_step dX8_creamOf_45 (Or.inl rfl)) ⟨fun h => ⟨h.1.1, (zite (c := a = 0)).mpr h.2⟩, fun h => ⟨⟨h.1, by decide⟩, (zite (c := a = 0)).mp h.2⟩⟩
theorem dX8_creamOf_48 : decode cX8_creamOf 48 = .ok (.bipush 16, 2) := by decide +kernel
theorem rX8_creamOf_48 {R : zP} {x0 x1 x2 x3 x4 x5 x6 x7 x8 x9 x10 : Option zV} {st : List zV} {M : zM} : uX8_creamOf R 48 [x0, x1, x2, x3, x4, x5, x6, x7, x8, x9, x10] st M ↔ uX8_creamOf R 50 [x0, x1, x2, x3, x4, x5, x6, x7, x8, x9, x10] (.inl (16) :: st) M := Iff.trans (zU_step dX8_creamOf_48 (Or.inl rfl)) ⟨fun h => h.2, fun h => ⟨by decide, h⟩⟩
theorem dX8_creamOf_50 : decode cX8_creamOf 50 = .ok (.iload_n 1, 1) := by decide +kernel
theorem rX8_creamOf_50 {R : zP} {x0 x2 x3 x4 x5 x6 x7 x8 x9 x10 : Option zV} {st : List zV} {M : zM} {a : Int} : uX8_creamOf R 50 [x0, some (.inl a), x2, x3, x4, x5, x6, x7, x8, x9, x10] st M ↔ uX8_creamOf R 51 [x0, some (.inl a), x2, x3, x4, x5, x6, x7, x8, x9, x10] (.inl a :: st) M := zU_step dX8_creamOf_50 (Or.inl rfl)
theorem dX8_creamOf_51 : decode cX8_creamOf 51 = .ok (.isub, 1) := by decide +kernel
theorem rX8_creamOf_51 {R : zP} {x0 x1 x2 x3 x4 x5 x6 x7 x8 x9 x10 : Option zV} {st : List zV} {M : zM} {a b : Int} : uX8_creamOf R 51 [x0, x1, x2, x3, x4, x5, x6, x7, x8, x9, x10] (.inl b :: .inl a :: st) M ↔ uX8_creamOf R 52 [x0, x1, x2, x3, x4, x5, x6, x7, x8, x9, x10] (.inl (a - b) :: st) M := zU_step dX8_creamOf_51 (Or.inl rfl)
theorem dX8_creamOf_52 : decode cX8_creamOf 52 = .ok (.i2l, 1) := by decide +kernel
theorem rX8_creamOf_52 {R : zP} {x0 x1 x2 x3 x4 x5 x6 x7 x8 x9 x10 : Option zV} {st : List zV} {M : zM} {a : Int} : uX8_creamOf R 52 [x0, x1, x2, x3, x4, x5, x6, x7, x8, x9, x10] (.inl a :: st) M ↔ (zIR a ∧ uX8_creamOf R 53 [x0, x1, x2, x3, x4, x5, x6, x7, x8, x9, x10] (.inr (.inl a) :: st) M) := zU_step dX8_creamOf_52 (Or.inl rfl)
theorem dX8_creamOf_53 : decode cX8_creamOf 53 = .ok (.goto 5, 3) := by decide +kernel
theorem rX8_creamOf_53 {R : zP} {x0 x1 x2 x3 x4 x5 x6 x7 x8 x9 x10 : Option zV} {st : List zV} {M : zM} : uX8_creamOf R 53 [x0, x1, x2, x3, x4, x5, x6, x7, x8, x9, x10] st M ↔ uX8_creamOf R 58 [x0, x1, x2, x3, x4, x5, x6, x7, x8, x9, x10] st M := Iff.trans (zU_step dX8_creamOf_53 (Or.inl rfl)) ⟨fun h => h.2, fun h => ⟨by decide, h⟩⟩
theorem dX8_creamOf_56 : decode cX8_creamOf 56 = .ok (.iload_n 1, 1) := by decide +kernel
theorem rX8_creamOf_56 {R : zP} {x0 x2 x3 x4 x5 x6 x7 x8 x9 x10 : Option zV} {st : List zV} {M : zM} {a : Int} : uX8_creamOf R 56 [x0, some (.inl a), x2, x3, x4, x5, x6, x7, x8, x9, x10] st M ↔ uX8_creamOf R 57 [x0, some (.inl a), x2, x3, x4, x5, x6, x7, x8, x9, x10] (.inl a :: st) M := zU_step dX8_creamOf_56 (Or.inl rfl)
theorem dX8_creamOf_57 : decode cX8_creamOf 57 = .ok (.i2l, 1) := by decide +kernel
theorem rX8_creamOf_57 {R : zP} {x0 x1 x2 x3 x4 x5 x6 x7 x8 x9 x10 : Option zV} {st : List zV} {M : zM} {a : Int} : uX8_creamOf R 57 [x0, x1, x2, x3, x4, x5, x6, x7, x8, x9, x10] (.inl a :: st) M ↔ (zIR a ∧ uX8_creamOf R 58 [x0, x1, x2, x3, x4, x5, x6, x7, x8, x9, x10] (.inr (.inl a) :: st) M) := zU_step dX8_creamOf_57 (Or.inl rfl)
theorem dX8_creamOf_58 : decode cX8_creamOf 58 = .ok (.lmul, 1) := by decide +kernel
theorem rX8_creamOf_58 {R : zP} {x0 x1 x2 x3 x4 x5 x6 x7 x8 x9 x10 : Option zV} {st : List zV} {M : zM} {a b : Int} : uX8_creamOf R 58 [x0, x1, x2, x3, x4, x5, x6, x7, x8, x9, x10] (.inr (.inl b) :: .inr (.inl a) :: st) M ↔ uX8_creamOf R 59 [x0, x1, x2, x3, x4, x5, x6, x7, x8, x9, x10] (.inr (.inl (a * b)) :: st) M := zU_step dX8_creamOf_58 (Or.inl rfl)
theorem dX8_creamOf_59 : decode cX8_creamOf 59 = .ok (.lstore 8, 2) := by decide +kernel
theorem rX8_creamOf_59 {R : zP} {x0 x1 x2 x3 x4 x5 x6 x8 x9 x10 : Option zV} {st : List zV} {M : zM} {a : Int} {y : Int} : uX8_creamOf R 59 [x0, x1, x2, x3, x4, x5, x6, some (.inl y), x8, x9, x10] (.inr (.inl a) :: st) M ↔ uX8_creamOf R 61 [x0, x1, x2, x3, x4, x5, x6, some (.inl y), some (.inr (.inl a)), none, x10] st M := Iff.trans (zU_step dX8_creamOf_59 (Or.inl rfl)) ⟨fun h => h.2, fun h => ⟨show 8 + 1 < 11 by decide, h⟩⟩
theorem rX8_creamOf_59z {R : zP} {x0 x1 x2 x3 x4 x5 x6 x7 x8 x9 x10 : Option zV} {st : List zV} {M : zM} {a : Int} : uX8_creamOf R 59 [x0, x1, x2, x3, x4, x5, x6, x7, x8, x9, x10] (.inr (.inl a) :: st) M ↔ uX8_creamOf R 61 [x0, x1, x2, x3, x4, x5, x6, zkeep x7, some (.inr (.inl a)), none, x10] st M := Iff.trans (zU_step dX8_creamOf_59 (Or.inl rfl)) ⟨fun h => h.2, fun h => ⟨show 8 + 1 < 11 by decide, h⟩⟩
theorem dX8_creamOf_61 : decode cX8_creamOf 61 = .ok (.iinc 10 1, 3) := by decide +kernel
theorem rX8_creamOf_61 {R : zP} {x0 x1 x2 x3 x4 x5 x6 x7 x8 : Option zV} {st : List zV} {M : zM} {a : Int} : uX8_creamOf R 61 [x0, x1, x2, x3, x4, x5, x6, x7, x8, none, some (.inl a)] st M ↔ uX8_creamOf R 64 [x0, x1, x2, x3, x4, x5, x6, x7, x8, none, some (.inl (a + (1)))] st M := Iff.trans (zU_step dX8_creamOf_61 (Or.inl rfl)) ⟨fun h => h.2, fun h => ⟨show 10 < 11 by decide, h⟩⟩
theorem rX8_creamOf_61z {R : zP} {x0 x1 x2 x3 x4 x5 x6 x7 x8 x9 : Option zV} {st : List zV} {M : zM} {a : Int} : uX8_creamOf R 61 [x0, x1, x2, x3, x4, x5, x6, x7, x8, x9, some (.inl a)] st M ↔ uX8_creamOf R 64 [x0, x1, x2, x3, x4, x5, x6, x7, x8, zkeep x9, some (.inl (a + (1)))] st M := Iff.trans (zU_step dX8_creamOf_61 (Or.inl rfl)) ⟨fun h => h.2, fun h => ⟨show 10 < 11 by decide, h⟩⟩
theorem dX8_creamOf_64 : decode cX8_creamOf 64 = .ok (.goto (-37), 3) := by decide +kernel
theorem rX8_creamOf_64 {R : zP} {x0 x1 x2 x3 x4 x5 x6 x7 x8 x9 x10 : Option zV} {st : List zV} {M : zM} : uX8_creamOf R 64 [x0, x1, x2, x3, x4, x5, x6, x7, x8, x9, x10] st M ↔ uX8_creamOf R 27 [x0, x1, x2, x3, x4, x5, x6, x7, x8, x9, x10] st M := Iff.trans (zU_step dX8_creamOf_64 (Or.inl rfl)) ⟨fun h => h.2, fun h => ⟨by decide, h⟩⟩
theorem dX8_creamOf_67 : decode cX8_creamOf 67 = .ok (.lload 8, 2) := by decide +kernel
theorem rX8_creamOf_67 {R : zP} {x0 x1 x2 x3 x4 x5 x6 x7 x9 x10 : Option zV} {st : List zV} {M : zM} {a : Int} : uX8_creamOf R 67 [x0, x1, x2, x3, x4, x5, x6, x7, some (.inr (.inl a)), x9, x10] st M ↔ uX8_creamOf R 69 [x0, x1, x2, x3, x4, x5, x6, x7, some (.inr (.inl a)), x9, x10] (.inr (.inl a) :: st) M := zU_step dX8_creamOf_67 (Or.inl rfl)
theorem dX8_creamOf_69 : decode cX8_creamOf 69 = .ok (.lconst 0, 1) := by decide +kernel
theorem rX8_creamOf_69 {R : zP} {x0 x1 x2 x3 x4 x5 x6 x7 x8 x9 x10 : Option zV} {st : List zV} {M : zM} : uX8_creamOf R 69 [x0, x1, x2, x3, x4, x5, x6, x7, x8, x9, x10] st M ↔ uX8_creamOf R 70 [x0, x1, x2, x3, x4, x5, x6, x7, x8, x9, x10] (.inr (.inl 0) :: st) M := zU_step dX8_creamOf_69 (Or.inl rfl)
theorem dX8_creamOf_70 : decode cX8_creamOf 70 = .ok (.lcmp, 1) := by decide +kernel
theorem rX8_creamOf_70 {R : zP} {x0 x1 x2 x3 x4 x5 x6 x7 x8 x9 x10 : Option zV} {st : List zV} {M : zM} {a b : Int} : uX8_creamOf R 70 [x0, x1, x2, x3, x4, x5, x6, x7, x8, x9, x10] (.inr (.inl b) :: .inr (.inl a) :: st) M ↔ ((zLR a ∧ zLR b) ∧ uX8_creamOf R 71 [x0, x1, x2, x3, x4, x5, x6, x7, x8, x9, x10] (.inl (zcmp a b) :: st) M) := zU_step dX8_creamOf_70 (Or.inl rfl)
theorem dX8_creamOf_71 : decode cX8_creamOf 71 = .ok (.ifCond .le 37, 3) := by decide +kernel
theorem rX8_creamOf_71 {R : zP} {x0 x1 x2 x3 x4 x5 x6 x7 x8 x9 x10 : Option zV} {st : List zV} {M : zM} {a : Int} : uX8_creamOf R 71 [x0, x1, x2, x3, x4, x5, x6, x7, x8, x9, x10] (.inl a :: st) M ↔ (zIR a ∧ if a ≤ 0 then uX8_creamOf R 108 [x0, x1, x2, x3, x4, x5, x6, x7, x8, x9, x10] st M else uX8_creamOf R 74 [x0, x1, x2, x3, x4, x5, x6, x7, x8, x9, x10] st M) := Iff.trans (zU_step dX8_creamOf_71 (Or.inl rfl)) ⟨fun h => ⟨h.1.1, (zite (c := a ≤ 0)).mpr h.2⟩, fun h => ⟨⟨h.1, by decide⟩, (zite (c := a ≤ 0)).mp h.2⟩⟩
theorem dX8_creamOf_74 : decode cX8_creamOf 74 = .ok (.aload_n 0, 1) := by decide +kernel
theorem rX8_creamOf_74 {R : zP} {x1 x2 x3 x4 x5 x6 x7 x8 x9 x10 : Option zV} {st : List zV} {M : zM} {a : Nat} : uX8_creamOf R 74 [some (.inr (.inr a)), x1, x2, x3, x4, x5, x6, x7, x8, x9, x10] st M ↔ uX8_creamOf R 75 [some (.inr (.inr a)), x1, x2, x3, x4, x5, x6, x7, x8, x9, x10] (.inr (.inr a) :: st) M := zU_step dX8_creamOf_74 (Or.inl rfl)
theorem dX8_creamOf_75 : decode cX8_creamOf 75 = .ok (.iload 7, 2) := by decide +kernel
theorem rX8_creamOf_75 {R : zP} {x0 x1 x2 x3 x4 x5 x6 x8 x9 x10 : Option zV} {st : List zV} {M : zM} {a : Int} : uX8_creamOf R 75 [x0, x1, x2, x3, x4, x5, x6, some (.inl a), x8, x9, x10] st M ↔ uX8_creamOf R 77 [x0, x1, x2, x3, x4, x5, x6, some (.inl a), x8, x9, x10] (.inl a :: st) M := zU_step dX8_creamOf_75 (Or.inl rfl)
theorem dX8_creamOf_77 : decode cX8_creamOf 77 = .ok (.putfield 181, 3) := by decide +kernel
theorem rX8_creamOf_77 {R : zP} {x0 x1 x2 x3 x4 x5 x6 x7 x8 x9 x10 : Option zV} {st : List zV} {M : zM} {r : Nat} {v : zV} : uX8_creamOf R 77 [x0, x1, x2, x3, x4, x5, x6, x7, x8, x9, x10] (v :: .inr (.inr r) :: st) M ↔ zputx fX8 181 r M v (fun M => uX8_creamOf R 80 [x0, x1, x2, x3, x4, x5, x6, x7, x8, x9, x10] st M) := zU_step dX8_creamOf_77 (Or.inl rfl)
theorem dX8_creamOf_80 : decode cX8_creamOf 80 = .ok (.aload_n 0, 1) := by decide +kernel
theorem rX8_creamOf_80 {R : zP} {x1 x2 x3 x4 x5 x6 x7 x8 x9 x10 : Option zV} {st : List zV} {M : zM} {a : Nat} : uX8_creamOf R 80 [some (.inr (.inr a)), x1, x2, x3, x4, x5, x6, x7, x8, x9, x10] st M ↔ uX8_creamOf R 81 [some (.inr (.inr a)), x1, x2, x3, x4, x5, x6, x7, x8, x9, x10] (.inr (.inr a) :: st) M := zU_step dX8_creamOf_80 (Or.inl rfl)
theorem dX8_creamOf_81 : decode cX8_creamOf 81 = .ok (.invokevirtual 202, 3) := by decide +kernel
theorem rX8_creamOf_81 {R : zP} {x0 x1 x2 x3 x4 x5 x6 x7 x8 x9 x10 : Option zV} {st : List zV} {M : zM} {a0 : zV} : uX8_creamOf R 81 [x0, x1, x2, x3, x4, x5, x6, x7, x8, x9, x10] (a0 :: st) M ↔ (st.length ≤ 4 ∧ zcn (zv 8 tX8_runs) [a0] M (fun M => uX8_creamOf R 84 [x0, x1, x2, x3, x4, x5, x6, x7, x8, x9, x10] st M)) := Iff.trans (zU_step dX8_creamOf_81 (Or.inl rfl)) ⟨fun h => ⟨h.2.1, zcn_of h.2.2⟩, fun h => ⟨rfl, h.1, zcn_to h.2⟩⟩
theorem dX8_creamOf_84 : decode cX8_creamOf 84 = .ok (.lload 5, 2) := by decide +kernel
theorem rX8_creamOf_84 {R : zP} {x0 x1 x2 x3 x4 x6 x7 x8 x9 x10 : Option zV} {st : List zV} {M : zM} {a : Int} : uX8_creamOf R 84 [x0, x1, x2, x3, x4, some (.inr (.inl a)), x6, x7, x8, x9, x10] st M ↔ uX8_creamOf R 86 [x0, x1, x2, x3, x4, some (.inr (.inl a)), x6, x7, x8, x9, x10] (.inr (.inl a) :: st) M := zU_step dX8_creamOf_84 (Or.inl rfl)
theorem dX8_creamOf_86 : decode cX8_creamOf 86 = .ok (.aload_n 0, 1) := by decide +kernel
theorem rX8_creamOf_86 {R : zP} {x1 x2 x3 x4 x5 x6 x7 x8 x9 x10 : Option zV} {st : List zV} {M : zM} {a : Nat} : uX8_creamOf R 86 [some (.inr (.inr a)), x1, x2, x3, x4, x5, x6, x7, x8, x9, x10] st M ↔ uX8_creamOf R 87 [some (.inr (.inr a)), x1, x2, x3, x4, x5, x6, x7, x8, x9, x10] (.inr (.inr a) :: st) M := zU_step dX8_creamOf_86 (Or.inl rfl)
theorem dX8_creamOf_87 : decode cX8_creamOf 87 = .ok (.aload_n 0, 1) := by decide +kernel
theorem rX8_creamOf_87 {R : zP} {x1 x2 x3 x4 x5 x6 x7 x8 x9 x10 : Option zV} {st : List zV} {M : zM} {a : Nat} : uX8_creamOf R 87 [some (.inr (.inr a)), x1, x2, x3, x4, x5, x6, x7, x8, x9, x10] st M ↔ uX8_creamOf R 88 [some (.inr (.inr a)), x1, x2, x3, x4, x5, x6, x7, x8, x9, x10] (.inr (.inr a) :: st) M := zU_step dX8_creamOf_87 (Or.inl rfl)
theorem dX8_creamOf_88 : decode cX8_creamOf 88 = .ok (.iload_n 2, 1) := by decide +kernel
theorem rX8_creamOf_88 {R : zP} {x0 x1 x3 x4 x5 x6 x7 x8 x9 x10 : Option zV} {st : List zV} {M : zM} {a : Int} : uX8_creamOf R 88 [x0, x1, some (.inl a), x3, x4, x5, x6, x7, x8, x9, x10] st M ↔ uX8_creamOf R 89 [x0, x1, some (.inl a), x3, x4, x5, x6, x7, x8, x9, x10] (.inl a :: st) M := zU_step dX8_creamOf_88 (Or.inl rfl)
theorem dX8_creamOf_89 : decode cX8_creamOf 89 = .ok (.iload_n 3, 1) := by decide +kernel
theorem rX8_creamOf_89 {R : zP} {x0 x1 x2 x4 x5 x6 x7 x8 x9 x10 : Option zV} {st : List zV} {M : zM} {a : Int} : uX8_creamOf R 89 [x0, x1, x2, some (.inl a), x4, x5, x6, x7, x8, x9, x10] st M ↔ uX8_creamOf R 90 [x0, x1, x2, some (.inl a), x4, x5, x6, x7, x8, x9, x10] (.inl a :: st) M := zU_step dX8_creamOf_89 (Or.inl rfl)
theorem dX8_creamOf_90 : decode cX8_creamOf 90 = .ok (.invokevirtual 224, 3) := by decide +kernel
theorem rX8_creamOf_90 {R : zP} {x0 x1 x2 x3 x4 x5 x6 x7 x8 x9 x10 : Option zV} {st : List zV} {M : zM} {a0 a1 a2 : zV} : uX8_creamOf R 90 [x0, x1, x2, x3, x4, x5, x6, x7, x8, x9, x10] (a2 :: a1 :: a0 :: st) M ↔ (st.length ≤ 4 ∧ zcv (zv 8 tX8_ayesNow) [a0, a1, a2] M (fun v M => uX8_creamOf R 93 [x0, x1, x2, x3, x4, x5, x6, x7, x8, x9, x10] (v :: st) M)) := Iff.trans (zU_step dX8_creamOf_90 (Or.inl rfl)) ⟨fun h => ⟨h.2.1, zcv_of h.2.2⟩, fun h => ⟨rfl, h.1, zcv_to h.2⟩⟩
theorem dX8_creamOf_93 : decode cX8_creamOf 93 = .ok (.invokevirtual 227, 3) := by decide +kernel
theorem rX8_creamOf_93 {R : zP} {x0 x1 x2 x3 x4 x5 x6 x7 x8 x9 x10 : Option zV} {st : List zV} {M : zM} {a0 a1 : zV} : uX8_creamOf R 93 [x0, x1, x2, x3, x4, x5, x6, x7, x8, x9, x10] (a1 :: a0 :: st) M ↔ (st.length ≤ 4 ∧ zcv (zv 8 tX8_isCarried) [a0, a1] M (fun v M => uX8_creamOf R 96 [x0, x1, x2, x3, x4, x5, x6, x7, x8, x9, x10] (v :: st) M)) := Iff.trans (zU_step dX8_creamOf_93 (Or.inl rfl)) ⟨fun h => ⟨h.2.1, zcv_of h.2.2⟩, fun h => ⟨rfl, h.1, zcv_to h.2⟩⟩
theorem dX8_creamOf_96 : decode cX8_creamOf 96 = .ok (.ifCond .eq 8, 3) := by decide +kernel
theorem rX8_creamOf_96 {R : zP} {x0 x1 x2 x3 x4 x5 x6 x7 x8 x9 x10 : Option zV} {st : List zV} {M : zM} {a : Int} : uX8_creamOf R 96 [x0, x1, x2, x3, x4, x5, x6, x7, x8, x9, x10] (.inl a :: st) M ↔ (zIR a ∧ if a = 0 then uX8_creamOf R 104 [x0, x1, x2, x3, x4, x5, x6, x7, x8, x9, x10] st M else uX8_creamOf R 99 [x0, x1, x2, x3, x4, x5, x6, x7, x8, x9, x10] st M) := Iff.trans (zU_step dX8_creamOf_96 (Or.inl rfl)) ⟨fun h => ⟨h.1.1, (zite (c := a = 0)).mpr h.2⟩, fun h => ⟨⟨h.1, by decide⟩, (zite (c := a = 0)).mp h.2⟩⟩
theorem dX8_creamOf_99 : decode cX8_creamOf 99 = .ok (.lload 8, 2) := by decide +kernel
theorem rX8_creamOf_99 {R : zP} {x0 x1 x2 x3 x4 x5 x6 x7 x9 x10 : Option zV} {st : List zV} {M : zM} {a : Int} : uX8_creamOf R 99 [x0, x1, x2, x3, x4, x5, x6, x7, some (.inr (.inl a)), x9, x10] st M ↔ uX8_creamOf R 101 [x0, x1, x2, x3, x4, x5, x6, x7, some (.inr (.inl a)), x9, x10] (.inr (.inl a) :: st) M := zU_step dX8_creamOf_99 (Or.inl rfl)
theorem dX8_creamOf_101 : decode cX8_creamOf 101 = .ok (.goto 4, 3) := by decide +kernel
theorem rX8_creamOf_101 {R : zP} {x0 x1 x2 x3 x4 x5 x6 x7 x8 x9 x10 : Option zV} {st : List zV} {M : zM} : uX8_creamOf R 101 [x0, x1, x2, x3, x4, x5, x6, x7, x8, x9, x10] st M ↔ uX8_creamOf R 105 [x0, x1, x2, x3, x4, x5, x6, x7, x8, x9, x10] st M := Iff.trans (zU_step dX8_creamOf_101 (Or.inl rfl)) ⟨fun h => h.2, fun h => ⟨by decide, h⟩⟩
theorem dX8_creamOf_104 : decode cX8_creamOf 104 = .ok (.lconst 0, 1) := by decide +kernel
theorem rX8_creamOf_104 {R : zP} {x0 x1 x2 x3 x4 x5 x6 x7 x8 x9 x10 : Option zV} {st : List zV} {M : zM} : uX8_creamOf R 104 [x0, x1, x2, x3, x4, x5, x6, x7, x8, x9, x10] st M ↔ uX8_creamOf R 105 [x0, x1, x2, x3, x4, x5, x6, x7, x8, x9, x10] (.inr (.inl 0) :: st) M := zU_step dX8_creamOf_104 (Or.inl rfl)
theorem dX8_creamOf_105 : decode cX8_creamOf 105 = .ok (.ladd, 1) := by decide +kernel
theorem rX8_creamOf_105 {R : zP} {x0 x1 x2 x3 x4 x5 x6 x7 x8 x9 x10 : Option zV} {st : List zV} {M : zM} {a b : Int} : uX8_creamOf R 105 [x0, x1, x2, x3, x4, x5, x6, x7, x8, x9, x10] (.inr (.inl b) :: .inr (.inl a) :: st) M ↔ uX8_creamOf R 106 [x0, x1, x2, x3, x4, x5, x6, x7, x8, x9, x10] (.inr (.inl (a + b)) :: st) M := zU_step dX8_creamOf_105 (Or.inl rfl)
theorem dX8_creamOf_106 : decode cX8_creamOf 106 = .ok (.lstore 5, 2) := by decide +kernel
theorem rX8_creamOf_106 {R : zP} {x0 x1 x2 x3 x5 x6 x7 x8 x9 x10 : Option zV} {st : List zV} {M : zM} {a : Int} {y : Int} : uX8_creamOf R 106 [x0, x1, x2, x3, some (.inl y), x5, x6, x7, x8, x9, x10] (.inr (.inl a) :: st) M ↔ uX8_creamOf R 108 [x0, x1, x2, x3, some (.inl y), some (.inr (.inl a)), none, x7, x8, x9, x10] st M := Iff.trans (zU_step dX8_creamOf_106 (Or.inl rfl)) ⟨fun h => h.2, fun h => ⟨show 5 + 1 < 11 by decide, h⟩⟩
theorem rX8_creamOf_106z {R : zP} {x0 x1 x2 x3 x4 x5 x6 x7 x8 x9 x10 : Option zV} {st : List zV} {M : zM} {a : Int} : uX8_creamOf R 106 [x0, x1, x2, x3, x4, x5, x6, x7, x8, x9, x10] (.inr (.inl a) :: st) M ↔ uX8_creamOf R 108 [x0, x1, x2, x3, zkeep x4, some (.inr (.inl a)), none, x7, x8, x9, x10] st M := Iff.trans (zU_step dX8_creamOf_106 (Or.inl rfl)) ⟨fun h => h.2, fun h => ⟨show 5 + 1 < 11 by decide, h⟩⟩
theorem dX8_creamOf_108 : decode cX8_creamOf 108 = .ok (.iinc 7 1, 3) := by decide +kernel
theorem rX8_creamOf_108 {R : zP} {x0 x1 x2 x3 x4 x5 x8 x9 x10 : Option zV} {st : List zV} {M : zM} {a : Int} : uX8_creamOf R 108 [x0, x1, x2, x3, x4, x5, none, some (.inl a), x8, x9, x10] st M ↔ uX8_creamOf R 111 [x0, x1, x2, x3, x4, x5, none, some (.inl (a + (1))), x8, x9, x10] st M := Iff.trans (zU_step dX8_creamOf_108 (Or.inl rfl)) ⟨fun h => h.2, fun h => ⟨show 7 < 11 by decide, h⟩⟩
theorem rX8_creamOf_108z {R : zP} {x0 x1 x2 x3 x4 x5 x6 x8 x9 x10 : Option zV} {st : List zV} {M : zM} {a : Int} : uX8_creamOf R 108 [x0, x1, x2, x3, x4, x5, x6, some (.inl a), x8, x9, x10] st M ↔ uX8_creamOf R 111 [x0, x1, x2, x3, x4, x5, zkeep x6, some (.inl (a + (1))), x8, x9, x10] st M := Iff.trans (zU_step dX8_creamOf_108 (Or.inl rfl)) ⟨fun h => h.2, fun h => ⟨show 7 < 11 by decide, h⟩⟩
theorem dX8_creamOf_111 : decode cX8_creamOf 111 = .ok (.goto (-101), 3) := by decide +kernel
theorem rX8_creamOf_111 {R : zP} {x0 x1 x2 x3 x4 x5 x6 x7 x8 x9 x10 : Option zV} {st : List zV} {M : zM} : uX8_creamOf R 111 [x0, x1, x2, x3, x4, x5, x6, x7, x8, x9, x10] st M ↔ uX8_creamOf R 10 [x0, x1, x2, x3, x4, x5, x6, x7, x8, x9, x10] st M := Iff.trans (zU_step dX8_creamOf_111 (Or.inl rfl)) ⟨fun h => h.2, fun h => ⟨by decide, h⟩⟩
theorem dX8_creamOf_114 : decode cX8_creamOf 114 = .ok (.lload 5, 2) := by decide +kernel
theorem rX8_creamOf_114 {R : zP} {x0 x1 x2 x3 x4 x6 x7 x8 x9 x10 : Option zV} {st : List zV} {M : zM} {a : Int} : uX8_creamOf R 114 [x0, x1, x2, x3, x4, some (.inr (.inl a)), x6, x7, x8, x9, x10] st M ↔ uX8_creamOf R 116 [x0, x1, x2, x3, x4, some (.inr (.inl a)), x6, x7, x8, x9, x10] (.inr (.inl a) :: st) M := zU_step dX8_creamOf_114 (Or.inl rfl)
theorem dX8_creamOf_116 : decode cX8_creamOf 116 = .ok (.lconst 1, 1) := by decide +kernel
theorem rX8_creamOf_116 {R : zP} {x0 x1 x2 x3 x4 x5 x6 x7 x8 x9 x10 : Option zV} {st : List zV} {M : zM} : uX8_creamOf R 116 [x0, x1, x2, x3, x4, x5, x6, x7, x8, x9, x10] st M ↔ uX8_creamOf R 117 [x0, x1, x2, x3, x4, x5, x6, x7, x8, x9, x10] (.inr (.inl 1) :: st) M := zU_step dX8_creamOf_116 (Or.inl rfl)
theorem dX8_creamOf_117 : decode cX8_creamOf 117 = .ok (.iconst 4, 1) := by decide +kernel
theorem rX8_creamOf_117 {R : zP} {x0 x1 x2 x3 x4 x5 x6 x7 x8 x9 x10 : Option zV} {st : List zV} {M : zM} : uX8_creamOf R 117 [x0, x1, x2, x3, x4, x5, x6, x7, x8, x9, x10] st M ↔ uX8_creamOf R 118 [x0, x1, x2, x3, x4, x5, x6, x7, x8, x9, x10] (.inl (4) :: st) M := zU_step dX8_creamOf_117 (Or.inl rfl)
theorem dX8_creamOf_118 : decode cX8_creamOf 118 = .ok (.aload_n 0, 1) := by decide +kernel
theorem rX8_creamOf_118 {R : zP} {x1 x2 x3 x4 x5 x6 x7 x8 x9 x10 : Option zV} {st : List zV} {M : zM} {a : Nat} : uX8_creamOf R 118 [some (.inr (.inr a)), x1, x2, x3, x4, x5, x6, x7, x8, x9, x10] st M ↔ uX8_creamOf R 119 [some (.inr (.inr a)), x1, x2, x3, x4, x5, x6, x7, x8, x9, x10] (.inr (.inr a) :: st) M := zU_step dX8_creamOf_118 (Or.inl rfl)
theorem dX8_creamOf_119 : decode cX8_creamOf 119 = .ok (.getfield 166, 3) := by decide +kernel
theorem rX8_creamOf_119 {R : zP} {x0 x1 x2 x3 x4 x5 x6 x7 x8 x9 x10 : Option zV} {st : List zV} {M : zM} {r : Nat} : uX8_creamOf R 119 [x0, x1, x2, x3, x4, x5, x6, x7, x8, x9, x10] (.inr (.inr r) :: st) M ↔ zgetx fX8 166 r M (fun v => uX8_creamOf R 122 [x0, x1, x2, x3, x4, x5, x6, x7, x8, x9, x10] (v :: st) M) := zU_step dX8_creamOf_119 (Or.inl rfl)
theorem dX8_creamOf_122 : decode cX8_creamOf 122 = .ok (.imul, 1) := by decide +kernel
theorem rX8_creamOf_122 {R : zP} {x0 x1 x2 x3 x4 x5 x6 x7 x8 x9 x10 : Option zV} {st : List zV} {M : zM} {a b : Int} : uX8_creamOf R 122 [x0, x1, x2, x3, x4, x5, x6, x7, x8, x9, x10] (.inl b :: .inl a :: st) M ↔ uX8_creamOf R 123 [x0, x1, x2, x3, x4, x5, x6, x7, x8, x9, x10] (.inl (a * b) :: st) M := zU_step dX8_creamOf_122 (Or.inl rfl)
theorem dX8_creamOf_123 : decode cX8_creamOf 123 = .ok (.lshl, 1) := by decide +kernel
theorem rX8_creamOf_123 {R : zP} {x0 x1 x2 x3 x4 x5 x6 x7 x8 x9 x10 : Option zV} {st : List zV} {M : zM} {a b : Int} : uX8_creamOf R 123 [x0, x1, x2, x3, x4, x5, x6, x7, x8, x9, x10] (.inl b :: .inr (.inl a) :: st) M ↔ uX8_creamOf R 124 [x0, x1, x2, x3, x4, x5, x6, x7, x8, x9, x10] (.inr (.inl (zlshl a b)) :: st) M := zU_step dX8_creamOf_123 (Or.inl rfl)
theorem dX8_creamOf_124 : decode cX8_creamOf 124 = .ok (.iload 4, 2) := by decide +kernel
theorem rX8_creamOf_124 {R : zP} {x0 x1 x2 x3 x5 x6 x7 x8 x9 x10 : Option zV} {st : List zV} {M : zM} {a : Int} : uX8_creamOf R 124 [x0, x1, x2, x3, some (.inl a), x5, x6, x7, x8, x9, x10] st M ↔ uX8_creamOf R 126 [x0, x1, x2, x3, some (.inl a), x5, x6, x7, x8, x9, x10] (.inl a :: st) M := zU_step dX8_creamOf_124 (Or.inl rfl)
theorem dX8_creamOf_126 : decode cX8_creamOf 126 = .ok (.invokestatic 256, 3) := by decide +kernel
theorem rX8_creamOf_126 {R : zP} {x0 x1 x2 x3 x4 x5 x6 x7 x8 x9 x10 : Option zV} {st : List zV} {M : zM} {a0 a1 a2 : zV} : uX8_creamOf R 126 [x0, x1, x2, x3, x4, x5, x6, x7, x8, x9, x10] (a2 :: a1 :: a0 :: st) M ↔ (st.length ≤ 4 ∧ zcv tX8_lowest [a0, a1, a2] M (fun v M => uX8_creamOf R 129 [x0, x1, x2, x3, x4, x5, x6, x7, x8, x9, x10] (v :: st) M)) := Iff.trans (zU_step dX8_creamOf_126 (Or.inl rfl)) ⟨fun h => ⟨h.2.1, zcv_of h.2.2⟩, fun h => ⟨rfl, h.1, zcv_to h.2⟩⟩
theorem dX8_creamOf_129 : decode cX8_creamOf 129 = .ok (.lreturn, 1) := by decide +kernel
theorem rX8_creamOf_129 {R : zP} {x0 x1 x2 x3 x4 x5 x6 x7 x8 x9 x10 : Option zV} {M : zM} {a : Int} : uX8_creamOf R 129 [x0, x1, x2, x3, x4, x5, x6, x7, x8, x9, x10] [.inr (.inl a)] M ↔ R (some (.inr (.inl a))) M := Iff.trans (zU_step dX8_creamOf_129 (Or.inl rfl)) ⟨fun h => h.2.2, fun h => ⟨rfl, rfl, h⟩⟩
theorem eX8_creamOf {R : zP} {M : zM} {a0 : Nat} {p0 : Int} {p1 : Int} {p2 : Int} {p3 : Int} : tX8_creamOf [.inr (.inr a0), .inl p0, .inl p1, .inl p2, .inl p3] M R ↔ uX8_creamOf R 0 [some (.inr (.inr a0)), some (.inl p0), some (.inl p1), some (.inl p2), some (.inl p3), none, none, none, none, none, none] [] M := ⟨fun h => h.2, fun h => ⟨show 5 ≤ 11 by decide, h⟩⟩
def uX8_cream (R : zP) : zK := zU fX8 vX8_cream cX8_cream R
theorem dX8_cream_0 : decode cX8_cream 0 = .ok (.iload_n 1, 1) := by decide +kernel
theorem rX8_cream_0 {R : zP} {x0 x2 x3 x4 : Option zV} {st : List zV} {M : zM} {a : Int} : uX8_cream R 0 [x0, some (.inl a), x2, x3, x4] st M ↔ uX8_cream R 1 [x0, some (.inl a), x2, x3, x4] (.inl a :: st) M := zU_step dX8_cream_0 (Or.inl rfl)
theorem dX8_cream_1 : decode cX8_cream 1 = .ok (.iconst 0, 1) := by decide +kernel
theorem rX8_cream_1 {R : zP} {x0 x1 x2 x3 x4 : Option zV} {st : List zV} {M : zM} : uX8_cream R 1 [x0, x1, x2, x3, x4] st M ↔ uX8_cream R 2 [x0, x1, x2, x3, x4] (.inl (0) :: st) M := zU_step dX8_cream_1 (Or.inl rfl)
theorem dX8_cream_2 : decode cX8_cream 2 = .ok (.bipush 16, 2) := by decide +kernel
theorem rX8_cream_2 {R : zP} {x0 x1 x2 x3 x4 : Option zV} {st : List zV} {M : zM} : uX8_cream R 2 [x0, x1, x2, x3, x4] st M ↔ uX8_cream R 4 [x0, x1, x2, x3, x4] (.inl (16) :: st) M := Iff.trans (zU_step dX8_cream_2 (Or.inl rfl)) ⟨fun h => h.2, fun h => ⟨by decide, h⟩⟩
theorem dX8_cream_4 : decode cX8_cream 4 = .ok (.invokestatic 112, 3) := by decide +kernel
theorem rX8_cream_4 {R : zP} {x0 x1 x2 x3 x4 : Option zV} {st : List zV} {M : zM} {a0 a1 a2 : zV} : uX8_cream R 4 [x0, x1, x2, x3, x4] (a2 :: a1 :: a0 :: st) M ↔ (st.length ≤ 4 ∧ zcv tX8_in [a0, a1, a2] M (fun v M => uX8_cream R 7 [x0, x1, x2, x3, x4] (v :: st) M)) := Iff.trans (zU_step dX8_cream_4 (Or.inl rfl)) ⟨fun h => ⟨h.2.1, zcv_of h.2.2⟩, fun h => ⟨rfl, h.1, zcv_to h.2⟩⟩
theorem dX8_cream_7 : decode cX8_cream 7 = .ok (.ifCond .eq 39, 3) := by decide +kernel
theorem rX8_cream_7 {R : zP} {x0 x1 x2 x3 x4 : Option zV} {st : List zV} {M : zM} {a : Int} : uX8_cream R 7 [x0, x1, x2, x3, x4] (.inl a :: st) M ↔ (zIR a ∧ if a = 0 then uX8_cream R 46 [x0, x1, x2, x3, x4] st M else uX8_cream R 10 [x0, x1, x2, x3, x4] st M) := Iff.trans (zU_step dX8_cream_7 (Or.inl rfl)) ⟨fun h => ⟨h.1.1, (zite (c := a = 0)).mpr h.2⟩, fun h => ⟨⟨h.1, by decide⟩, (zite (c := a = 0)).mp h.2⟩⟩
theorem dX8_cream_10 : decode cX8_cream 10 = .ok (.iload_n 2, 1) := by decide +kernel
theorem rX8_cream_10 {R : zP} {x0 x1 x3 x4 : Option zV} {st : List zV} {M : zM} {a : Int} : uX8_cream R 10 [x0, x1, some (.inl a), x3, x4] st M ↔ uX8_cream R 11 [x0, x1, some (.inl a), x3, x4] (.inl a :: st) M := zU_step dX8_cream_10 (Or.inl rfl)
theorem dX8_cream_11 : decode cX8_cream 11 = .ok (.invokestatic 160, 3) := by decide +kernel
theorem rX8_cream_11 {R : zP} {x0 x1 x2 x3 x4 : Option zV} {st : List zV} {M : zM} {a0 : zV} : uX8_cream R 11 [x0, x1, x2, x3, x4] (a0 :: st) M ↔ (st.length ≤ 4 ∧ zcv tX8_isTerm [a0] M (fun v M => uX8_cream R 14 [x0, x1, x2, x3, x4] (v :: st) M)) := Iff.trans (zU_step dX8_cream_11 (Or.inl rfl)) ⟨fun h => ⟨h.2.1, zcv_of h.2.2⟩, fun h => ⟨rfl, h.1, zcv_to h.2⟩⟩
theorem dX8_cream_14 : decode cX8_cream 14 = .ok (.ifCond .eq 32, 3) := by decide +kernel
theorem rX8_cream_14 {R : zP} {x0 x1 x2 x3 x4 : Option zV} {st : List zV} {M : zM} {a : Int} : uX8_cream R 14 [x0, x1, x2, x3, x4] (.inl a :: st) M ↔ (zIR a ∧ if a = 0 then uX8_cream R 46 [x0, x1, x2, x3, x4] st M else uX8_cream R 17 [x0, x1, x2, x3, x4] st M) := Iff.trans (zU_step dX8_cream_14 (Or.inl rfl)) ⟨fun h => ⟨h.1.1, (zite (c := a = 0)).mpr h.2⟩, fun h => ⟨⟨h.1, by decide⟩, (zite (c := a = 0)).mp h.2⟩⟩
theorem dX8_cream_17 : decode cX8_cream 17 = .ok (.iload_n 3, 1) := by decide +kernel
theorem rX8_cream_17 {R : zP} {x0 x1 x2 x4 : Option zV} {st : List zV} {M : zM} {a : Int} : uX8_cream R 17 [x0, x1, x2, some (.inl a), x4] st M ↔ uX8_cream R 18 [x0, x1, x2, some (.inl a), x4] (.inl a :: st) M := zU_step dX8_cream_17 (Or.inl rfl)
theorem dX8_cream_18 : decode cX8_cream 18 = .ok (.invokestatic 208, 3) := by decide +kernel
theorem rX8_cream_18 {R : zP} {x0 x1 x2 x3 x4 : Option zV} {st : List zV} {M : zM} {a0 : zV} : uX8_cream R 18 [x0, x1, x2, x3, x4] (a0 :: st) M ↔ (st.length ≤ 4 ∧ zcv tX8_isQuestion [a0] M (fun v M => uX8_cream R 21 [x0, x1, x2, x3, x4] (v :: st) M)) := Iff.trans (zU_step dX8_cream_18 (Or.inl rfl)) ⟨fun h => ⟨h.2.1, zcv_of h.2.2⟩, fun h => ⟨rfl, h.1, zcv_to h.2⟩⟩
theorem dX8_cream_21 : decode cX8_cream 21 = .ok (.ifCond .eq 25, 3) := by decide +kernel
theorem rX8_cream_21 {R : zP} {x0 x1 x2 x3 x4 : Option zV} {st : List zV} {M : zM} {a : Int} : uX8_cream R 21 [x0, x1, x2, x3, x4] (.inl a :: st) M ↔ (zIR a ∧ if a = 0 then uX8_cream R 46 [x0, x1, x2, x3, x4] st M else uX8_cream R 24 [x0, x1, x2, x3, x4] st M) := Iff.trans (zU_step dX8_cream_21 (Or.inl rfl)) ⟨fun h => ⟨h.1.1, (zite (c := a = 0)).mpr h.2⟩, fun h => ⟨⟨h.1, by decide⟩, (zite (c := a = 0)).mp h.2⟩⟩
theorem dX8_cream_24 : decode cX8_cream 24 = .ok (.iload 4, 2) := by decide +kernel
theorem rX8_cream_24 {R : zP} {x0 x1 x2 x3 : Option zV} {st : List zV} {M : zM} {a : Int} : uX8_cream R 24 [x0, x1, x2, x3, some (.inl a)] st M ↔ uX8_cream R 26 [x0, x1, x2, x3, some (.inl a)] (.inl a :: st) M := zU_step dX8_cream_24 (Or.inl rfl)
theorem dX8_cream_26 : decode cX8_cream 26 = .ok (.iconst 0, 1) := by decide +kernel
theorem rX8_cream_26 {R : zP} {x0 x1 x2 x3 x4 : Option zV} {st : List zV} {M : zM} : uX8_cream R 26 [x0, x1, x2, x3, x4] st M ↔ uX8_cream R 27 [x0, x1, x2, x3, x4] (.inl (0) :: st) M := zU_step dX8_cream_26 (Or.inl rfl)
theorem dX8_cream_27 : decode cX8_cream 27 = .ok (.iconst 1, 1) := by decide +kernel
theorem rX8_cream_27 {R : zP} {x0 x1 x2 x3 x4 : Option zV} {st : List zV} {M : zM} : uX8_cream R 27 [x0, x1, x2, x3, x4] st M ↔ uX8_cream R 28 [x0, x1, x2, x3, x4] (.inl (1) :: st) M := zU_step dX8_cream_27 (Or.inl rfl)
theorem dX8_cream_28 : decode cX8_cream 28 = .ok (.invokestatic 112, 3) := by decide +kernel
theorem rX8_cream_28 {R : zP} {x0 x1 x2 x3 x4 : Option zV} {st : List zV} {M : zM} {a0 a1 a2 : zV} : uX8_cream R 28 [x0, x1, x2, x3, x4] (a2 :: a1 :: a0 :: st) M ↔ (st.length ≤ 4 ∧ zcv tX8_in [a0, a1, a2] M (fun v M => uX8_cream R 31 [x0, x1, x2, x3, x4] (v :: st) M)) := Iff.trans (zU_step dX8_cream_28 (Or.inl rfl)) ⟨fun h => ⟨h.2.1, zcv_of h.2.2⟩, fun h => ⟨rfl, h.1, zcv_to h.2⟩⟩
theorem dX8_cream_31 : decode cX8_cream 31 = .ok (.ifCond .eq 15, 3) := by decide +kernel
theorem rX8_cream_31 {R : zP} {x0 x1 x2 x3 x4 : Option zV} {st : List zV} {M : zM} {a : Int} : uX8_cream R 31 [x0, x1, x2, x3, x4] (.inl a :: st) M ↔ (zIR a ∧ if a = 0 then uX8_cream R 46 [x0, x1, x2, x3, x4] st M else uX8_cream R 34 [x0, x1, x2, x3, x4] st M) := Iff.trans (zU_step dX8_cream_31 (Or.inl rfl)) ⟨fun h => ⟨h.1.1, (zite (c := a = 0)).mpr h.2⟩, fun h => ⟨⟨h.1, by decide⟩, (zite (c := a = 0)).mp h.2⟩⟩
theorem dX8_cream_34 : decode cX8_cream 34 = .ok (.aload_n 0, 1) := by decide +kernel
theorem rX8_cream_34 {R : zP} {x1 x2 x3 x4 : Option zV} {st : List zV} {M : zM} {a : Nat} : uX8_cream R 34 [some (.inr (.inr a)), x1, x2, x3, x4] st M ↔ uX8_cream R 35 [some (.inr (.inr a)), x1, x2, x3, x4] (.inr (.inr a) :: st) M := zU_step dX8_cream_34 (Or.inl rfl)
theorem dX8_cream_35 : decode cX8_cream 35 = .ok (.iload_n 1, 1) := by decide +kernel
theorem rX8_cream_35 {R : zP} {x0 x2 x3 x4 : Option zV} {st : List zV} {M : zM} {a : Int} : uX8_cream R 35 [x0, some (.inl a), x2, x3, x4] st M ↔ uX8_cream R 36 [x0, some (.inl a), x2, x3, x4] (.inl a :: st) M := zU_step dX8_cream_35 (Or.inl rfl)
theorem dX8_cream_36 : decode cX8_cream 36 = .ok (.iload_n 2, 1) := by decide +kernel
theorem rX8_cream_36 {R : zP} {x0 x1 x3 x4 : Option zV} {st : List zV} {M : zM} {a : Int} : uX8_cream R 36 [x0, x1, some (.inl a), x3, x4] st M ↔ uX8_cream R 37 [x0, x1, some (.inl a), x3, x4] (.inl a :: st) M := zU_step dX8_cream_36 (Or.inl rfl)
theorem dX8_cream_37 : decode cX8_cream 37 = .ok (.iload_n 3, 1) := by decide +kernel
theorem rX8_cream_37 {R : zP} {x0 x1 x2 x4 : Option zV} {st : List zV} {M : zM} {a : Int} : uX8_cream R 37 [x0, x1, x2, some (.inl a), x4] st M ↔ uX8_cream R 38 [x0, x1, x2, some (.inl a), x4] (.inl a :: st) M := zU_step dX8_cream_37 (Or.inl rfl)
theorem dX8_cream_38 : decode cX8_cream 38 = .ok (.iload 4, 2) := by decide +kernel
theorem rX8_cream_38 {R : zP} {x0 x1 x2 x3 : Option zV} {st : List zV} {M : zM} {a : Int} : uX8_cream R 38 [x0, x1, x2, x3, some (.inl a)] st M ↔ uX8_cream R 40 [x0, x1, x2, x3, some (.inl a)] (.inl a :: st) M := zU_step dX8_cream_38 (Or.inl rfl)
theorem dX8_cream_40 : decode cX8_cream 40 = .ok (.invokevirtual 309, 3) := by decide +kernel
theorem rX8_cream_40 {R : zP} {x0 x1 x2 x3 x4 : Option zV} {st : List zV} {M : zM} {a0 a1 a2 a3 a4 : zV} : uX8_cream R 40 [x0, x1, x2, x3, x4] (a4 :: a3 :: a2 :: a1 :: a0 :: st) M ↔ (st.length ≤ 4 ∧ zcv (zv 8 tX8_creamOf) [a0, a1, a2, a3, a4] M (fun v M => uX8_cream R 43 [x0, x1, x2, x3, x4] (v :: st) M)) := Iff.trans (zU_step dX8_cream_40 (Or.inl rfl)) ⟨fun h => ⟨h.2.1, zcv_of h.2.2⟩, fun h => ⟨rfl, h.1, zcv_to h.2⟩⟩
theorem dX8_cream_43 : decode cX8_cream 43 = .ok (.goto 8, 3) := by decide +kernel
theorem rX8_cream_43 {R : zP} {x0 x1 x2 x3 x4 : Option zV} {st : List zV} {M : zM} : uX8_cream R 43 [x0, x1, x2, x3, x4] st M ↔ uX8_cream R 51 [x0, x1, x2, x3, x4] st M := Iff.trans (zU_step dX8_cream_43 (Or.inl rfl)) ⟨fun h => h.2, fun h => ⟨by decide, h⟩⟩
theorem dX8_cream_46 : decode cX8_cream 46 = .ok (.bipush (-2), 2) := by decide +kernel
theorem rX8_cream_46 {R : zP} {x0 x1 x2 x3 x4 : Option zV} {st : List zV} {M : zM} : uX8_cream R 46 [x0, x1, x2, x3, x4] st M ↔ uX8_cream R 48 [x0, x1, x2, x3, x4] (.inl (-2) :: st) M := Iff.trans (zU_step dX8_cream_46 (Or.inl rfl)) ⟨fun h => h.2, fun h => ⟨by decide, h⟩⟩
theorem dX8_cream_48 : decode cX8_cream 48 = .ok (.invokestatic 264, 3) := by decide +kernel
theorem rX8_cream_48 {R : zP} {x0 x1 x2 x3 x4 : Option zV} {st : List zV} {M : zM} {a0 : zV} : uX8_cream R 48 [x0, x1, x2, x3, x4] (a0 :: st) M ↔ (st.length ≤ 4 ∧ zcv tX8_no [a0] M (fun v M => uX8_cream R 51 [x0, x1, x2, x3, x4] (v :: st) M)) := Iff.trans (zU_step dX8_cream_48 (Or.inl rfl)) ⟨fun h => ⟨h.2.1, zcv_of h.2.2⟩, fun h => ⟨rfl, h.1, zcv_to h.2⟩⟩
theorem dX8_cream_51 : decode cX8_cream 51 = .ok (.lreturn, 1) := by decide +kernel
theorem rX8_cream_51 {R : zP} {x0 x1 x2 x3 x4 : Option zV} {M : zM} {a : Int} : uX8_cream R 51 [x0, x1, x2, x3, x4] [.inr (.inl a)] M ↔ R (some (.inr (.inl a))) M := Iff.trans (zU_step dX8_cream_51 (Or.inl rfl)) ⟨fun h => h.2.2, fun h => ⟨rfl, rfl, h⟩⟩
theorem eX8_cream {R : zP} {M : zM} {a0 : Nat} {p0 : Int} {p1 : Int} {p2 : Int} {p3 : Int} : tX8_cream [.inr (.inr a0), .inl p0, .inl p1, .inl p2, .inl p3] M R ↔ uX8_cream R 0 [some (.inr (.inr a0)), some (.inl p0), some (.inl p1), some (.inl p2), some (.inl p3)] [] M := ⟨fun h => h.2, fun h => ⟨show 5 ≤ 5 by decide, h⟩⟩
def uX8_ones (R : zP) : zK := zU fX8 vX8_ones cX8_ones R
theorem dX8_ones_0 : decode cX8_ones 0 = .ok (.iconst 0, 1) := by decide +kernel
theorem rX8_ones_0 {R : zP} {x0 x1 x2 x3 : Option zV} {st : List zV} {M : zM} : uX8_ones R 0 [x0, x1, x2, x3] st M ↔ uX8_ones R 1 [x0, x1, x2, x3] (.inl (0) :: st) M := zU_step dX8_ones_0 (Or.inl rfl)
theorem dX8_ones_1 : decode cX8_ones 1 = .ok (.istore_n 2, 1) := by decide +kernel
theorem rX8_ones_1 {R : zP} {x0 x2 x3 : Option zV} {st : List zV} {M : zM} {a : Int} {y : Int} : uX8_ones R 1 [x0, some (.inl y), x2, x3] (.inl a :: st) M ↔ uX8_ones R 2 [x0, some (.inl y), some (.inl a), x3] st M := Iff.trans (zU_step dX8_ones_1 (Or.inl rfl)) ⟨fun h => h.2, fun h => ⟨show 2 < 4 by decide, h⟩⟩
theorem rX8_ones_1z {R : zP} {x0 x1 x2 x3 : Option zV} {st : List zV} {M : zM} {a : Int} : uX8_ones R 1 [x0, x1, x2, x3] (.inl a :: st) M ↔ uX8_ones R 2 [x0, zkeep x1, some (.inl a), x3] st M := Iff.trans (zU_step dX8_ones_1 (Or.inl rfl)) ⟨fun h => h.2, fun h => ⟨show 2 < 4 by decide, h⟩⟩
theorem dX8_ones_2 : decode cX8_ones 2 = .ok (.iconst 0, 1) := by decide +kernel
theorem rX8_ones_2 {R : zP} {x0 x1 x2 x3 : Option zV} {st : List zV} {M : zM} : uX8_ones R 2 [x0, x1, x2, x3] st M ↔ uX8_ones R 3 [x0, x1, x2, x3] (.inl (0) :: st) M := zU_step dX8_ones_2 (Or.inl rfl)
theorem dX8_ones_3 : decode cX8_ones 3 = .ok (.istore_n 3, 1) := by decide +kernel
theorem rX8_ones_3 {R : zP} {x0 x1 x3 : Option zV} {st : List zV} {M : zM} {a : Int} {y : Int} : uX8_ones R 3 [x0, x1, some (.inl y), x3] (.inl a :: st) M ↔ uX8_ones R 4 [x0, x1, some (.inl y), some (.inl a)] st M := Iff.trans (zU_step dX8_ones_3 (Or.inl rfl)) ⟨fun h => h.2, fun h => ⟨show 3 < 4 by decide, h⟩⟩
theorem rX8_ones_3z {R : zP} {x0 x1 x2 x3 : Option zV} {st : List zV} {M : zM} {a : Int} : uX8_ones R 3 [x0, x1, x2, x3] (.inl a :: st) M ↔ uX8_ones R 4 [x0, x1, zkeep x2, some (.inl a)] st M := Iff.trans (zU_step dX8_ones_3 (Or.inl rfl)) ⟨fun h => h.2, fun h => ⟨show 3 < 4 by decide, h⟩⟩
theorem dX8_ones_4 : decode cX8_ones 4 = .ok (.iload_n 3, 1) := by decide +kernel
theorem rX8_ones_4 {R : zP} {x0 x1 x2 : Option zV} {st : List zV} {M : zM} {a : Int} : uX8_ones R 4 [x0, x1, x2, some (.inl a)] st M ↔ uX8_ones R 5 [x0, x1, x2, some (.inl a)] (.inl a :: st) M := zU_step dX8_ones_4 (Or.inl rfl)
theorem dX8_ones_5 : decode cX8_ones 5 = .ok (.bipush 8, 2) := by decide +kernel
theorem rX8_ones_5 {R : zP} {x0 x1 x2 x3 : Option zV} {st : List zV} {M : zM} : uX8_ones R 5 [x0, x1, x2, x3] st M ↔ uX8_ones R 7 [x0, x1, x2, x3] (.inl (8) :: st) M := Iff.trans (zU_step dX8_ones_5 (Or.inl rfl)) ⟨fun h => h.2, fun h => ⟨by decide, h⟩⟩
theorem dX8_ones_7 : decode cX8_ones 7 = .ok (.if_icmp .ge 25, 3) := by decide +kernel
theorem rX8_ones_7 {R : zP} {x0 x1 x2 x3 : Option zV} {st : List zV} {M : zM} {a b : Int} : uX8_ones R 7 [x0, x1, x2, x3] (.inl b :: .inl a :: st) M ↔ ((zIR a ∧ zIR b) ∧ if b ≤ a then uX8_ones R 32 [x0, x1, x2, x3] st M else uX8_ones R 10 [x0, x1, x2, x3] st M) := Iff.trans (zU_step dX8_ones_7 (Or.inl rfl)) ⟨fun h => ⟨⟨h.1.1, h.1.2.1⟩, (zite (c := b ≤ a)).mpr h.2⟩, fun h => ⟨⟨h.1.1, h.1.2, by decide⟩, (zite (c := b ≤ a)).mp h.2⟩⟩
theorem dX8_ones_10 : decode cX8_ones 10 = .ok (.iload_n 2, 1) := by decide +kernel
theorem rX8_ones_10 {R : zP} {x0 x1 x3 : Option zV} {st : List zV} {M : zM} {a : Int} : uX8_ones R 10 [x0, x1, some (.inl a), x3] st M ↔ uX8_ones R 11 [x0, x1, some (.inl a), x3] (.inl a :: st) M := zU_step dX8_ones_10 (Or.inl rfl)
theorem dX8_ones_11 : decode cX8_ones 11 = .ok (.iload_n 1, 1) := by decide +kernel
theorem rX8_ones_11 {R : zP} {x0 x2 x3 : Option zV} {st : List zV} {M : zM} {a : Int} : uX8_ones R 11 [x0, some (.inl a), x2, x3] st M ↔ uX8_ones R 12 [x0, some (.inl a), x2, x3] (.inl a :: st) M := zU_step dX8_ones_11 (Or.inl rfl)
theorem dX8_ones_12 : decode cX8_ones 12 = .ok (.iload_n 3, 1) := by decide +kernel
theorem rX8_ones_12 {R : zP} {x0 x1 x2 : Option zV} {st : List zV} {M : zM} {a : Int} : uX8_ones R 12 [x0, x1, x2, some (.inl a)] st M ↔ uX8_ones R 13 [x0, x1, x2, some (.inl a)] (.inl a :: st) M := zU_step dX8_ones_12 (Or.inl rfl)
theorem dX8_ones_13 : decode cX8_ones 13 = .ok (.invokestatic 187, 3) := by decide +kernel
theorem rX8_ones_13 {R : zP} {x0 x1 x2 x3 : Option zV} {st : List zV} {M : zM} {a0 a1 : zV} : uX8_ones R 13 [x0, x1, x2, x3] (a1 :: a0 :: st) M ↔ (st.length ≤ 4 ∧ zcv tX8_isIn [a0, a1] M (fun v M => uX8_ones R 16 [x0, x1, x2, x3] (v :: st) M)) := Iff.trans (zU_step dX8_ones_13 (Or.inl rfl)) ⟨fun h => ⟨h.2.1, zcv_of h.2.2⟩, fun h => ⟨rfl, h.1, zcv_to h.2⟩⟩
theorem dX8_ones_16 : decode cX8_ones 16 = .ok (.ifCond .eq 7, 3) := by decide +kernel
theorem rX8_ones_16 {R : zP} {x0 x1 x2 x3 : Option zV} {st : List zV} {M : zM} {a : Int} : uX8_ones R 16 [x0, x1, x2, x3] (.inl a :: st) M ↔ (zIR a ∧ if a = 0 then uX8_ones R 23 [x0, x1, x2, x3] st M else uX8_ones R 19 [x0, x1, x2, x3] st M) := Iff.trans (zU_step dX8_ones_16 (Or.inl rfl)) ⟨fun h => ⟨h.1.1, (zite (c := a = 0)).mpr h.2⟩, fun h => ⟨⟨h.1, by decide⟩, (zite (c := a = 0)).mp h.2⟩⟩
theorem dX8_ones_19 : decode cX8_ones 19 = .ok (.iconst 1, 1) := by decide +kernel
theorem rX8_ones_19 {R : zP} {x0 x1 x2 x3 : Option zV} {st : List zV} {M : zM} : uX8_ones R 19 [x0, x1, x2, x3] st M ↔ uX8_ones R 20 [x0, x1, x2, x3] (.inl (1) :: st) M := zU_step dX8_ones_19 (Or.inl rfl)
theorem dX8_ones_20 : decode cX8_ones 20 = .ok (.goto 4, 3) := by decide +kernel
theorem rX8_ones_20 {R : zP} {x0 x1 x2 x3 : Option zV} {st : List zV} {M : zM} : uX8_ones R 20 [x0, x1, x2, x3] st M ↔ uX8_ones R 24 [x0, x1, x2, x3] st M := Iff.trans (zU_step dX8_ones_20 (Or.inl rfl)) ⟨fun h => h.2, fun h => ⟨by decide, h⟩⟩
theorem dX8_ones_23 : decode cX8_ones 23 = .ok (.iconst 0, 1) := by decide +kernel
theorem rX8_ones_23 {R : zP} {x0 x1 x2 x3 : Option zV} {st : List zV} {M : zM} : uX8_ones R 23 [x0, x1, x2, x3] st M ↔ uX8_ones R 24 [x0, x1, x2, x3] (.inl (0) :: st) M := zU_step dX8_ones_23 (Or.inl rfl)
theorem dX8_ones_24 : decode cX8_ones 24 = .ok (.iadd, 1) := by decide +kernel
theorem rX8_ones_24 {R : zP} {x0 x1 x2 x3 : Option zV} {st : List zV} {M : zM} {a b : Int} : uX8_ones R 24 [x0, x1, x2, x3] (.inl b :: .inl a :: st) M ↔ uX8_ones R 25 [x0, x1, x2, x3] (.inl (a + b) :: st) M := zU_step dX8_ones_24 (Or.inl rfl)
theorem dX8_ones_25 : decode cX8_ones 25 = .ok (.istore_n 2, 1) := by decide +kernel
theorem rX8_ones_25 {R : zP} {x0 x2 x3 : Option zV} {st : List zV} {M : zM} {a : Int} {y : Int} : uX8_ones R 25 [x0, some (.inl y), x2, x3] (.inl a :: st) M ↔ uX8_ones R 26 [x0, some (.inl y), some (.inl a), x3] st M := Iff.trans (zU_step dX8_ones_25 (Or.inl rfl)) ⟨fun h => h.2, fun h => ⟨show 2 < 4 by decide, h⟩⟩
theorem rX8_ones_25z {R : zP} {x0 x1 x2 x3 : Option zV} {st : List zV} {M : zM} {a : Int} : uX8_ones R 25 [x0, x1, x2, x3] (.inl a :: st) M ↔ uX8_ones R 26 [x0, zkeep x1, some (.inl a), x3] st M := Iff.trans (zU_step dX8_ones_25 (Or.inl rfl)) ⟨fun h => h.2, fun h => ⟨show 2 < 4 by decide, h⟩⟩
theorem dX8_ones_26 : decode cX8_ones 26 = .ok (.iinc 3 1, 3) := by decide +kernel
theorem rX8_ones_26 {R : zP} {x0 x1 : Option zV} {st : List zV} {M : zM} {a : Int} {y : Int} : uX8_ones R 26 [x0, x1, some (.inl y), some (.inl a)] st M ↔ uX8_ones R 29 [x0, x1, some (.inl y), some (.inl (a + (1)))] st M := Iff.trans (zU_step dX8_ones_26 (Or.inl rfl)) ⟨fun h => h.2, fun h => ⟨show 3 < 4 by decide, h⟩⟩
theorem rX8_ones_26z {R : zP} {x0 x1 x2 : Option zV} {st : List zV} {M : zM} {a : Int} : uX8_ones R 26 [x0, x1, x2, some (.inl a)] st M ↔ uX8_ones R 29 [x0, x1, zkeep x2, some (.inl (a + (1)))] st M := Iff.trans (zU_step dX8_ones_26 (Or.inl rfl)) ⟨fun h => h.2, fun h => ⟨show 3 < 4 by decide, h⟩⟩
theorem dX8_ones_29 : decode cX8_ones 29 = .ok (.goto (-25), 3) := by decide +kernel
theorem rX8_ones_29 {R : zP} {x0 x1 x2 x3 : Option zV} {st : List zV} {M : zM} : uX8_ones R 29 [x0, x1, x2, x3] st M ↔ uX8_ones R 4 [x0, x1, x2, x3] st M := Iff.trans (zU_step dX8_ones_29 (Or.inl rfl)) ⟨fun h => h.2, fun h => ⟨by decide, h⟩⟩
theorem dX8_ones_32 : decode cX8_ones 32 = .ok (.iload_n 2, 1) := by decide +kernel
theorem rX8_ones_32 {R : zP} {x0 x1 x3 : Option zV} {st : List zV} {M : zM} {a : Int} : uX8_ones R 32 [x0, x1, some (.inl a), x3] st M ↔ uX8_ones R 33 [x0, x1, some (.inl a), x3] (.inl a :: st) M := zU_step dX8_ones_32 (Or.inl rfl)
theorem dX8_ones_33 : decode cX8_ones 33 = .ok (.ireturn, 1) := by decide +kernel
theorem rX8_ones_33 {R : zP} {x0 x1 x2 x3 : Option zV} {M : zM} {a : Int} : uX8_ones R 33 [x0, x1, x2, x3] [.inl a] M ↔ R (some (.inl a)) M := Iff.trans (zU_step dX8_ones_33 (Or.inl rfl)) ⟨fun h => h.2.2, fun h => ⟨rfl, Or.inl rfl, h⟩⟩
theorem eX8_ones {R : zP} {M : zM} {a0 : Nat} {p0 : Int} : tX8_ones [.inr (.inr a0), .inl p0] M R ↔ uX8_ones R 0 [some (.inr (.inr a0)), some (.inl p0), none, none] [] M := ⟨fun h => h.2, fun h => ⟨show 2 ≤ 4 by decide, h⟩⟩
def uX8_sickAll (R : zP) : zK := zU fX8 vX8_sickAll cX8_sickAll R
theorem dX8_sickAll_0 : decode cX8_sickAll 0 = .ok (.iconst 0, 1) := by decide +kernel
theorem rX8_sickAll_0 {R : zP} {x0 x1 x2 : Option zV} {st : List zV} {M : zM} : uX8_sickAll R 0 [x0, x1, x2] st M ↔ uX8_sickAll R 1 [x0, x1, x2] (.inl (0) :: st) M := zU_step dX8_sickAll_0 (Or.inl rfl)
theorem dX8_sickAll_1 : decode cX8_sickAll 1 = .ok (.istore_n 1, 1) := by decide +kernel
theorem rX8_sickAll_1 {R : zP} {x1 x2 : Option zV} {st : List zV} {M : zM} {a : Int} {y : Nat} : uX8_sickAll R 1 [some (.inr (.inr y)), x1, x2] (.inl a :: st) M ↔ uX8_sickAll R 2 [some (.inr (.inr y)), some (.inl a), x2] st M := Iff.trans (zU_step dX8_sickAll_1 (Or.inl rfl)) ⟨fun h => h.2, fun h => ⟨show 1 < 3 by decide, h⟩⟩
theorem rX8_sickAll_1z {R : zP} {x0 x1 x2 : Option zV} {st : List zV} {M : zM} {a : Int} : uX8_sickAll R 1 [x0, x1, x2] (.inl a :: st) M ↔ uX8_sickAll R 2 [zkeep x0, some (.inl a), x2] st M := Iff.trans (zU_step dX8_sickAll_1 (Or.inl rfl)) ⟨fun h => h.2, fun h => ⟨show 1 < 3 by decide, h⟩⟩
theorem dX8_sickAll_2 : decode cX8_sickAll 2 = .ok (.iconst 0, 1) := by decide +kernel
theorem rX8_sickAll_2 {R : zP} {x0 x1 x2 : Option zV} {st : List zV} {M : zM} : uX8_sickAll R 2 [x0, x1, x2] st M ↔ uX8_sickAll R 3 [x0, x1, x2] (.inl (0) :: st) M := zU_step dX8_sickAll_2 (Or.inl rfl)
theorem dX8_sickAll_3 : decode cX8_sickAll 3 = .ok (.istore_n 2, 1) := by decide +kernel
theorem rX8_sickAll_3 {R : zP} {x0 x2 : Option zV} {st : List zV} {M : zM} {a : Int} {y : Int} : uX8_sickAll R 3 [x0, some (.inl y), x2] (.inl a :: st) M ↔ uX8_sickAll R 4 [x0, some (.inl y), some (.inl a)] st M := Iff.trans (zU_step dX8_sickAll_3 (Or.inl rfl)) ⟨fun h => h.2, fun h => ⟨show 2 < 3 by decide, h⟩⟩
theorem rX8_sickAll_3z {R : zP} {x0 x1 x2 : Option zV} {st : List zV} {M : zM} {a : Int} : uX8_sickAll R 3 [x0, x1, x2] (.inl a :: st) M ↔ uX8_sickAll R 4 [x0, zkeep x1, some (.inl a)] st M := Iff.trans (zU_step dX8_sickAll_3 (Or.inl rfl)) ⟨fun h => h.2, fun h => ⟨show 2 < 3 by decide, h⟩⟩
theorem dX8_sickAll_4 : decode cX8_sickAll 4 = .ok (.iload_n 2, 1) := by decide +kernel
theorem rX8_sickAll_4 {R : zP} {x0 x1 : Option zV} {st : List zV} {M : zM} {a : Int} : uX8_sickAll R 4 [x0, x1, some (.inl a)] st M ↔ uX8_sickAll R 5 [x0, x1, some (.inl a)] (.inl a :: st) M := zU_step dX8_sickAll_4 (Or.inl rfl)
theorem dX8_sickAll_5 : decode cX8_sickAll 5 = .ok (.aload_n 0, 1) := by decide +kernel
theorem rX8_sickAll_5 {R : zP} {x1 x2 : Option zV} {st : List zV} {M : zM} {a : Nat} : uX8_sickAll R 5 [some (.inr (.inr a)), x1, x2] st M ↔ uX8_sickAll R 6 [some (.inr (.inr a)), x1, x2] (.inr (.inr a) :: st) M := zU_step dX8_sickAll_5 (Or.inl rfl)
theorem dX8_sickAll_6 : decode cX8_sickAll 6 = .ok (.getfield 127, 3) := by decide +kernel
theorem rX8_sickAll_6 {R : zP} {x0 x1 x2 : Option zV} {st : List zV} {M : zM} {r : Nat} : uX8_sickAll R 6 [x0, x1, x2] (.inr (.inr r) :: st) M ↔ zgetx fX8 127 r M (fun v => uX8_sickAll R 9 [x0, x1, x2] (v :: st) M) := zU_step dX8_sickAll_6 (Or.inl rfl)
theorem dX8_sickAll_9 : decode cX8_sickAll 9 = .ok (.if_icmp .ge 18, 3) := by decide +kernel
theorem rX8_sickAll_9 {R : zP} {x0 x1 x2 : Option zV} {st : List zV} {M : zM} {a b : Int} : uX8_sickAll R 9 [x0, x1, x2] (.inl b :: .inl a :: st) M ↔ ((zIR a ∧ zIR b) ∧ if b ≤ a then uX8_sickAll R 27 [x0, x1, x2] st M else uX8_sickAll R 12 [x0, x1, x2] st M) := Iff.trans (zU_step dX8_sickAll_9 (Or.inl rfl)) ⟨fun h => ⟨⟨h.1.1, h.1.2.1⟩, (zite (c := b ≤ a)).mpr h.2⟩, fun h => ⟨⟨h.1.1, h.1.2, by decide⟩, (zite (c := b ≤ a)).mp h.2⟩⟩
theorem dX8_sickAll_12 : decode cX8_sickAll 12 = .ok (.iload_n 1, 1) := by decide +kernel
theorem rX8_sickAll_12 {R : zP} {x0 x2 : Option zV} {st : List zV} {M : zM} {a : Int} : uX8_sickAll R 12 [x0, some (.inl a), x2] st M ↔ uX8_sickAll R 13 [x0, some (.inl a), x2] (.inl a :: st) M := zU_step dX8_sickAll_12 (Or.inl rfl)
theorem dX8_sickAll_13 : decode cX8_sickAll 13 = .ok (.aload_n 0, 1) := by decide +kernel
theorem rX8_sickAll_13 {R : zP} {x1 x2 : Option zV} {st : List zV} {M : zM} {a : Nat} : uX8_sickAll R 13 [some (.inr (.inr a)), x1, x2] st M ↔ uX8_sickAll R 14 [some (.inr (.inr a)), x1, x2] (.inr (.inr a) :: st) M := zU_step dX8_sickAll_13 (Or.inl rfl)
theorem dX8_sickAll_14 : decode cX8_sickAll 14 = .ok (.getfield 58, 3) := by decide +kernel
theorem rX8_sickAll_14 {R : zP} {x0 x1 x2 : Option zV} {st : List zV} {M : zM} {r : Nat} : uX8_sickAll R 14 [x0, x1, x2] (.inr (.inr r) :: st) M ↔ zgetx fX8 58 r M (fun v => uX8_sickAll R 17 [x0, x1, x2] (v :: st) M) := zU_step dX8_sickAll_14 (Or.inl rfl)
theorem dX8_sickAll_17 : decode cX8_sickAll 17 = .ok (.iload_n 2, 1) := by decide +kernel
theorem rX8_sickAll_17 {R : zP} {x0 x1 : Option zV} {st : List zV} {M : zM} {a : Int} : uX8_sickAll R 17 [x0, x1, some (.inl a)] st M ↔ uX8_sickAll R 18 [x0, x1, some (.inl a)] (.inl a :: st) M := zU_step dX8_sickAll_17 (Or.inl rfl)
theorem dX8_sickAll_18 : decode cX8_sickAll 18 = .ok (.iaload, 1) := by decide +kernel
theorem rX8_sickAll_18 {R : zP} {x0 x1 x2 : Option zV} {st : List zV} {M : zM} {i : Int} {r : Nat} : uX8_sickAll R 18 [x0, x1, x2] (.inl i :: .inr (.inr r) :: st) M ↔ zread fX8 0 r M i (fun v => uX8_sickAll R 19 [x0, x1, x2] (.inl v :: st) M) := zU_step dX8_sickAll_18 (Or.inl rfl)
theorem dX8_sickAll_19 : decode cX8_sickAll 19 = .ok (.iadd, 1) := by decide +kernel
theorem rX8_sickAll_19 {R : zP} {x0 x1 x2 : Option zV} {st : List zV} {M : zM} {a b : Int} : uX8_sickAll R 19 [x0, x1, x2] (.inl b :: .inl a :: st) M ↔ uX8_sickAll R 20 [x0, x1, x2] (.inl (a + b) :: st) M := zU_step dX8_sickAll_19 (Or.inl rfl)
theorem dX8_sickAll_20 : decode cX8_sickAll 20 = .ok (.istore_n 1, 1) := by decide +kernel
theorem rX8_sickAll_20 {R : zP} {x1 x2 : Option zV} {st : List zV} {M : zM} {a : Int} {y : Nat} : uX8_sickAll R 20 [some (.inr (.inr y)), x1, x2] (.inl a :: st) M ↔ uX8_sickAll R 21 [some (.inr (.inr y)), some (.inl a), x2] st M := Iff.trans (zU_step dX8_sickAll_20 (Or.inl rfl)) ⟨fun h => h.2, fun h => ⟨show 1 < 3 by decide, h⟩⟩
theorem rX8_sickAll_20z {R : zP} {x0 x1 x2 : Option zV} {st : List zV} {M : zM} {a : Int} : uX8_sickAll R 20 [x0, x1, x2] (.inl a :: st) M ↔ uX8_sickAll R 21 [zkeep x0, some (.inl a), x2] st M := Iff.trans (zU_step dX8_sickAll_20 (Or.inl rfl)) ⟨fun h => h.2, fun h => ⟨show 1 < 3 by decide, h⟩⟩
theorem dX8_sickAll_21 : decode cX8_sickAll 21 = .ok (.iinc 2 1, 3) := by decide +kernel
theorem rX8_sickAll_21 {R : zP} {x0 : Option zV} {st : List zV} {M : zM} {a : Int} {y : Int} : uX8_sickAll R 21 [x0, some (.inl y), some (.inl a)] st M ↔ uX8_sickAll R 24 [x0, some (.inl y), some (.inl (a + (1)))] st M := Iff.trans (zU_step dX8_sickAll_21 (Or.inl rfl)) ⟨fun h => h.2, fun h => ⟨show 2 < 3 by decide, h⟩⟩
theorem rX8_sickAll_21z {R : zP} {x0 x1 : Option zV} {st : List zV} {M : zM} {a : Int} : uX8_sickAll R 21 [x0, x1, some (.inl a)] st M ↔ uX8_sickAll R 24 [x0, zkeep x1, some (.inl (a + (1)))] st M := Iff.trans (zU_step dX8_sickAll_21 (Or.inl rfl)) ⟨fun h => h.2, fun h => ⟨show 2 < 3 by decide, h⟩⟩
theorem dX8_sickAll_24 : decode cX8_sickAll 24 = .ok (.goto (-20), 3) := by decide +kernel
theorem rX8_sickAll_24 {R : zP} {x0 x1 x2 : Option zV} {st : List zV} {M : zM} : uX8_sickAll R 24 [x0, x1, x2] st M ↔ uX8_sickAll R 4 [x0, x1, x2] st M := Iff.trans (zU_step dX8_sickAll_24 (Or.inl rfl)) ⟨fun h => h.2, fun h => ⟨by decide, h⟩⟩
theorem dX8_sickAll_27 : decode cX8_sickAll 27 = .ok (.iload_n 1, 1) := by decide +kernel
theorem rX8_sickAll_27 {R : zP} {x0 x2 : Option zV} {st : List zV} {M : zM} {a : Int} : uX8_sickAll R 27 [x0, some (.inl a), x2] st M ↔ uX8_sickAll R 28 [x0, some (.inl a), x2] (.inl a :: st) M := zU_step dX8_sickAll_27 (Or.inl rfl)
theorem dX8_sickAll_28 : decode cX8_sickAll 28 = .ok (.ireturn, 1) := by decide +kernel
theorem rX8_sickAll_28 {R : zP} {x0 x1 x2 : Option zV} {M : zM} {a : Int} : uX8_sickAll R 28 [x0, x1, x2] [.inl a] M ↔ R (some (.inl a)) M := Iff.trans (zU_step dX8_sickAll_28 (Or.inl rfl)) ⟨fun h => h.2.2, fun h => ⟨rfl, Or.inl rfl, h⟩⟩
theorem eX8_sickAll {R : zP} {M : zM} {a0 : Nat} : tX8_sickAll [.inr (.inr a0)] M R ↔ uX8_sickAll R 0 [some (.inr (.inr a0)), none, none] [] M := ⟨fun h => h.2, fun h => ⟨show 1 ≤ 3 by decide, h⟩⟩
def uX8_yearsOf (R : zP) : zK := zU fX8 vX8_yearsOf cX8_yearsOf R
theorem dX8_yearsOf_0 : decode cX8_yearsOf 0 = .ok (.aload_n 0, 1) := by decide +kernel
theorem rX8_yearsOf_0 {R : zP} {x1 x2 x3 x4 x5 : Option zV} {st : List zV} {M : zM} {a : Nat} : uX8_yearsOf R 0 [some (.inr (.inr a)), x1, x2, x3, x4, x5] st M ↔ uX8_yearsOf R 1 [some (.inr (.inr a)), x1, x2, x3, x4, x5] (.inr (.inr a) :: st) M := zU_step dX8_yearsOf_0 (Or.inl rfl)
theorem dX8_yearsOf_1 : decode cX8_yearsOf 1 = .ok (.invokevirtual 199, 3) := by decide +kernel
theorem rX8_yearsOf_1 {R : zP} {x0 x1 x2 x3 x4 x5 : Option zV} {st : List zV} {M : zM} {a0 : zV} : uX8_yearsOf R 1 [x0, x1, x2, x3, x4, x5] (a0 :: st) M ↔ (st.length ≤ 4 ∧ zcn (zv 8 tX8_asTold) [a0] M (fun M => uX8_yearsOf R 4 [x0, x1, x2, x3, x4, x5] st M)) := Iff.trans (zU_step dX8_yearsOf_1 (Or.inl rfl)) ⟨fun h => ⟨h.2.1, zcn_of h.2.2⟩, fun h => ⟨rfl, h.1, zcn_to h.2⟩⟩
theorem dX8_yearsOf_4 : decode cX8_yearsOf 4 = .ok (.iload_n 1, 1) := by decide +kernel
theorem rX8_yearsOf_4 {R : zP} {x0 x2 x3 x4 x5 : Option zV} {st : List zV} {M : zM} {a : Int} : uX8_yearsOf R 4 [x0, some (.inl a), x2, x3, x4, x5] st M ↔ uX8_yearsOf R 5 [x0, some (.inl a), x2, x3, x4, x5] (.inl a :: st) M := zU_step dX8_yearsOf_4 (Or.inl rfl)
theorem dX8_yearsOf_5 : decode cX8_yearsOf 5 = .ok (.istore 4, 2) := by decide +kernel
theorem rX8_yearsOf_5 {R : zP} {x0 x1 x2 x4 x5 : Option zV} {st : List zV} {M : zM} {a : Int} {y : Int} : uX8_yearsOf R 5 [x0, x1, x2, some (.inl y), x4, x5] (.inl a :: st) M ↔ uX8_yearsOf R 7 [x0, x1, x2, some (.inl y), some (.inl a), x5] st M := Iff.trans (zU_step dX8_yearsOf_5 (Or.inl rfl)) ⟨fun h => h.2, fun h => ⟨show 4 < 6 by decide, h⟩⟩
theorem rX8_yearsOf_5z {R : zP} {x0 x1 x2 x3 x4 x5 : Option zV} {st : List zV} {M : zM} {a : Int} : uX8_yearsOf R 5 [x0, x1, x2, x3, x4, x5] (.inl a :: st) M ↔ uX8_yearsOf R 7 [x0, x1, x2, zkeep x3, some (.inl a), x5] st M := Iff.trans (zU_step dX8_yearsOf_5 (Or.inl rfl)) ⟨fun h => h.2, fun h => ⟨show 4 < 6 by decide, h⟩⟩
theorem dX8_yearsOf_7 : decode cX8_yearsOf 7 = .ok (.aload_n 0, 1) := by decide +kernel
theorem rX8_yearsOf_7 {R : zP} {x1 x2 x3 x4 x5 : Option zV} {st : List zV} {M : zM} {a : Nat} : uX8_yearsOf R 7 [some (.inr (.inr a)), x1, x2, x3, x4, x5] st M ↔ uX8_yearsOf R 8 [some (.inr (.inr a)), x1, x2, x3, x4, x5] (.inr (.inr a) :: st) M := zU_step dX8_yearsOf_7 (Or.inl rfl)
theorem dX8_yearsOf_8 : decode cX8_yearsOf 8 = .ok (.aload_n 0, 1) := by decide +kernel
theorem rX8_yearsOf_8 {R : zP} {x1 x2 x3 x4 x5 : Option zV} {st : List zV} {M : zM} {a : Nat} : uX8_yearsOf R 8 [some (.inr (.inr a)), x1, x2, x3, x4, x5] st M ↔ uX8_yearsOf R 9 [some (.inr (.inr a)), x1, x2, x3, x4, x5] (.inr (.inr a) :: st) M := zU_step dX8_yearsOf_8 (Or.inl rfl)
theorem dX8_yearsOf_9 : decode cX8_yearsOf 9 = .ok (.getfield 127, 3) := by decide +kernel
theorem rX8_yearsOf_9 {R : zP} {x0 x1 x2 x3 x4 x5 : Option zV} {st : List zV} {M : zM} {r : Nat} : uX8_yearsOf R 9 [x0, x1, x2, x3, x4, x5] (.inr (.inr r) :: st) M ↔ zgetx fX8 127 r M (fun v => uX8_yearsOf R 12 [x0, x1, x2, x3, x4, x5] (v :: st) M) := zU_step dX8_yearsOf_9 (Or.inl rfl)
theorem dX8_yearsOf_12 : decode cX8_yearsOf 12 = .ok (.ifCond .eq 10, 3) := by decide +kernel
theorem rX8_yearsOf_12 {R : zP} {x0 x1 x2 x3 x4 x5 : Option zV} {st : List zV} {M : zM} {a : Int} : uX8_yearsOf R 12 [x0, x1, x2, x3, x4, x5] (.inl a :: st) M ↔ (zIR a ∧ if a = 0 then uX8_yearsOf R 22 [x0, x1, x2, x3, x4, x5] st M else uX8_yearsOf R 15 [x0, x1, x2, x3, x4, x5] st M) := Iff.trans (zU_step dX8_yearsOf_12 (Or.inl rfl)) ⟨fun h => ⟨h.1.1, (zite (c := a = 0)).mpr h.2⟩, fun h => ⟨⟨h.1, by decide⟩, (zite (c := a = 0)).mp h.2⟩⟩
theorem dX8_yearsOf_15 : decode cX8_yearsOf 15 = .ok (.aload_n 0, 1) := by decide +kernel
theorem rX8_yearsOf_15 {R : zP} {x1 x2 x3 x4 x5 : Option zV} {st : List zV} {M : zM} {a : Nat} : uX8_yearsOf R 15 [some (.inr (.inr a)), x1, x2, x3, x4, x5] st M ↔ uX8_yearsOf R 16 [some (.inr (.inr a)), x1, x2, x3, x4, x5] (.inr (.inr a) :: st) M := zU_step dX8_yearsOf_15 (Or.inl rfl)
theorem dX8_yearsOf_16 : decode cX8_yearsOf 16 = .ok (.getfield 131, 3) := by decide +kernel
theorem rX8_yearsOf_16 {R : zP} {x0 x1 x2 x3 x4 x5 : Option zV} {st : List zV} {M : zM} {r : Nat} : uX8_yearsOf R 16 [x0, x1, x2, x3, x4, x5] (.inr (.inr r) :: st) M ↔ zgetx fX8 131 r M (fun v => uX8_yearsOf R 19 [x0, x1, x2, x3, x4, x5] (v :: st) M) := zU_step dX8_yearsOf_16 (Or.inl rfl)
theorem dX8_yearsOf_19 : decode cX8_yearsOf 19 = .ok (.ifCond .ne 7, 3) := by decide +kernel
theorem rX8_yearsOf_19 {R : zP} {x0 x1 x2 x3 x4 x5 : Option zV} {st : List zV} {M : zM} {a : Int} : uX8_yearsOf R 19 [x0, x1, x2, x3, x4, x5] (.inl a :: st) M ↔ (zIR a ∧ if a ≠ 0 then uX8_yearsOf R 26 [x0, x1, x2, x3, x4, x5] st M else uX8_yearsOf R 22 [x0, x1, x2, x3, x4, x5] st M) := Iff.trans (zU_step dX8_yearsOf_19 (Or.inl rfl)) ⟨fun h => ⟨h.1.1, (zite (c := a ≠ 0)).mpr h.2⟩, fun h => ⟨⟨h.1, by decide⟩, (zite (c := a ≠ 0)).mp h.2⟩⟩
theorem dX8_yearsOf_22 : decode cX8_yearsOf 22 = .ok (.iconst 0, 1) := by decide +kernel
theorem rX8_yearsOf_22 {R : zP} {x0 x1 x2 x3 x4 x5 : Option zV} {st : List zV} {M : zM} : uX8_yearsOf R 22 [x0, x1, x2, x3, x4, x5] st M ↔ uX8_yearsOf R 23 [x0, x1, x2, x3, x4, x5] (.inl (0) :: st) M := zU_step dX8_yearsOf_22 (Or.inl rfl)
theorem dX8_yearsOf_23 : decode cX8_yearsOf 23 = .ok (.goto 4, 3) := by decide +kernel
theorem rX8_yearsOf_23 {R : zP} {x0 x1 x2 x3 x4 x5 : Option zV} {st : List zV} {M : zM} : uX8_yearsOf R 23 [x0, x1, x2, x3, x4, x5] st M ↔ uX8_yearsOf R 27 [x0, x1, x2, x3, x4, x5] st M := Iff.trans (zU_step dX8_yearsOf_23 (Or.inl rfl)) ⟨fun h => h.2, fun h => ⟨by decide, h⟩⟩
theorem dX8_yearsOf_26 : decode cX8_yearsOf 26 = .ok (.iload_n 2, 1) := by decide +kernel
theorem rX8_yearsOf_26 {R : zP} {x0 x1 x3 x4 x5 : Option zV} {st : List zV} {M : zM} {a : Int} : uX8_yearsOf R 26 [x0, x1, some (.inl a), x3, x4, x5] st M ↔ uX8_yearsOf R 27 [x0, x1, some (.inl a), x3, x4, x5] (.inl a :: st) M := zU_step dX8_yearsOf_26 (Or.inl rfl)
theorem dX8_yearsOf_27 : decode cX8_yearsOf 27 = .ok (.putfield 178, 3) := by decide +kernel
theorem rX8_yearsOf_27 {R : zP} {x0 x1 x2 x3 x4 x5 : Option zV} {st : List zV} {M : zM} {r : Nat} {v : zV} : uX8_yearsOf R 27 [x0, x1, x2, x3, x4, x5] (v :: .inr (.inr r) :: st) M ↔ zputx fX8 178 r M v (fun M => uX8_yearsOf R 30 [x0, x1, x2, x3, x4, x5] st M) := zU_step dX8_yearsOf_27 (Or.inl rfl)
theorem dX8_yearsOf_30 : decode cX8_yearsOf 30 = .ok (.iconst 0, 1) := by decide +kernel
theorem rX8_yearsOf_30 {R : zP} {x0 x1 x2 x3 x4 x5 : Option zV} {st : List zV} {M : zM} : uX8_yearsOf R 30 [x0, x1, x2, x3, x4, x5] st M ↔ uX8_yearsOf R 31 [x0, x1, x2, x3, x4, x5] (.inl (0) :: st) M := zU_step dX8_yearsOf_30 (Or.inl rfl)
theorem dX8_yearsOf_31 : decode cX8_yearsOf 31 = .ok (.istore 5, 2) := by decide +kernel
theorem rX8_yearsOf_31 {R : zP} {x0 x1 x2 x3 x5 : Option zV} {st : List zV} {M : zM} {a : Int} {y : Int} : uX8_yearsOf R 31 [x0, x1, x2, x3, some (.inl y), x5] (.inl a :: st) M ↔ uX8_yearsOf R 33 [x0, x1, x2, x3, some (.inl y), some (.inl a)] st M := Iff.trans (zU_step dX8_yearsOf_31 (Or.inl rfl)) ⟨fun h => h.2, fun h => ⟨show 5 < 6 by decide, h⟩⟩
theorem rX8_yearsOf_31z {R : zP} {x0 x1 x2 x3 x4 x5 : Option zV} {st : List zV} {M : zM} {a : Int} : uX8_yearsOf R 31 [x0, x1, x2, x3, x4, x5] (.inl a :: st) M ↔ uX8_yearsOf R 33 [x0, x1, x2, x3, zkeep x4, some (.inl a)] st M := Iff.trans (zU_step dX8_yearsOf_31 (Or.inl rfl)) ⟨fun h => h.2, fun h => ⟨show 5 < 6 by decide, h⟩⟩
theorem dX8_yearsOf_33 : decode cX8_yearsOf 33 = .ok (.iload 5, 2) := by decide +kernel
theorem rX8_yearsOf_33 {R : zP} {x0 x1 x2 x3 x4 : Option zV} {st : List zV} {M : zM} {a : Int} : uX8_yearsOf R 33 [x0, x1, x2, x3, x4, some (.inl a)] st M ↔ uX8_yearsOf R 35 [x0, x1, x2, x3, x4, some (.inl a)] (.inl a :: st) M := zU_step dX8_yearsOf_33 (Or.inl rfl)
theorem dX8_yearsOf_35 : decode cX8_yearsOf 35 = .ok (.aload_n 0, 1) := by decide +kernel
theorem rX8_yearsOf_35 {R : zP} {x1 x2 x3 x4 x5 : Option zV} {st : List zV} {M : zM} {a : Nat} : uX8_yearsOf R 35 [some (.inr (.inr a)), x1, x2, x3, x4, x5] st M ↔ uX8_yearsOf R 36 [some (.inr (.inr a)), x1, x2, x3, x4, x5] (.inr (.inr a) :: st) M := zU_step dX8_yearsOf_35 (Or.inl rfl)
theorem dX8_yearsOf_36 : decode cX8_yearsOf 36 = .ok (.getfield 178, 3) := by decide +kernel
theorem rX8_yearsOf_36 {R : zP} {x0 x1 x2 x3 x4 x5 : Option zV} {st : List zV} {M : zM} {r : Nat} : uX8_yearsOf R 36 [x0, x1, x2, x3, x4, x5] (.inr (.inr r) :: st) M ↔ zgetx fX8 178 r M (fun v => uX8_yearsOf R 39 [x0, x1, x2, x3, x4, x5] (v :: st) M) := zU_step dX8_yearsOf_36 (Or.inl rfl)
theorem dX8_yearsOf_39 : decode cX8_yearsOf 39 = .ok (.if_icmp .ge 94, 3) := by decide +kernel
theorem rX8_yearsOf_39 {R : zP} {x0 x1 x2 x3 x4 x5 : Option zV} {st : List zV} {M : zM} {a b : Int} : uX8_yearsOf R 39 [x0, x1, x2, x3, x4, x5] (.inl b :: .inl a :: st) M ↔ ((zIR a ∧ zIR b) ∧ if b ≤ a then uX8_yearsOf R 133 [x0, x1, x2, x3, x4, x5] st M else uX8_yearsOf R 42 [x0, x1, x2, x3, x4, x5] st M) := Iff.trans (zU_step dX8_yearsOf_39 (Or.inl rfl)) ⟨fun h => ⟨⟨h.1.1, h.1.2.1⟩, (zite (c := b ≤ a)).mpr h.2⟩, fun h => ⟨⟨h.1.1, h.1.2, by decide⟩, (zite (c := b ≤ a)).mp h.2⟩⟩
theorem dX8_yearsOf_42 : decode cX8_yearsOf 42 = .ok (.ldc_w 313, 3) := by decide +kernel
theorem rX8_yearsOf_42 {R : zP} {x0 x1 x2 x3 x4 x5 : Option zV} {st : List zV} {M : zM} : uX8_yearsOf R 42 [x0, x1, x2, x3, x4, x5] st M ↔ uX8_yearsOf R 45 [x0, x1, x2, x3, x4, x5] (.inl (1103515245) :: st) M := zU_step dX8_yearsOf_42 (Or.inl rfl)
theorem dX8_yearsOf_45 : decode cX8_yearsOf 45 = .ok (.iload 4, 2) := by decide +kernel
theorem rX8_yearsOf_45 {R : zP} {x0 x1 x2 x3 x5 : Option zV} {st : List zV} {M : zM} {a : Int} : uX8_yearsOf R 45 [x0, x1, x2, x3, some (.inl a), x5] st M ↔ uX8_yearsOf R 47 [x0, x1, x2, x3, some (.inl a), x5] (.inl a :: st) M := zU_step dX8_yearsOf_45 (Or.inl rfl)
theorem dX8_yearsOf_47 : decode cX8_yearsOf 47 = .ok (.imul, 1) := by decide +kernel
theorem rX8_yearsOf_47 {R : zP} {x0 x1 x2 x3 x4 x5 : Option zV} {st : List zV} {M : zM} {a b : Int} : uX8_yearsOf R 47 [x0, x1, x2, x3, x4, x5] (.inl b :: .inl a :: st) M ↔ uX8_yearsOf R 48 [x0, x1, x2, x3, x4, x5] (.inl (a * b) :: st) M := zU_step dX8_yearsOf_47 (Or.inl rfl)
theorem dX8_yearsOf_48 : decode cX8_yearsOf 48 = .ok (.sipush 12345, 3) := by decide +kernel
theorem rX8_yearsOf_48 {R : zP} {x0 x1 x2 x3 x4 x5 : Option zV} {st : List zV} {M : zM} : uX8_yearsOf R 48 [x0, x1, x2, x3, x4, x5] st M ↔ uX8_yearsOf R 51 [x0, x1, x2, x3, x4, x5] (.inl (12345) :: st) M := Iff.trans (zU_step dX8_yearsOf_48 (Or.inl rfl)) ⟨fun h => h.2, fun h => ⟨by decide, h⟩⟩
theorem dX8_yearsOf_51 : decode cX8_yearsOf 51 = .ok (.iadd, 1) := by decide +kernel
theorem rX8_yearsOf_51 {R : zP} {x0 x1 x2 x3 x4 x5 : Option zV} {st : List zV} {M : zM} {a b : Int} : uX8_yearsOf R 51 [x0, x1, x2, x3, x4, x5] (.inl b :: .inl a :: st) M ↔ uX8_yearsOf R 52 [x0, x1, x2, x3, x4, x5] (.inl (a + b) :: st) M := zU_step dX8_yearsOf_51 (Or.inl rfl)
theorem dX8_yearsOf_52 : decode cX8_yearsOf 52 = .ok (.istore 4, 2) := by decide +kernel
theorem rX8_yearsOf_52 {R : zP} {x0 x1 x2 x4 x5 : Option zV} {st : List zV} {M : zM} {a : Int} {y : Int} : uX8_yearsOf R 52 [x0, x1, x2, some (.inl y), x4, x5] (.inl a :: st) M ↔ uX8_yearsOf R 54 [x0, x1, x2, some (.inl y), some (.inl a), x5] st M := Iff.trans (zU_step dX8_yearsOf_52 (Or.inl rfl)) ⟨fun h => h.2, fun h => ⟨show 4 < 6 by decide, h⟩⟩
theorem rX8_yearsOf_52z {R : zP} {x0 x1 x2 x3 x4 x5 : Option zV} {st : List zV} {M : zM} {a : Int} : uX8_yearsOf R 52 [x0, x1, x2, x3, x4, x5] (.inl a :: st) M ↔ uX8_yearsOf R 54 [x0, x1, x2, zkeep x3, some (.inl a), x5] st M := Iff.trans (zU_step dX8_yearsOf_52 (Or.inl rfl)) ⟨fun h => h.2, fun h => ⟨show 4 < 6 by decide, h⟩⟩
theorem dX8_yearsOf_54 : decode cX8_yearsOf 54 = .ok (.aload_n 0, 1) := by decide +kernel
theorem rX8_yearsOf_54 {R : zP} {x1 x2 x3 x4 x5 : Option zV} {st : List zV} {M : zM} {a : Nat} : uX8_yearsOf R 54 [some (.inr (.inr a)), x1, x2, x3, x4, x5] st M ↔ uX8_yearsOf R 55 [some (.inr (.inr a)), x1, x2, x3, x4, x5] (.inr (.inr a) :: st) M := zU_step dX8_yearsOf_54 (Or.inl rfl)
theorem dX8_yearsOf_55 : decode cX8_yearsOf 55 = .ok (.getfield 37, 3) := by decide +kernel
theorem rX8_yearsOf_55 {R : zP} {x0 x1 x2 x3 x4 x5 : Option zV} {st : List zV} {M : zM} {r : Nat} : uX8_yearsOf R 55 [x0, x1, x2, x3, x4, x5] (.inr (.inr r) :: st) M ↔ zgetx fX8 37 r M (fun v => uX8_yearsOf R 58 [x0, x1, x2, x3, x4, x5] (v :: st) M) := zU_step dX8_yearsOf_55 (Or.inl rfl)
theorem dX8_yearsOf_58 : decode cX8_yearsOf 58 = .ok (.iload 5, 2) := by decide +kernel
theorem rX8_yearsOf_58 {R : zP} {x0 x1 x2 x3 x4 : Option zV} {st : List zV} {M : zM} {a : Int} : uX8_yearsOf R 58 [x0, x1, x2, x3, x4, some (.inl a)] st M ↔ uX8_yearsOf R 60 [x0, x1, x2, x3, x4, some (.inl a)] (.inl a :: st) M := zU_step dX8_yearsOf_58 (Or.inl rfl)
theorem dX8_yearsOf_60 : decode cX8_yearsOf 60 = .ok (.iload 4, 2) := by decide +kernel
theorem rX8_yearsOf_60 {R : zP} {x0 x1 x2 x3 x5 : Option zV} {st : List zV} {M : zM} {a : Int} : uX8_yearsOf R 60 [x0, x1, x2, x3, some (.inl a), x5] st M ↔ uX8_yearsOf R 62 [x0, x1, x2, x3, some (.inl a), x5] (.inl a :: st) M := zU_step dX8_yearsOf_60 (Or.inl rfl)
theorem dX8_yearsOf_62 : decode cX8_yearsOf 62 = .ok (.bipush 16, 2) := by decide +kernel
theorem rX8_yearsOf_62 {R : zP} {x0 x1 x2 x3 x4 x5 : Option zV} {st : List zV} {M : zM} : uX8_yearsOf R 62 [x0, x1, x2, x3, x4, x5] st M ↔ uX8_yearsOf R 64 [x0, x1, x2, x3, x4, x5] (.inl (16) :: st) M := Iff.trans (zU_step dX8_yearsOf_62 (Or.inl rfl)) ⟨fun h => h.2, fun h => ⟨by decide, h⟩⟩
theorem dX8_yearsOf_64 : decode cX8_yearsOf 64 = .ok (.iushr, 1) := by decide +kernel
theorem rX8_yearsOf_64 {R : zP} {x0 x1 x2 x3 x4 x5 : Option zV} {st : List zV} {M : zM} {a b : Int} : uX8_yearsOf R 64 [x0, x1, x2, x3, x4, x5] (.inl b :: .inl a :: st) M ↔ uX8_yearsOf R 65 [x0, x1, x2, x3, x4, x5] (.inl (zushr a b) :: st) M := zU_step dX8_yearsOf_64 (Or.inl rfl)
theorem dX8_yearsOf_65 : decode cX8_yearsOf 65 = .ok (.bipush 20, 2) := by decide +kernel
theorem rX8_yearsOf_65 {R : zP} {x0 x1 x2 x3 x4 x5 : Option zV} {st : List zV} {M : zM} : uX8_yearsOf R 65 [x0, x1, x2, x3, x4, x5] st M ↔ uX8_yearsOf R 67 [x0, x1, x2, x3, x4, x5] (.inl (20) :: st) M := Iff.trans (zU_step dX8_yearsOf_65 (Or.inl rfl)) ⟨fun h => h.2, fun h => ⟨by decide, h⟩⟩
theorem dX8_yearsOf_67 : decode cX8_yearsOf 67 = .ok (.irem, 1) := by decide +kernel
theorem rX8_yearsOf_67 {R : zP} {x0 x1 x2 x3 x4 x5 : Option zV} {st : List zV} {M : zM} {a b : Int} : uX8_yearsOf R 67 [x0, x1, x2, x3, x4, x5] (.inl b :: .inl a :: st) M ↔ ((zIR a ∧ zIR b ∧ b ≠ 0) ∧ uX8_yearsOf R 68 [x0, x1, x2, x3, x4, x5] (.inl (a.tmod b) :: st) M) := zU_step dX8_yearsOf_67 (Or.inl rfl)
theorem dX8_yearsOf_68 : decode cX8_yearsOf 68 = .ok (.iastore, 1) := by decide +kernel
theorem rX8_yearsOf_68 {R : zP} {x0 x1 x2 x3 x4 x5 : Option zV} {st : List zV} {M : zM} {i v : Int} {r : Nat} : uX8_yearsOf R 68 [x0, x1, x2, x3, x4, x5] (.inl v :: .inl i :: .inr (.inr r) :: st) M ↔ zwrite 0 r i (uX8_yearsOf R 69 [x0, x1, x2, x3, x4, x5] st (zup M r i v)) := zU_step dX8_yearsOf_68 (Or.inl rfl)
theorem dX8_yearsOf_69 : decode cX8_yearsOf 69 = .ok (.ldc_w 313, 3) := by decide +kernel
theorem rX8_yearsOf_69 {R : zP} {x0 x1 x2 x3 x4 x5 : Option zV} {st : List zV} {M : zM} : uX8_yearsOf R 69 [x0, x1, x2, x3, x4, x5] st M ↔ uX8_yearsOf R 72 [x0, x1, x2, x3, x4, x5] (.inl (1103515245) :: st) M := zU_step dX8_yearsOf_69 (Or.inl rfl)
theorem dX8_yearsOf_72 : decode cX8_yearsOf 72 = .ok (.iload 4, 2) := by decide +kernel
theorem rX8_yearsOf_72 {R : zP} {x0 x1 x2 x3 x5 : Option zV} {st : List zV} {M : zM} {a : Int} : uX8_yearsOf R 72 [x0, x1, x2, x3, some (.inl a), x5] st M ↔ uX8_yearsOf R 74 [x0, x1, x2, x3, some (.inl a), x5] (.inl a :: st) M := zU_step dX8_yearsOf_72 (Or.inl rfl)
theorem dX8_yearsOf_74 : decode cX8_yearsOf 74 = .ok (.imul, 1) := by decide +kernel
theorem rX8_yearsOf_74 {R : zP} {x0 x1 x2 x3 x4 x5 : Option zV} {st : List zV} {M : zM} {a b : Int} : uX8_yearsOf R 74 [x0, x1, x2, x3, x4, x5] (.inl b :: .inl a :: st) M ↔ uX8_yearsOf R 75 [x0, x1, x2, x3, x4, x5] (.inl (a * b) :: st) M := zU_step dX8_yearsOf_74 (Or.inl rfl)
theorem dX8_yearsOf_75 : decode cX8_yearsOf 75 = .ok (.sipush 12345, 3) := by decide +kernel
theorem rX8_yearsOf_75 {R : zP} {x0 x1 x2 x3 x4 x5 : Option zV} {st : List zV} {M : zM} : uX8_yearsOf R 75 [x0, x1, x2, x3, x4, x5] st M ↔ uX8_yearsOf R 78 [x0, x1, x2, x3, x4, x5] (.inl (12345) :: st) M := Iff.trans (zU_step dX8_yearsOf_75 (Or.inl rfl)) ⟨fun h => h.2, fun h => ⟨by decide, h⟩⟩
theorem dX8_yearsOf_78 : decode cX8_yearsOf 78 = .ok (.iadd, 1) := by decide +kernel
theorem rX8_yearsOf_78 {R : zP} {x0 x1 x2 x3 x4 x5 : Option zV} {st : List zV} {M : zM} {a b : Int} : uX8_yearsOf R 78 [x0, x1, x2, x3, x4, x5] (.inl b :: .inl a :: st) M ↔ uX8_yearsOf R 79 [x0, x1, x2, x3, x4, x5] (.inl (a + b) :: st) M := zU_step dX8_yearsOf_78 (Or.inl rfl)
theorem dX8_yearsOf_79 : decode cX8_yearsOf 79 = .ok (.istore 4, 2) := by decide +kernel
theorem rX8_yearsOf_79 {R : zP} {x0 x1 x2 x4 x5 : Option zV} {st : List zV} {M : zM} {a : Int} {y : Int} : uX8_yearsOf R 79 [x0, x1, x2, some (.inl y), x4, x5] (.inl a :: st) M ↔ uX8_yearsOf R 81 [x0, x1, x2, some (.inl y), some (.inl a), x5] st M := Iff.trans (zU_step dX8_yearsOf_79 (Or.inl rfl)) ⟨fun h => h.2, fun h => ⟨show 4 < 6 by decide, h⟩⟩
theorem rX8_yearsOf_79z {R : zP} {x0 x1 x2 x3 x4 x5 : Option zV} {st : List zV} {M : zM} {a : Int} : uX8_yearsOf R 79 [x0, x1, x2, x3, x4, x5] (.inl a :: st) M ↔ uX8_yearsOf R 81 [x0, x1, x2, zkeep x3, some (.inl a), x5] st M := Iff.trans (zU_step dX8_yearsOf_79 (Or.inl rfl)) ⟨fun h => h.2, fun h => ⟨show 4 < 6 by decide, h⟩⟩
theorem dX8_yearsOf_81 : decode cX8_yearsOf 81 = .ok (.aload_n 0, 1) := by decide +kernel
theorem rX8_yearsOf_81 {R : zP} {x1 x2 x3 x4 x5 : Option zV} {st : List zV} {M : zM} {a : Nat} : uX8_yearsOf R 81 [some (.inr (.inr a)), x1, x2, x3, x4, x5] st M ↔ uX8_yearsOf R 82 [some (.inr (.inr a)), x1, x2, x3, x4, x5] (.inr (.inr a) :: st) M := zU_step dX8_yearsOf_81 (Or.inl rfl)
theorem dX8_yearsOf_82 : decode cX8_yearsOf 82 = .ok (.getfield 40, 3) := by decide +kernel
theorem rX8_yearsOf_82 {R : zP} {x0 x1 x2 x3 x4 x5 : Option zV} {st : List zV} {M : zM} {r : Nat} : uX8_yearsOf R 82 [x0, x1, x2, x3, x4, x5] (.inr (.inr r) :: st) M ↔ zgetx fX8 40 r M (fun v => uX8_yearsOf R 85 [x0, x1, x2, x3, x4, x5] (v :: st) M) := zU_step dX8_yearsOf_82 (Or.inl rfl)
theorem dX8_yearsOf_85 : decode cX8_yearsOf 85 = .ok (.iload 5, 2) := by decide +kernel
theorem rX8_yearsOf_85 {R : zP} {x0 x1 x2 x3 x4 : Option zV} {st : List zV} {M : zM} {a : Int} : uX8_yearsOf R 85 [x0, x1, x2, x3, x4, some (.inl a)] st M ↔ uX8_yearsOf R 87 [x0, x1, x2, x3, x4, some (.inl a)] (.inl a :: st) M := zU_step dX8_yearsOf_85 (Or.inl rfl)
theorem dX8_yearsOf_87 : decode cX8_yearsOf 87 = .ok (.iload 4, 2) := by decide +kernel
theorem rX8_yearsOf_87 {R : zP} {x0 x1 x2 x3 x5 : Option zV} {st : List zV} {M : zM} {a : Int} : uX8_yearsOf R 87 [x0, x1, x2, x3, some (.inl a), x5] st M ↔ uX8_yearsOf R 89 [x0, x1, x2, x3, some (.inl a), x5] (.inl a :: st) M := zU_step dX8_yearsOf_87 (Or.inl rfl)
theorem dX8_yearsOf_89 : decode cX8_yearsOf 89 = .ok (.bipush 16, 2) := by decide +kernel
theorem rX8_yearsOf_89 {R : zP} {x0 x1 x2 x3 x4 x5 : Option zV} {st : List zV} {M : zM} : uX8_yearsOf R 89 [x0, x1, x2, x3, x4, x5] st M ↔ uX8_yearsOf R 91 [x0, x1, x2, x3, x4, x5] (.inl (16) :: st) M := Iff.trans (zU_step dX8_yearsOf_89 (Or.inl rfl)) ⟨fun h => h.2, fun h => ⟨by decide, h⟩⟩
theorem dX8_yearsOf_91 : decode cX8_yearsOf 91 = .ok (.iushr, 1) := by decide +kernel
theorem rX8_yearsOf_91 {R : zP} {x0 x1 x2 x3 x4 x5 : Option zV} {st : List zV} {M : zM} {a b : Int} : uX8_yearsOf R 91 [x0, x1, x2, x3, x4, x5] (.inl b :: .inl a :: st) M ↔ uX8_yearsOf R 92 [x0, x1, x2, x3, x4, x5] (.inl (zushr a b) :: st) M := zU_step dX8_yearsOf_91 (Or.inl rfl)
theorem dX8_yearsOf_92 : decode cX8_yearsOf 92 = .ok (.aload_n 0, 1) := by decide +kernel
theorem rX8_yearsOf_92 {R : zP} {x1 x2 x3 x4 x5 : Option zV} {st : List zV} {M : zM} {a : Nat} : uX8_yearsOf R 92 [some (.inr (.inr a)), x1, x2, x3, x4, x5] st M ↔ uX8_yearsOf R 93 [some (.inr (.inr a)), x1, x2, x3, x4, x5] (.inr (.inr a) :: st) M := zU_step dX8_yearsOf_92 (Or.inl rfl)
theorem dX8_yearsOf_93 : decode cX8_yearsOf 93 = .ok (.getfield 127, 3) := by decide +kernel
theorem rX8_yearsOf_93 {R : zP} {x0 x1 x2 x3 x4 x5 : Option zV} {st : List zV} {M : zM} {r : Nat} : uX8_yearsOf R 93 [x0, x1, x2, x3, x4, x5] (.inr (.inr r) :: st) M ↔ zgetx fX8 127 r M (fun v => uX8_yearsOf R 96 [x0, x1, x2, x3, x4, x5] (v :: st) M) := zU_step dX8_yearsOf_93 (Or.inl rfl)
theorem dX8_yearsOf_96 : decode cX8_yearsOf 96 = .ok (.irem, 1) := by decide +kernel
theorem rX8_yearsOf_96 {R : zP} {x0 x1 x2 x3 x4 x5 : Option zV} {st : List zV} {M : zM} {a b : Int} : uX8_yearsOf R 96 [x0, x1, x2, x3, x4, x5] (.inl b :: .inl a :: st) M ↔ ((zIR a ∧ zIR b ∧ b ≠ 0) ∧ uX8_yearsOf R 97 [x0, x1, x2, x3, x4, x5] (.inl (a.tmod b) :: st) M) := zU_step dX8_yearsOf_96 (Or.inl rfl)
theorem dX8_yearsOf_97 : decode cX8_yearsOf 97 = .ok (.iastore, 1) := by decide +kernel
theorem rX8_yearsOf_97 {R : zP} {x0 x1 x2 x3 x4 x5 : Option zV} {st : List zV} {M : zM} {i v : Int} {r : Nat} : uX8_yearsOf R 97 [x0, x1, x2, x3, x4, x5] (.inl v :: .inl i :: .inr (.inr r) :: st) M ↔ zwrite 0 r i (uX8_yearsOf R 98 [x0, x1, x2, x3, x4, x5] st (zup M r i v)) := zU_step dX8_yearsOf_97 (Or.inl rfl)
theorem dX8_yearsOf_98 : decode cX8_yearsOf 98 = .ok (.ldc_w 313, 3) := by decide +kernel
theorem rX8_yearsOf_98 {R : zP} {x0 x1 x2 x3 x4 x5 : Option zV} {st : List zV} {M : zM} : uX8_yearsOf R 98 [x0, x1, x2, x3, x4, x5] st M ↔ uX8_yearsOf R 101 [x0, x1, x2, x3, x4, x5] (.inl (1103515245) :: st) M := zU_step dX8_yearsOf_98 (Or.inl rfl)
theorem dX8_yearsOf_101 : decode cX8_yearsOf 101 = .ok (.iload 4, 2) := by decide +kernel
theorem rX8_yearsOf_101 {R : zP} {x0 x1 x2 x3 x5 : Option zV} {st : List zV} {M : zM} {a : Int} : uX8_yearsOf R 101 [x0, x1, x2, x3, some (.inl a), x5] st M ↔ uX8_yearsOf R 103 [x0, x1, x2, x3, some (.inl a), x5] (.inl a :: st) M := zU_step dX8_yearsOf_101 (Or.inl rfl)
theorem dX8_yearsOf_103 : decode cX8_yearsOf 103 = .ok (.imul, 1) := by decide +kernel
theorem rX8_yearsOf_103 {R : zP} {x0 x1 x2 x3 x4 x5 : Option zV} {st : List zV} {M : zM} {a b : Int} : uX8_yearsOf R 103 [x0, x1, x2, x3, x4, x5] (.inl b :: .inl a :: st) M ↔ uX8_yearsOf R 104 [x0, x1, x2, x3, x4, x5] (.inl (a * b) :: st) M := zU_step dX8_yearsOf_103 (Or.inl rfl)
theorem dX8_yearsOf_104 : decode cX8_yearsOf 104 = .ok (.sipush 12345, 3) := by decide +kernel
theorem rX8_yearsOf_104 {R : zP} {x0 x1 x2 x3 x4 x5 : Option zV} {st : List zV} {M : zM} : uX8_yearsOf R 104 [x0, x1, x2, x3, x4, x5] st M ↔ uX8_yearsOf R 107 [x0, x1, x2, x3, x4, x5] (.inl (12345) :: st) M := Iff.trans (zU_step dX8_yearsOf_104 (Or.inl rfl)) ⟨fun h => h.2, fun h => ⟨by decide, h⟩⟩
theorem dX8_yearsOf_107 : decode cX8_yearsOf 107 = .ok (.iadd, 1) := by decide +kernel
theorem rX8_yearsOf_107 {R : zP} {x0 x1 x2 x3 x4 x5 : Option zV} {st : List zV} {M : zM} {a b : Int} : uX8_yearsOf R 107 [x0, x1, x2, x3, x4, x5] (.inl b :: .inl a :: st) M ↔ uX8_yearsOf R 108 [x0, x1, x2, x3, x4, x5] (.inl (a + b) :: st) M := zU_step dX8_yearsOf_107 (Or.inl rfl)
theorem dX8_yearsOf_108 : decode cX8_yearsOf 108 = .ok (.istore 4, 2) := by decide +kernel
theorem rX8_yearsOf_108 {R : zP} {x0 x1 x2 x4 x5 : Option zV} {st : List zV} {M : zM} {a : Int} {y : Int} : uX8_yearsOf R 108 [x0, x1, x2, some (.inl y), x4, x5] (.inl a :: st) M ↔ uX8_yearsOf R 110 [x0, x1, x2, some (.inl y), some (.inl a), x5] st M := Iff.trans (zU_step dX8_yearsOf_108 (Or.inl rfl)) ⟨fun h => h.2, fun h => ⟨show 4 < 6 by decide, h⟩⟩
theorem rX8_yearsOf_108z {R : zP} {x0 x1 x2 x3 x4 x5 : Option zV} {st : List zV} {M : zM} {a : Int} : uX8_yearsOf R 108 [x0, x1, x2, x3, x4, x5] (.inl a :: st) M ↔ uX8_yearsOf R 110 [x0, x1, x2, zkeep x3, some (.inl a), x5] st M := Iff.trans (zU_step dX8_yearsOf_108 (Or.inl rfl)) ⟨fun h => h.2, fun h => ⟨show 4 < 6 by decide, h⟩⟩
theorem dX8_yearsOf_110 : decode cX8_yearsOf 110 = .ok (.aload_n 0, 1) := by decide +kernel
theorem rX8_yearsOf_110 {R : zP} {x1 x2 x3 x4 x5 : Option zV} {st : List zV} {M : zM} {a : Nat} : uX8_yearsOf R 110 [some (.inr (.inr a)), x1, x2, x3, x4, x5] st M ↔ uX8_yearsOf R 111 [some (.inr (.inr a)), x1, x2, x3, x4, x5] (.inr (.inr a) :: st) M := zU_step dX8_yearsOf_110 (Or.inl rfl)
theorem dX8_yearsOf_111 : decode cX8_yearsOf 111 = .ok (.getfield 43, 3) := by decide +kernel
theorem rX8_yearsOf_111 {R : zP} {x0 x1 x2 x3 x4 x5 : Option zV} {st : List zV} {M : zM} {r : Nat} : uX8_yearsOf R 111 [x0, x1, x2, x3, x4, x5] (.inr (.inr r) :: st) M ↔ zgetx fX8 43 r M (fun v => uX8_yearsOf R 114 [x0, x1, x2, x3, x4, x5] (v :: st) M) := zU_step dX8_yearsOf_111 (Or.inl rfl)
theorem dX8_yearsOf_114 : decode cX8_yearsOf 114 = .ok (.iload 5, 2) := by decide +kernel
theorem rX8_yearsOf_114 {R : zP} {x0 x1 x2 x3 x4 : Option zV} {st : List zV} {M : zM} {a : Int} : uX8_yearsOf R 114 [x0, x1, x2, x3, x4, some (.inl a)] st M ↔ uX8_yearsOf R 116 [x0, x1, x2, x3, x4, some (.inl a)] (.inl a :: st) M := zU_step dX8_yearsOf_114 (Or.inl rfl)
theorem dX8_yearsOf_116 : decode cX8_yearsOf 116 = .ok (.iload 4, 2) := by decide +kernel
theorem rX8_yearsOf_116 {R : zP} {x0 x1 x2 x3 x5 : Option zV} {st : List zV} {M : zM} {a : Int} : uX8_yearsOf R 116 [x0, x1, x2, x3, some (.inl a), x5] st M ↔ uX8_yearsOf R 118 [x0, x1, x2, x3, some (.inl a), x5] (.inl a :: st) M := zU_step dX8_yearsOf_116 (Or.inl rfl)
theorem dX8_yearsOf_118 : decode cX8_yearsOf 118 = .ok (.bipush 16, 2) := by decide +kernel
theorem rX8_yearsOf_118 {R : zP} {x0 x1 x2 x3 x4 x5 : Option zV} {st : List zV} {M : zM} : uX8_yearsOf R 118 [x0, x1, x2, x3, x4, x5] st M ↔ uX8_yearsOf R 120 [x0, x1, x2, x3, x4, x5] (.inl (16) :: st) M := Iff.trans (zU_step dX8_yearsOf_118 (Or.inl rfl)) ⟨fun h => h.2, fun h => ⟨by decide, h⟩⟩
theorem dX8_yearsOf_120 : decode cX8_yearsOf 120 = .ok (.iushr, 1) := by decide +kernel
theorem rX8_yearsOf_120 {R : zP} {x0 x1 x2 x3 x4 x5 : Option zV} {st : List zV} {M : zM} {a b : Int} : uX8_yearsOf R 120 [x0, x1, x2, x3, x4, x5] (.inl b :: .inl a :: st) M ↔ uX8_yearsOf R 121 [x0, x1, x2, x3, x4, x5] (.inl (zushr a b) :: st) M := zU_step dX8_yearsOf_120 (Or.inl rfl)
theorem dX8_yearsOf_121 : decode cX8_yearsOf 121 = .ok (.aload_n 0, 1) := by decide +kernel
theorem rX8_yearsOf_121 {R : zP} {x1 x2 x3 x4 x5 : Option zV} {st : List zV} {M : zM} {a : Nat} : uX8_yearsOf R 121 [some (.inr (.inr a)), x1, x2, x3, x4, x5] st M ↔ uX8_yearsOf R 122 [some (.inr (.inr a)), x1, x2, x3, x4, x5] (.inr (.inr a) :: st) M := zU_step dX8_yearsOf_121 (Or.inl rfl)
theorem dX8_yearsOf_122 : decode cX8_yearsOf 122 = .ok (.getfield 131, 3) := by decide +kernel
theorem rX8_yearsOf_122 {R : zP} {x0 x1 x2 x3 x4 x5 : Option zV} {st : List zV} {M : zM} {r : Nat} : uX8_yearsOf R 122 [x0, x1, x2, x3, x4, x5] (.inr (.inr r) :: st) M ↔ zgetx fX8 131 r M (fun v => uX8_yearsOf R 125 [x0, x1, x2, x3, x4, x5] (v :: st) M) := zU_step dX8_yearsOf_122 (Or.inl rfl)
theorem dX8_yearsOf_125 : decode cX8_yearsOf 125 = .ok (.irem, 1) := by decide +kernel
theorem rX8_yearsOf_125 {R : zP} {x0 x1 x2 x3 x4 x5 : Option zV} {st : List zV} {M : zM} {a b : Int} : uX8_yearsOf R 125 [x0, x1, x2, x3, x4, x5] (.inl b :: .inl a :: st) M ↔ ((zIR a ∧ zIR b ∧ b ≠ 0) ∧ uX8_yearsOf R 126 [x0, x1, x2, x3, x4, x5] (.inl (a.tmod b) :: st) M) := zU_step dX8_yearsOf_125 (Or.inl rfl)
theorem dX8_yearsOf_126 : decode cX8_yearsOf 126 = .ok (.iastore, 1) := by decide +kernel
theorem rX8_yearsOf_126 {R : zP} {x0 x1 x2 x3 x4 x5 : Option zV} {st : List zV} {M : zM} {i v : Int} {r : Nat} : uX8_yearsOf R 126 [x0, x1, x2, x3, x4, x5] (.inl v :: .inl i :: .inr (.inr r) :: st) M ↔ zwrite 0 r i (uX8_yearsOf R 127 [x0, x1, x2, x3, x4, x5] st (zup M r i v)) := zU_step dX8_yearsOf_126 (Or.inl rfl)
theorem dX8_yearsOf_127 : decode cX8_yearsOf 127 = .ok (.iinc 5 1, 3) := by decide +kernel
theorem rX8_yearsOf_127 {R : zP} {x0 x1 x2 x3 : Option zV} {st : List zV} {M : zM} {a : Int} {y : Int} : uX8_yearsOf R 127 [x0, x1, x2, x3, some (.inl y), some (.inl a)] st M ↔ uX8_yearsOf R 130 [x0, x1, x2, x3, some (.inl y), some (.inl (a + (1)))] st M := Iff.trans (zU_step dX8_yearsOf_127 (Or.inl rfl)) ⟨fun h => h.2, fun h => ⟨show 5 < 6 by decide, h⟩⟩
theorem rX8_yearsOf_127z {R : zP} {x0 x1 x2 x3 x4 : Option zV} {st : List zV} {M : zM} {a : Int} : uX8_yearsOf R 127 [x0, x1, x2, x3, x4, some (.inl a)] st M ↔ uX8_yearsOf R 130 [x0, x1, x2, x3, zkeep x4, some (.inl (a + (1)))] st M := Iff.trans (zU_step dX8_yearsOf_127 (Or.inl rfl)) ⟨fun h => h.2, fun h => ⟨show 5 < 6 by decide, h⟩⟩
theorem dX8_yearsOf_130 : decode cX8_yearsOf 130 = .ok (.goto (-97), 3) := by decide +kernel
theorem rX8_yearsOf_130 {R : zP} {x0 x1 x2 x3 x4 x5 : Option zV} {st : List zV} {M : zM} : uX8_yearsOf R 130 [x0, x1, x2, x3, x4, x5] st M ↔ uX8_yearsOf R 33 [x0, x1, x2, x3, x4, x5] st M := Iff.trans (zU_step dX8_yearsOf_130 (Or.inl rfl)) ⟨fun h => h.2, fun h => ⟨by decide, h⟩⟩
theorem dX8_yearsOf_133 : decode cX8_yearsOf 133 = .ok (.aload_n 0, 1) := by decide +kernel
theorem rX8_yearsOf_133 {R : zP} {x1 x2 x3 x4 x5 : Option zV} {st : List zV} {M : zM} {a : Nat} : uX8_yearsOf R 133 [some (.inr (.inr a)), x1, x2, x3, x4, x5] st M ↔ uX8_yearsOf R 134 [some (.inr (.inr a)), x1, x2, x3, x4, x5] (.inr (.inr a) :: st) M := zU_step dX8_yearsOf_133 (Or.inl rfl)
theorem dX8_yearsOf_134 : decode cX8_yearsOf 134 = .ok (.invokevirtual 202, 3) := by decide +kernel
theorem rX8_yearsOf_134 {R : zP} {x0 x1 x2 x3 x4 x5 : Option zV} {st : List zV} {M : zM} {a0 : zV} : uX8_yearsOf R 134 [x0, x1, x2, x3, x4, x5] (a0 :: st) M ↔ (st.length ≤ 4 ∧ zcn (zv 8 tX8_runs) [a0] M (fun M => uX8_yearsOf R 137 [x0, x1, x2, x3, x4, x5] st M)) := Iff.trans (zU_step dX8_yearsOf_134 (Or.inl rfl)) ⟨fun h => ⟨h.2.1, zcn_of h.2.2⟩, fun h => ⟨rfl, h.1, zcn_to h.2⟩⟩
theorem dX8_yearsOf_137 : decode cX8_yearsOf 137 = .ok (.iload_n 3, 1) := by decide +kernel
theorem rX8_yearsOf_137 {R : zP} {x0 x1 x2 x4 x5 : Option zV} {st : List zV} {M : zM} {a : Int} : uX8_yearsOf R 137 [x0, x1, x2, some (.inl a), x4, x5] st M ↔ uX8_yearsOf R 138 [x0, x1, x2, some (.inl a), x4, x5] (.inl a :: st) M := zU_step dX8_yearsOf_137 (Or.inl rfl)
theorem dX8_yearsOf_138 : decode cX8_yearsOf 138 = .ok (.ifCond .ne 14, 3) := by decide +kernel
theorem rX8_yearsOf_138 {R : zP} {x0 x1 x2 x3 x4 x5 : Option zV} {st : List zV} {M : zM} {a : Int} : uX8_yearsOf R 138 [x0, x1, x2, x3, x4, x5] (.inl a :: st) M ↔ (zIR a ∧ if a ≠ 0 then uX8_yearsOf R 152 [x0, x1, x2, x3, x4, x5] st M else uX8_yearsOf R 141 [x0, x1, x2, x3, x4, x5] st M) := Iff.trans (zU_step dX8_yearsOf_138 (Or.inl rfl)) ⟨fun h => ⟨h.1.1, (zite (c := a ≠ 0)).mpr h.2⟩, fun h => ⟨⟨h.1, by decide⟩, (zite (c := a ≠ 0)).mp h.2⟩⟩
theorem dX8_yearsOf_141 : decode cX8_yearsOf 141 = .ok (.aload_n 0, 1) := by decide +kernel
theorem rX8_yearsOf_141 {R : zP} {x1 x2 x3 x4 x5 : Option zV} {st : List zV} {M : zM} {a : Nat} : uX8_yearsOf R 141 [some (.inr (.inr a)), x1, x2, x3, x4, x5] st M ↔ uX8_yearsOf R 142 [some (.inr (.inr a)), x1, x2, x3, x4, x5] (.inr (.inr a) :: st) M := zU_step dX8_yearsOf_141 (Or.inl rfl)
theorem dX8_yearsOf_142 : decode cX8_yearsOf 142 = .ok (.aload_n 0, 1) := by decide +kernel
theorem rX8_yearsOf_142 {R : zP} {x1 x2 x3 x4 x5 : Option zV} {st : List zV} {M : zM} {a : Nat} : uX8_yearsOf R 142 [some (.inr (.inr a)), x1, x2, x3, x4, x5] st M ↔ uX8_yearsOf R 143 [some (.inr (.inr a)), x1, x2, x3, x4, x5] (.inr (.inr a) :: st) M := zU_step dX8_yearsOf_142 (Or.inl rfl)
theorem dX8_yearsOf_143 : decode cX8_yearsOf 143 = .ok (.invokevirtual 239, 3) := by decide +kernel
theorem rX8_yearsOf_143 {R : zP} {x0 x1 x2 x3 x4 x5 : Option zV} {st : List zV} {M : zM} {a0 : zV} : uX8_yearsOf R 143 [x0, x1, x2, x3, x4, x5] (a0 :: st) M ↔ (st.length ≤ 4 ∧ zcv (zv 8 tX8_weanedNow) [a0] M (fun v M => uX8_yearsOf R 146 [x0, x1, x2, x3, x4, x5] (v :: st) M)) := Iff.trans (zU_step dX8_yearsOf_143 (Or.inl rfl)) ⟨fun h => ⟨h.2.1, zcv_of h.2.2⟩, fun h => ⟨rfl, h.1, zcv_to h.2⟩⟩
theorem dX8_yearsOf_146 : decode cX8_yearsOf 146 = .ok (.invokevirtual 314, 3) := by decide +kernel
theorem rX8_yearsOf_146 {R : zP} {x0 x1 x2 x3 x4 x5 : Option zV} {st : List zV} {M : zM} {a0 a1 : zV} : uX8_yearsOf R 146 [x0, x1, x2, x3, x4, x5] (a1 :: a0 :: st) M ↔ (st.length ≤ 4 ∧ zcv (zv 8 tX8_ones) [a0, a1] M (fun v M => uX8_yearsOf R 149 [x0, x1, x2, x3, x4, x5] (v :: st) M)) := Iff.trans (zU_step dX8_yearsOf_146 (Or.inl rfl)) ⟨fun h => ⟨h.2.1, zcv_of h.2.2⟩, fun h => ⟨rfl, h.1, zcv_to h.2⟩⟩
theorem dX8_yearsOf_149 : decode cX8_yearsOf 149 = .ok (.goto 7, 3) := by decide +kernel
theorem rX8_yearsOf_149 {R : zP} {x0 x1 x2 x3 x4 x5 : Option zV} {st : List zV} {M : zM} : uX8_yearsOf R 149 [x0, x1, x2, x3, x4, x5] st M ↔ uX8_yearsOf R 156 [x0, x1, x2, x3, x4, x5] st M := Iff.trans (zU_step dX8_yearsOf_149 (Or.inl rfl)) ⟨fun h => h.2, fun h => ⟨by decide, h⟩⟩
theorem dX8_yearsOf_152 : decode cX8_yearsOf 152 = .ok (.aload_n 0, 1) := by decide +kernel
theorem rX8_yearsOf_152 {R : zP} {x1 x2 x3 x4 x5 : Option zV} {st : List zV} {M : zM} {a : Nat} : uX8_yearsOf R 152 [some (.inr (.inr a)), x1, x2, x3, x4, x5] st M ↔ uX8_yearsOf R 153 [some (.inr (.inr a)), x1, x2, x3, x4, x5] (.inr (.inr a) :: st) M := zU_step dX8_yearsOf_152 (Or.inl rfl)
theorem dX8_yearsOf_153 : decode cX8_yearsOf 153 = .ok (.invokevirtual 317, 3) := by decide +kernel
theorem rX8_yearsOf_153 {R : zP} {x0 x1 x2 x3 x4 x5 : Option zV} {st : List zV} {M : zM} {a0 : zV} : uX8_yearsOf R 153 [x0, x1, x2, x3, x4, x5] (a0 :: st) M ↔ (st.length ≤ 4 ∧ zcv (zv 8 tX8_sickAll) [a0] M (fun v M => uX8_yearsOf R 156 [x0, x1, x2, x3, x4, x5] (v :: st) M)) := Iff.trans (zU_step dX8_yearsOf_153 (Or.inl rfl)) ⟨fun h => ⟨h.2.1, zcv_of h.2.2⟩, fun h => ⟨rfl, h.1, zcv_to h.2⟩⟩
theorem dX8_yearsOf_156 : decode cX8_yearsOf 156 = .ok (.ireturn, 1) := by decide +kernel
theorem rX8_yearsOf_156 {R : zP} {x0 x1 x2 x3 x4 x5 : Option zV} {M : zM} {a : Int} : uX8_yearsOf R 156 [x0, x1, x2, x3, x4, x5] [.inl a] M ↔ R (some (.inl a)) M := Iff.trans (zU_step dX8_yearsOf_156 (Or.inl rfl)) ⟨fun h => h.2.2, fun h => ⟨rfl, Or.inl rfl, h⟩⟩
theorem eX8_yearsOf {R : zP} {M : zM} {a0 : Nat} {p0 : Int} {p1 : Int} {p2 : Int} : tX8_yearsOf [.inr (.inr a0), .inl p0, .inl p1, .inl p2] M R ↔ uX8_yearsOf R 0 [some (.inr (.inr a0)), some (.inl p0), some (.inl p1), some (.inl p2), none, none] [] M := ⟨fun h => h.2, fun h => ⟨show 4 ≤ 6 by decide, h⟩⟩
def uX8_years (R : zP) : zK := zU fX8 vX8_years cX8_years R
theorem dX8_years_0 : decode cX8_years 0 = .ok (.iload_n 2, 1) := by decide +kernel
theorem rX8_years_0 {R : zP} {x0 x1 x3 : Option zV} {st : List zV} {M : zM} {a : Int} : uX8_years R 0 [x0, x1, some (.inl a), x3] st M ↔ uX8_years R 1 [x0, x1, some (.inl a), x3] (.inl a :: st) M := zU_step dX8_years_0 (Or.inl rfl)
theorem dX8_years_1 : decode cX8_years 1 = .ok (.iconst 0, 1) := by decide +kernel
theorem rX8_years_1 {R : zP} {x0 x1 x2 x3 : Option zV} {st : List zV} {M : zM} : uX8_years R 1 [x0, x1, x2, x3] st M ↔ uX8_years R 2 [x0, x1, x2, x3] (.inl (0) :: st) M := zU_step dX8_years_1 (Or.inl rfl)
theorem dX8_years_2 : decode cX8_years 2 = .ok (.bipush 8, 2) := by decide +kernel
theorem rX8_years_2 {R : zP} {x0 x1 x2 x3 : Option zV} {st : List zV} {M : zM} : uX8_years R 2 [x0, x1, x2, x3] st M ↔ uX8_years R 4 [x0, x1, x2, x3] (.inl (8) :: st) M := Iff.trans (zU_step dX8_years_2 (Or.inl rfl)) ⟨fun h => h.2, fun h => ⟨by decide, h⟩⟩
theorem dX8_years_4 : decode cX8_years 4 = .ok (.invokestatic 112, 3) := by decide +kernel
theorem rX8_years_4 {R : zP} {x0 x1 x2 x3 : Option zV} {st : List zV} {M : zM} {a0 a1 a2 : zV} : uX8_years R 4 [x0, x1, x2, x3] (a2 :: a1 :: a0 :: st) M ↔ (st.length ≤ 4 ∧ zcv tX8_in [a0, a1, a2] M (fun v M => uX8_years R 7 [x0, x1, x2, x3] (v :: st) M)) := Iff.trans (zU_step dX8_years_4 (Or.inl rfl)) ⟨fun h => ⟨h.2.1, zcv_of h.2.2⟩, fun h => ⟨rfl, h.1, zcv_to h.2⟩⟩
theorem dX8_years_7 : decode cX8_years 7 = .ok (.ifCond .eq 22, 3) := by decide +kernel
theorem rX8_years_7 {R : zP} {x0 x1 x2 x3 : Option zV} {st : List zV} {M : zM} {a : Int} : uX8_years R 7 [x0, x1, x2, x3] (.inl a :: st) M ↔ (zIR a ∧ if a = 0 then uX8_years R 29 [x0, x1, x2, x3] st M else uX8_years R 10 [x0, x1, x2, x3] st M) := Iff.trans (zU_step dX8_years_7 (Or.inl rfl)) ⟨fun h => ⟨h.1.1, (zite (c := a = 0)).mpr h.2⟩, fun h => ⟨⟨h.1, by decide⟩, (zite (c := a = 0)).mp h.2⟩⟩
theorem dX8_years_10 : decode cX8_years 10 = .ok (.iload_n 3, 1) := by decide +kernel
theorem rX8_years_10 {R : zP} {x0 x1 x2 : Option zV} {st : List zV} {M : zM} {a : Int} : uX8_years R 10 [x0, x1, x2, some (.inl a)] st M ↔ uX8_years R 11 [x0, x1, x2, some (.inl a)] (.inl a :: st) M := zU_step dX8_years_10 (Or.inl rfl)
theorem dX8_years_11 : decode cX8_years 11 = .ok (.iconst 0, 1) := by decide +kernel
theorem rX8_years_11 {R : zP} {x0 x1 x2 x3 : Option zV} {st : List zV} {M : zM} : uX8_years R 11 [x0, x1, x2, x3] st M ↔ uX8_years R 12 [x0, x1, x2, x3] (.inl (0) :: st) M := zU_step dX8_years_11 (Or.inl rfl)
theorem dX8_years_12 : decode cX8_years 12 = .ok (.iconst 1, 1) := by decide +kernel
theorem rX8_years_12 {R : zP} {x0 x1 x2 x3 : Option zV} {st : List zV} {M : zM} : uX8_years R 12 [x0, x1, x2, x3] st M ↔ uX8_years R 13 [x0, x1, x2, x3] (.inl (1) :: st) M := zU_step dX8_years_12 (Or.inl rfl)
theorem dX8_years_13 : decode cX8_years 13 = .ok (.invokestatic 112, 3) := by decide +kernel
theorem rX8_years_13 {R : zP} {x0 x1 x2 x3 : Option zV} {st : List zV} {M : zM} {a0 a1 a2 : zV} : uX8_years R 13 [x0, x1, x2, x3] (a2 :: a1 :: a0 :: st) M ↔ (st.length ≤ 4 ∧ zcv tX8_in [a0, a1, a2] M (fun v M => uX8_years R 16 [x0, x1, x2, x3] (v :: st) M)) := Iff.trans (zU_step dX8_years_13 (Or.inl rfl)) ⟨fun h => ⟨h.2.1, zcv_of h.2.2⟩, fun h => ⟨rfl, h.1, zcv_to h.2⟩⟩
theorem dX8_years_16 : decode cX8_years 16 = .ok (.ifCond .eq 13, 3) := by decide +kernel
theorem rX8_years_16 {R : zP} {x0 x1 x2 x3 : Option zV} {st : List zV} {M : zM} {a : Int} : uX8_years R 16 [x0, x1, x2, x3] (.inl a :: st) M ↔ (zIR a ∧ if a = 0 then uX8_years R 29 [x0, x1, x2, x3] st M else uX8_years R 19 [x0, x1, x2, x3] st M) := Iff.trans (zU_step dX8_years_16 (Or.inl rfl)) ⟨fun h => ⟨h.1.1, (zite (c := a = 0)).mpr h.2⟩, fun h => ⟨⟨h.1, by decide⟩, (zite (c := a = 0)).mp h.2⟩⟩
theorem dX8_years_19 : decode cX8_years 19 = .ok (.aload_n 0, 1) := by decide +kernel
theorem rX8_years_19 {R : zP} {x1 x2 x3 : Option zV} {st : List zV} {M : zM} {a : Nat} : uX8_years R 19 [some (.inr (.inr a)), x1, x2, x3] st M ↔ uX8_years R 20 [some (.inr (.inr a)), x1, x2, x3] (.inr (.inr a) :: st) M := zU_step dX8_years_19 (Or.inl rfl)
theorem dX8_years_20 : decode cX8_years 20 = .ok (.iload_n 1, 1) := by decide +kernel
theorem rX8_years_20 {R : zP} {x0 x2 x3 : Option zV} {st : List zV} {M : zM} {a : Int} : uX8_years R 20 [x0, some (.inl a), x2, x3] st M ↔ uX8_years R 21 [x0, some (.inl a), x2, x3] (.inl a :: st) M := zU_step dX8_years_20 (Or.inl rfl)
theorem dX8_years_21 : decode cX8_years 21 = .ok (.iload_n 2, 1) := by decide +kernel
theorem rX8_years_21 {R : zP} {x0 x1 x3 : Option zV} {st : List zV} {M : zM} {a : Int} : uX8_years R 21 [x0, x1, some (.inl a), x3] st M ↔ uX8_years R 22 [x0, x1, some (.inl a), x3] (.inl a :: st) M := zU_step dX8_years_21 (Or.inl rfl)
theorem dX8_years_22 : decode cX8_years 22 = .ok (.iload_n 3, 1) := by decide +kernel
theorem rX8_years_22 {R : zP} {x0 x1 x2 : Option zV} {st : List zV} {M : zM} {a : Int} : uX8_years R 22 [x0, x1, x2, some (.inl a)] st M ↔ uX8_years R 23 [x0, x1, x2, some (.inl a)] (.inl a :: st) M := zU_step dX8_years_22 (Or.inl rfl)
theorem dX8_years_23 : decode cX8_years 23 = .ok (.invokevirtual 320, 3) := by decide +kernel
theorem rX8_years_23 {R : zP} {x0 x1 x2 x3 : Option zV} {st : List zV} {M : zM} {a0 a1 a2 a3 : zV} : uX8_years R 23 [x0, x1, x2, x3] (a3 :: a2 :: a1 :: a0 :: st) M ↔ (st.length ≤ 4 ∧ zcv (zv 8 tX8_yearsOf) [a0, a1, a2, a3] M (fun v M => uX8_years R 26 [x0, x1, x2, x3] (v :: st) M)) := Iff.trans (zU_step dX8_years_23 (Or.inl rfl)) ⟨fun h => ⟨h.2.1, zcv_of h.2.2⟩, fun h => ⟨rfl, h.1, zcv_to h.2⟩⟩
theorem dX8_years_26 : decode cX8_years 26 = .ok (.goto 5, 3) := by decide +kernel
theorem rX8_years_26 {R : zP} {x0 x1 x2 x3 : Option zV} {st : List zV} {M : zM} : uX8_years R 26 [x0, x1, x2, x3] st M ↔ uX8_years R 31 [x0, x1, x2, x3] st M := Iff.trans (zU_step dX8_years_26 (Or.inl rfl)) ⟨fun h => h.2, fun h => ⟨by decide, h⟩⟩
theorem dX8_years_29 : decode cX8_years 29 = .ok (.bipush (-2), 2) := by decide +kernel
theorem rX8_years_29 {R : zP} {x0 x1 x2 x3 : Option zV} {st : List zV} {M : zM} : uX8_years R 29 [x0, x1, x2, x3] st M ↔ uX8_years R 31 [x0, x1, x2, x3] (.inl (-2) :: st) M := Iff.trans (zU_step dX8_years_29 (Or.inl rfl)) ⟨fun h => h.2, fun h => ⟨by decide, h⟩⟩
theorem dX8_years_31 : decode cX8_years 31 = .ok (.ireturn, 1) := by decide +kernel
theorem rX8_years_31 {R : zP} {x0 x1 x2 x3 : Option zV} {M : zM} {a : Int} : uX8_years R 31 [x0, x1, x2, x3] [.inl a] M ↔ R (some (.inl a)) M := Iff.trans (zU_step dX8_years_31 (Or.inl rfl)) ⟨fun h => h.2.2, fun h => ⟨rfl, Or.inl rfl, h⟩⟩
theorem eX8_years {R : zP} {M : zM} {a0 : Nat} {p0 : Int} {p1 : Int} {p2 : Int} : tX8_years [.inr (.inr a0), .inl p0, .inl p1, .inl p2] M R ↔ uX8_years R 0 [some (.inr (.inr a0)), some (.inl p0), some (.inl p1), some (.inl p2)] [] M := ⟨fun h => h.2, fun h => ⟨show 4 ≤ 4 by decide, h⟩⟩
def uX8_sheet (R : zP) : zK := zU fX8 vX8_sheet cX8_sheet R
theorem dX8_sheet_0 : decode cX8_sheet 0 = .ok (.iload_n 1, 1) := by decide +kernel
theorem rX8_sheet_0 {R : zP} {x0 x2 x3 x4 : Option zV} {st : List zV} {M : zM} {a : Int} : uX8_sheet R 0 [x0, some (.inl a), x2, x3, x4] st M ↔ uX8_sheet R 1 [x0, some (.inl a), x2, x3, x4] (.inl a :: st) M := zU_step dX8_sheet_0 (Or.inl rfl)
theorem dX8_sheet_1 : decode cX8_sheet 1 = .ok (.invokestatic 169, 3) := by decide +kernel
theorem rX8_sheet_1 {R : zP} {x0 x1 x2 x3 x4 : Option zV} {st : List zV} {M : zM} {a0 : zV} : uX8_sheet R 1 [x0, x1, x2, x3, x4] (a0 :: st) M ↔ (st.length ≤ 4 ∧ zcv tX8_isSheet [a0] M (fun v M => uX8_sheet R 4 [x0, x1, x2, x3, x4] (v :: st) M)) := Iff.trans (zU_step dX8_sheet_1 (Or.inl rfl)) ⟨fun h => ⟨h.2.1, zcv_of h.2.2⟩, fun h => ⟨rfl, h.1, zcv_to h.2⟩⟩
theorem dX8_sheet_4 : decode cX8_sheet 4 = .ok (.ifCond .eq 18, 3) := by decide +kernel
theorem rX8_sheet_4 {R : zP} {x0 x1 x2 x3 x4 : Option zV} {st : List zV} {M : zM} {a : Int} : uX8_sheet R 4 [x0, x1, x2, x3, x4] (.inl a :: st) M ↔ (zIR a ∧ if a = 0 then uX8_sheet R 22 [x0, x1, x2, x3, x4] st M else uX8_sheet R 7 [x0, x1, x2, x3, x4] st M) := Iff.trans (zU_step dX8_sheet_4 (Or.inl rfl)) ⟨fun h => ⟨h.1.1, (zite (c := a = 0)).mpr h.2⟩, fun h => ⟨⟨h.1, by decide⟩, (zite (c := a = 0)).mp h.2⟩⟩
theorem dX8_sheet_7 : decode cX8_sheet 7 = .ok (.iload_n 2, 1) := by decide +kernel
theorem rX8_sheet_7 {R : zP} {x0 x1 x3 x4 : Option zV} {st : List zV} {M : zM} {a : Int} : uX8_sheet R 7 [x0, x1, some (.inl a), x3, x4] st M ↔ uX8_sheet R 8 [x0, x1, some (.inl a), x3, x4] (.inl a :: st) M := zU_step dX8_sheet_7 (Or.inl rfl)
theorem dX8_sheet_8 : decode cX8_sheet 8 = .ok (.iconst 0, 1) := by decide +kernel
theorem rX8_sheet_8 {R : zP} {x0 x1 x2 x3 x4 : Option zV} {st : List zV} {M : zM} : uX8_sheet R 8 [x0, x1, x2, x3, x4] st M ↔ uX8_sheet R 9 [x0, x1, x2, x3, x4] (.inl (0) :: st) M := zU_step dX8_sheet_8 (Or.inl rfl)
theorem dX8_sheet_9 : decode cX8_sheet 9 = .ok (.iconst 2, 1) := by decide +kernel
theorem rX8_sheet_9 {R : zP} {x0 x1 x2 x3 x4 : Option zV} {st : List zV} {M : zM} : uX8_sheet R 9 [x0, x1, x2, x3, x4] st M ↔ uX8_sheet R 10 [x0, x1, x2, x3, x4] (.inl (2) :: st) M := zU_step dX8_sheet_9 (Or.inl rfl)
theorem dX8_sheet_10 : decode cX8_sheet 10 = .ok (.invokestatic 112, 3) := by decide +kernel
theorem rX8_sheet_10 {R : zP} {x0 x1 x2 x3 x4 : Option zV} {st : List zV} {M : zM} {a0 a1 a2 : zV} : uX8_sheet R 10 [x0, x1, x2, x3, x4] (a2 :: a1 :: a0 :: st) M ↔ (st.length ≤ 4 ∧ zcv tX8_in [a0, a1, a2] M (fun v M => uX8_sheet R 13 [x0, x1, x2, x3, x4] (v :: st) M)) := Iff.trans (zU_step dX8_sheet_10 (Or.inl rfl)) ⟨fun h => ⟨h.2.1, zcv_of h.2.2⟩, fun h => ⟨rfl, h.1, zcv_to h.2⟩⟩
theorem dX8_sheet_13 : decode cX8_sheet 13 = .ok (.ifCond .eq 9, 3) := by decide +kernel
theorem rX8_sheet_13 {R : zP} {x0 x1 x2 x3 x4 : Option zV} {st : List zV} {M : zM} {a : Int} : uX8_sheet R 13 [x0, x1, x2, x3, x4] (.inl a :: st) M ↔ (zIR a ∧ if a = 0 then uX8_sheet R 22 [x0, x1, x2, x3, x4] st M else uX8_sheet R 16 [x0, x1, x2, x3, x4] st M) := Iff.trans (zU_step dX8_sheet_13 (Or.inl rfl)) ⟨fun h => ⟨h.1.1, (zite (c := a = 0)).mpr h.2⟩, fun h => ⟨⟨h.1, by decide⟩, (zite (c := a = 0)).mp h.2⟩⟩
theorem dX8_sheet_16 : decode cX8_sheet 16 = .ok (.iload_n 3, 1) := by decide +kernel
theorem rX8_sheet_16 {R : zP} {x0 x1 x2 x4 : Option zV} {st : List zV} {M : zM} {a : Int} : uX8_sheet R 16 [x0, x1, x2, some (.inl a), x4] st M ↔ uX8_sheet R 17 [x0, x1, x2, some (.inl a), x4] (.inl a :: st) M := zU_step dX8_sheet_16 (Or.inl rfl)
theorem dX8_sheet_17 : decode cX8_sheet 17 = .ok (.bipush 60, 2) := by decide +kernel
theorem rX8_sheet_17 {R : zP} {x0 x1 x2 x3 x4 : Option zV} {st : List zV} {M : zM} : uX8_sheet R 17 [x0, x1, x2, x3, x4] st M ↔ uX8_sheet R 19 [x0, x1, x2, x3, x4] (.inl (60) :: st) M := Iff.trans (zU_step dX8_sheet_17 (Or.inl rfl)) ⟨fun h => h.2, fun h => ⟨by decide, h⟩⟩
theorem dX8_sheet_19 : decode cX8_sheet 19 = .ok (.if_icmp .le 6, 3) := by decide +kernel
theorem rX8_sheet_19 {R : zP} {x0 x1 x2 x3 x4 : Option zV} {st : List zV} {M : zM} {a b : Int} : uX8_sheet R 19 [x0, x1, x2, x3, x4] (.inl b :: .inl a :: st) M ↔ ((zIR a ∧ zIR b) ∧ if a ≤ b then uX8_sheet R 25 [x0, x1, x2, x3, x4] st M else uX8_sheet R 22 [x0, x1, x2, x3, x4] st M) := Iff.trans (zU_step dX8_sheet_19 (Or.inl rfl)) ⟨fun h => ⟨⟨h.1.1, h.1.2.1⟩, (zite (c := a ≤ b)).mpr h.2⟩, fun h => ⟨⟨h.1.1, h.1.2, by decide⟩, (zite (c := a ≤ b)).mp h.2⟩⟩
theorem dX8_sheet_22 : decode cX8_sheet 22 = .ok (.bipush (-2), 2) := by decide +kernel
theorem rX8_sheet_22 {R : zP} {x0 x1 x2 x3 x4 : Option zV} {st : List zV} {M : zM} : uX8_sheet R 22 [x0, x1, x2, x3, x4] st M ↔ uX8_sheet R 24 [x0, x1, x2, x3, x4] (.inl (-2) :: st) M := Iff.trans (zU_step dX8_sheet_22 (Or.inl rfl)) ⟨fun h => h.2, fun h => ⟨by decide, h⟩⟩
theorem dX8_sheet_24 : decode cX8_sheet 24 = .ok (.ireturn, 1) := by decide +kernel
theorem rX8_sheet_24 {R : zP} {x0 x1 x2 x3 x4 : Option zV} {M : zM} {a : Int} : uX8_sheet R 24 [x0, x1, x2, x3, x4] [.inl a] M ↔ R (some (.inl a)) M := Iff.trans (zU_step dX8_sheet_24 (Or.inl rfl)) ⟨fun h => h.2.2, fun h => ⟨rfl, Or.inl rfl, h⟩⟩
theorem dX8_sheet_25 : decode cX8_sheet 25 = .ok (.iload_n 3, 1) := by decide +kernel
theorem rX8_sheet_25 {R : zP} {x0 x1 x2 x4 : Option zV} {st : List zV} {M : zM} {a : Int} : uX8_sheet R 25 [x0, x1, x2, some (.inl a), x4] st M ↔ uX8_sheet R 26 [x0, x1, x2, some (.inl a), x4] (.inl a :: st) M := zU_step dX8_sheet_25 (Or.inl rfl)
theorem dX8_sheet_26 : decode cX8_sheet 26 = .ok (.ifCond .ge 9, 3) := by decide +kernel
theorem rX8_sheet_26 {R : zP} {x0 x1 x2 x3 x4 : Option zV} {st : List zV} {M : zM} {a : Int} : uX8_sheet R 26 [x0, x1, x2, x3, x4] (.inl a :: st) M ↔ (zIR a ∧ if 0 ≤ a then uX8_sheet R 35 [x0, x1, x2, x3, x4] st M else uX8_sheet R 29 [x0, x1, x2, x3, x4] st M) := Iff.trans (zU_step dX8_sheet_26 (Or.inl rfl)) ⟨fun h => ⟨h.1.1, (zite (c := 0 ≤ a)).mpr h.2⟩, fun h => ⟨⟨h.1, by decide⟩, (zite (c := 0 ≤ a)).mp h.2⟩⟩
theorem dX8_sheet_29 : decode cX8_sheet 29 = .ok (.aload_n 0, 1) := by decide +kernel
theorem rX8_sheet_29 {R : zP} {x1 x2 x3 x4 : Option zV} {st : List zV} {M : zM} {a : Nat} : uX8_sheet R 29 [some (.inr (.inr a)), x1, x2, x3, x4] st M ↔ uX8_sheet R 30 [some (.inr (.inr a)), x1, x2, x3, x4] (.inr (.inr a) :: st) M := zU_step dX8_sheet_29 (Or.inl rfl)
theorem dX8_sheet_30 : decode cX8_sheet 30 = .ok (.iconst 5, 1) := by decide +kernel
theorem rX8_sheet_30 {R : zP} {x0 x1 x2 x3 x4 : Option zV} {st : List zV} {M : zM} : uX8_sheet R 30 [x0, x1, x2, x3, x4] st M ↔ uX8_sheet R 31 [x0, x1, x2, x3, x4] (.inl (5) :: st) M := zU_step dX8_sheet_30 (Or.inl rfl)
theorem dX8_sheet_31 : decode cX8_sheet 31 = .ok (.invokevirtual 172, 3) := by decide +kernel
theorem rX8_sheet_31 {R : zP} {x0 x1 x2 x3 x4 : Option zV} {st : List zV} {M : zM} {a0 a1 : zV} : uX8_sheet R 31 [x0, x1, x2, x3, x4] (a1 :: a0 :: st) M ↔ (st.length ≤ 4 ∧ zcv (zv 8 tX8_meets) [a0, a1] M (fun v M => uX8_sheet R 34 [x0, x1, x2, x3, x4] (v :: st) M)) := Iff.trans (zU_step dX8_sheet_31 (Or.inl rfl)) ⟨fun h => ⟨h.2.1, zcv_of h.2.2⟩, fun h => ⟨rfl, h.1, zcv_to h.2⟩⟩
theorem dX8_sheet_34 : decode cX8_sheet 34 = .ok (.ireturn, 1) := by decide +kernel
theorem rX8_sheet_34 {R : zP} {x0 x1 x2 x3 x4 : Option zV} {M : zM} {a : Int} : uX8_sheet R 34 [x0, x1, x2, x3, x4] [.inl a] M ↔ R (some (.inl a)) M := Iff.trans (zU_step dX8_sheet_34 (Or.inl rfl)) ⟨fun h => h.2.2, fun h => ⟨rfl, Or.inl rfl, h⟩⟩
theorem dX8_sheet_35 : decode cX8_sheet 35 = .ok (.aload_n 0, 1) := by decide +kernel
theorem rX8_sheet_35 {R : zP} {x1 x2 x3 x4 : Option zV} {st : List zV} {M : zM} {a : Nat} : uX8_sheet R 35 [some (.inr (.inr a)), x1, x2, x3, x4] st M ↔ uX8_sheet R 36 [some (.inr (.inr a)), x1, x2, x3, x4] (.inr (.inr a) :: st) M := zU_step dX8_sheet_35 (Or.inl rfl)
theorem dX8_sheet_36 : decode cX8_sheet 36 = .ok (.getfield 94, 3) := by decide +kernel
theorem rX8_sheet_36 {R : zP} {x0 x1 x2 x3 x4 : Option zV} {st : List zV} {M : zM} {r : Nat} : uX8_sheet R 36 [x0, x1, x2, x3, x4] (.inr (.inr r) :: st) M ↔ zgetx fX8 94 r M (fun v => uX8_sheet R 39 [x0, x1, x2, x3, x4] (v :: st) M) := zU_step dX8_sheet_36 (Or.inl rfl)
theorem dX8_sheet_39 : decode cX8_sheet 39 = .ok (.iload_n 1, 1) := by decide +kernel
theorem rX8_sheet_39 {R : zP} {x0 x2 x3 x4 : Option zV} {st : List zV} {M : zM} {a : Int} : uX8_sheet R 39 [x0, some (.inl a), x2, x3, x4] st M ↔ uX8_sheet R 40 [x0, some (.inl a), x2, x3, x4] (.inl a :: st) M := zU_step dX8_sheet_39 (Or.inl rfl)
theorem dX8_sheet_40 : decode cX8_sheet 40 = .ok (.iconst 1, 1) := by decide +kernel
theorem rX8_sheet_40 {R : zP} {x0 x1 x2 x3 x4 : Option zV} {st : List zV} {M : zM} : uX8_sheet R 40 [x0, x1, x2, x3, x4] st M ↔ uX8_sheet R 41 [x0, x1, x2, x3, x4] (.inl (1) :: st) M := zU_step dX8_sheet_40 (Or.inl rfl)
theorem dX8_sheet_41 : decode cX8_sheet 41 = .ok (.bastore, 1) := by decide +kernel
theorem rX8_sheet_41 {R : zP} {x0 x1 x2 x3 x4 : Option zV} {st : List zV} {M : zM} {i v : Int} {r : Nat} : uX8_sheet R 41 [x0, x1, x2, x3, x4] (.inl v :: .inl i :: .inr (.inr r) :: st) M ↔ zwrite 2 r i ((v = 0 ∨ v = 1) ∧ uX8_sheet R 42 [x0, x1, x2, x3, x4] st (zup M r i v)) := zU_step dX8_sheet_41 (Or.inl rfl)
theorem dX8_sheet_42 : decode cX8_sheet 42 = .ok (.aload_n 0, 1) := by decide +kernel
theorem rX8_sheet_42 {R : zP} {x1 x2 x3 x4 : Option zV} {st : List zV} {M : zM} {a : Nat} : uX8_sheet R 42 [some (.inr (.inr a)), x1, x2, x3, x4] st M ↔ uX8_sheet R 43 [some (.inr (.inr a)), x1, x2, x3, x4] (.inr (.inr a) :: st) M := zU_step dX8_sheet_42 (Or.inl rfl)
theorem dX8_sheet_43 : decode cX8_sheet 43 = .ok (.getfield 98, 3) := by decide +kernel
theorem rX8_sheet_43 {R : zP} {x0 x1 x2 x3 x4 : Option zV} {st : List zV} {M : zM} {r : Nat} : uX8_sheet R 43 [x0, x1, x2, x3, x4] (.inr (.inr r) :: st) M ↔ zgetx fX8 98 r M (fun v => uX8_sheet R 46 [x0, x1, x2, x3, x4] (v :: st) M) := zU_step dX8_sheet_43 (Or.inl rfl)
theorem dX8_sheet_46 : decode cX8_sheet 46 = .ok (.iload_n 1, 1) := by decide +kernel
theorem rX8_sheet_46 {R : zP} {x0 x2 x3 x4 : Option zV} {st : List zV} {M : zM} {a : Int} : uX8_sheet R 46 [x0, some (.inl a), x2, x3, x4] st M ↔ uX8_sheet R 47 [x0, some (.inl a), x2, x3, x4] (.inl a :: st) M := zU_step dX8_sheet_46 (Or.inl rfl)
theorem dX8_sheet_47 : decode cX8_sheet 47 = .ok (.iload_n 2, 1) := by decide +kernel
theorem rX8_sheet_47 {R : zP} {x0 x1 x3 x4 : Option zV} {st : List zV} {M : zM} {a : Int} : uX8_sheet R 47 [x0, x1, some (.inl a), x3, x4] st M ↔ uX8_sheet R 48 [x0, x1, some (.inl a), x3, x4] (.inl a :: st) M := zU_step dX8_sheet_47 (Or.inl rfl)
theorem dX8_sheet_48 : decode cX8_sheet 48 = .ok (.iastore, 1) := by decide +kernel
theorem rX8_sheet_48 {R : zP} {x0 x1 x2 x3 x4 : Option zV} {st : List zV} {M : zM} {i v : Int} {r : Nat} : uX8_sheet R 48 [x0, x1, x2, x3, x4] (.inl v :: .inl i :: .inr (.inr r) :: st) M ↔ zwrite 0 r i (uX8_sheet R 49 [x0, x1, x2, x3, x4] st (zup M r i v)) := zU_step dX8_sheet_48 (Or.inl rfl)
theorem dX8_sheet_49 : decode cX8_sheet 49 = .ok (.aload_n 0, 1) := by decide +kernel
theorem rX8_sheet_49 {R : zP} {x1 x2 x3 x4 : Option zV} {st : List zV} {M : zM} {a : Nat} : uX8_sheet R 49 [some (.inr (.inr a)), x1, x2, x3, x4] st M ↔ uX8_sheet R 50 [some (.inr (.inr a)), x1, x2, x3, x4] (.inr (.inr a) :: st) M := zU_step dX8_sheet_49 (Or.inl rfl)
theorem dX8_sheet_50 : decode cX8_sheet 50 = .ok (.getfield 101, 3) := by decide +kernel
theorem rX8_sheet_50 {R : zP} {x0 x1 x2 x3 x4 : Option zV} {st : List zV} {M : zM} {r : Nat} : uX8_sheet R 50 [x0, x1, x2, x3, x4] (.inr (.inr r) :: st) M ↔ zgetx fX8 101 r M (fun v => uX8_sheet R 53 [x0, x1, x2, x3, x4] (v :: st) M) := zU_step dX8_sheet_50 (Or.inl rfl)
theorem dX8_sheet_53 : decode cX8_sheet 53 = .ok (.iload_n 1, 1) := by decide +kernel
theorem rX8_sheet_53 {R : zP} {x0 x2 x3 x4 : Option zV} {st : List zV} {M : zM} {a : Int} : uX8_sheet R 53 [x0, some (.inl a), x2, x3, x4] st M ↔ uX8_sheet R 54 [x0, some (.inl a), x2, x3, x4] (.inl a :: st) M := zU_step dX8_sheet_53 (Or.inl rfl)
theorem dX8_sheet_54 : decode cX8_sheet 54 = .ok (.iload_n 3, 1) := by decide +kernel
theorem rX8_sheet_54 {R : zP} {x0 x1 x2 x4 : Option zV} {st : List zV} {M : zM} {a : Int} : uX8_sheet R 54 [x0, x1, x2, some (.inl a), x4] st M ↔ uX8_sheet R 55 [x0, x1, x2, some (.inl a), x4] (.inl a :: st) M := zU_step dX8_sheet_54 (Or.inl rfl)
theorem dX8_sheet_55 : decode cX8_sheet 55 = .ok (.iastore, 1) := by decide +kernel
theorem rX8_sheet_55 {R : zP} {x0 x1 x2 x3 x4 : Option zV} {st : List zV} {M : zM} {i v : Int} {r : Nat} : uX8_sheet R 55 [x0, x1, x2, x3, x4] (.inl v :: .inl i :: .inr (.inr r) :: st) M ↔ zwrite 0 r i (uX8_sheet R 56 [x0, x1, x2, x3, x4] st (zup M r i v)) := zU_step dX8_sheet_55 (Or.inl rfl)
theorem dX8_sheet_56 : decode cX8_sheet 56 = .ok (.iconst 0, 1) := by decide +kernel
theorem rX8_sheet_56 {R : zP} {x0 x1 x2 x3 x4 : Option zV} {st : List zV} {M : zM} : uX8_sheet R 56 [x0, x1, x2, x3, x4] st M ↔ uX8_sheet R 57 [x0, x1, x2, x3, x4] (.inl (0) :: st) M := zU_step dX8_sheet_56 (Or.inl rfl)
theorem dX8_sheet_57 : decode cX8_sheet 57 = .ok (.istore 4, 2) := by decide +kernel
theorem rX8_sheet_57 {R : zP} {x0 x1 x2 x4 : Option zV} {st : List zV} {M : zM} {a : Int} {y : Int} : uX8_sheet R 57 [x0, x1, x2, some (.inl y), x4] (.inl a :: st) M ↔ uX8_sheet R 59 [x0, x1, x2, some (.inl y), some (.inl a)] st M := Iff.trans (zU_step dX8_sheet_57 (Or.inl rfl)) ⟨fun h => h.2, fun h => ⟨show 4 < 5 by decide, h⟩⟩
theorem rX8_sheet_57z {R : zP} {x0 x1 x2 x3 x4 : Option zV} {st : List zV} {M : zM} {a : Int} : uX8_sheet R 57 [x0, x1, x2, x3, x4] (.inl a :: st) M ↔ uX8_sheet R 59 [x0, x1, x2, zkeep x3, some (.inl a)] st M := Iff.trans (zU_step dX8_sheet_57 (Or.inl rfl)) ⟨fun h => h.2, fun h => ⟨show 4 < 5 by decide, h⟩⟩
theorem dX8_sheet_59 : decode cX8_sheet 59 = .ok (.iload 4, 2) := by decide +kernel
theorem rX8_sheet_59 {R : zP} {x0 x1 x2 x3 : Option zV} {st : List zV} {M : zM} {a : Int} : uX8_sheet R 59 [x0, x1, x2, x3, some (.inl a)] st M ↔ uX8_sheet R 61 [x0, x1, x2, x3, some (.inl a)] (.inl a :: st) M := zU_step dX8_sheet_59 (Or.inl rfl)
theorem dX8_sheet_61 : decode cX8_sheet 61 = .ok (.bipush 60, 2) := by decide +kernel
theorem rX8_sheet_61 {R : zP} {x0 x1 x2 x3 x4 : Option zV} {st : List zV} {M : zM} : uX8_sheet R 61 [x0, x1, x2, x3, x4] st M ↔ uX8_sheet R 63 [x0, x1, x2, x3, x4] (.inl (60) :: st) M := Iff.trans (zU_step dX8_sheet_61 (Or.inl rfl)) ⟨fun h => h.2, fun h => ⟨by decide, h⟩⟩
theorem dX8_sheet_63 : decode cX8_sheet 63 = .ok (.if_icmp .ge 22, 3) := by decide +kernel
theorem rX8_sheet_63 {R : zP} {x0 x1 x2 x3 x4 : Option zV} {st : List zV} {M : zM} {a b : Int} : uX8_sheet R 63 [x0, x1, x2, x3, x4] (.inl b :: .inl a :: st) M ↔ ((zIR a ∧ zIR b) ∧ if b ≤ a then uX8_sheet R 85 [x0, x1, x2, x3, x4] st M else uX8_sheet R 66 [x0, x1, x2, x3, x4] st M) := Iff.trans (zU_step dX8_sheet_63 (Or.inl rfl)) ⟨fun h => ⟨⟨h.1.1, h.1.2.1⟩, (zite (c := b ≤ a)).mpr h.2⟩, fun h => ⟨⟨h.1.1, h.1.2, by decide⟩, (zite (c := b ≤ a)).mp h.2⟩⟩
theorem dX8_sheet_66 : decode cX8_sheet 66 = .ok (.aload_n 0, 1) := by decide +kernel
theorem rX8_sheet_66 {R : zP} {x1 x2 x3 x4 : Option zV} {st : List zV} {M : zM} {a : Nat} : uX8_sheet R 66 [some (.inr (.inr a)), x1, x2, x3, x4] st M ↔ uX8_sheet R 67 [some (.inr (.inr a)), x1, x2, x3, x4] (.inr (.inr a) :: st) M := zU_step dX8_sheet_66 (Or.inl rfl)
theorem dX8_sheet_67 : decode cX8_sheet 67 = .ok (.getfield 104, 3) := by decide +kernel
theorem rX8_sheet_67 {R : zP} {x0 x1 x2 x3 x4 : Option zV} {st : List zV} {M : zM} {r : Nat} : uX8_sheet R 67 [x0, x1, x2, x3, x4] (.inr (.inr r) :: st) M ↔ zgetx fX8 104 r M (fun v => uX8_sheet R 70 [x0, x1, x2, x3, x4] (v :: st) M) := zU_step dX8_sheet_67 (Or.inl rfl)
theorem dX8_sheet_70 : decode cX8_sheet 70 = .ok (.bipush 60, 2) := by decide +kernel
theorem rX8_sheet_70 {R : zP} {x0 x1 x2 x3 x4 : Option zV} {st : List zV} {M : zM} : uX8_sheet R 70 [x0, x1, x2, x3, x4] st M ↔ uX8_sheet R 72 [x0, x1, x2, x3, x4] (.inl (60) :: st) M := Iff.trans (zU_step dX8_sheet_70 (Or.inl rfl)) ⟨fun h => h.2, fun h => ⟨by decide, h⟩⟩
theorem dX8_sheet_72 : decode cX8_sheet 72 = .ok (.iload_n 1, 1) := by decide +kernel
theorem rX8_sheet_72 {R : zP} {x0 x2 x3 x4 : Option zV} {st : List zV} {M : zM} {a : Int} : uX8_sheet R 72 [x0, some (.inl a), x2, x3, x4] st M ↔ uX8_sheet R 73 [x0, some (.inl a), x2, x3, x4] (.inl a :: st) M := zU_step dX8_sheet_72 (Or.inl rfl)
theorem dX8_sheet_73 : decode cX8_sheet 73 = .ok (.imul, 1) := by decide +kernel
theorem rX8_sheet_73 {R : zP} {x0 x1 x2 x3 x4 : Option zV} {st : List zV} {M : zM} {a b : Int} : uX8_sheet R 73 [x0, x1, x2, x3, x4] (.inl b :: .inl a :: st) M ↔ uX8_sheet R 74 [x0, x1, x2, x3, x4] (.inl (a * b) :: st) M := zU_step dX8_sheet_73 (Or.inl rfl)
theorem dX8_sheet_74 : decode cX8_sheet 74 = .ok (.iload 4, 2) := by decide +kernel
theorem rX8_sheet_74 {R : zP} {x0 x1 x2 x3 : Option zV} {st : List zV} {M : zM} {a : Int} : uX8_sheet R 74 [x0, x1, x2, x3, some (.inl a)] st M ↔ uX8_sheet R 76 [x0, x1, x2, x3, some (.inl a)] (.inl a :: st) M := zU_step dX8_sheet_74 (Or.inl rfl)
theorem dX8_sheet_76 : decode cX8_sheet 76 = .ok (.iadd, 1) := by decide +kernel
theorem rX8_sheet_76 {R : zP} {x0 x1 x2 x3 x4 : Option zV} {st : List zV} {M : zM} {a b : Int} : uX8_sheet R 76 [x0, x1, x2, x3, x4] (.inl b :: .inl a :: st) M ↔ uX8_sheet R 77 [x0, x1, x2, x3, x4] (.inl (a + b) :: st) M := zU_step dX8_sheet_76 (Or.inl rfl)
theorem dX8_sheet_77 : decode cX8_sheet 77 = .ok (.iconst 0, 1) := by decide +kernel
theorem rX8_sheet_77 {R : zP} {x0 x1 x2 x3 x4 : Option zV} {st : List zV} {M : zM} : uX8_sheet R 77 [x0, x1, x2, x3, x4] st M ↔ uX8_sheet R 78 [x0, x1, x2, x3, x4] (.inl (0) :: st) M := zU_step dX8_sheet_77 (Or.inl rfl)
theorem dX8_sheet_78 : decode cX8_sheet 78 = .ok (.iastore, 1) := by decide +kernel
theorem rX8_sheet_78 {R : zP} {x0 x1 x2 x3 x4 : Option zV} {st : List zV} {M : zM} {i v : Int} {r : Nat} : uX8_sheet R 78 [x0, x1, x2, x3, x4] (.inl v :: .inl i :: .inr (.inr r) :: st) M ↔ zwrite 0 r i (uX8_sheet R 79 [x0, x1, x2, x3, x4] st (zup M r i v)) := zU_step dX8_sheet_78 (Or.inl rfl)
theorem dX8_sheet_79 : decode cX8_sheet 79 = .ok (.iinc 4 1, 3) := by decide +kernel
theorem rX8_sheet_79 {R : zP} {x0 x1 x2 : Option zV} {st : List zV} {M : zM} {a : Int} {y : Int} : uX8_sheet R 79 [x0, x1, x2, some (.inl y), some (.inl a)] st M ↔ uX8_sheet R 82 [x0, x1, x2, some (.inl y), some (.inl (a + (1)))] st M := Iff.trans (zU_step dX8_sheet_79 (Or.inl rfl)) ⟨fun h => h.2, fun h => ⟨show 4 < 5 by decide, h⟩⟩
theorem rX8_sheet_79z {R : zP} {x0 x1 x2 x3 : Option zV} {st : List zV} {M : zM} {a : Int} : uX8_sheet R 79 [x0, x1, x2, x3, some (.inl a)] st M ↔ uX8_sheet R 82 [x0, x1, x2, zkeep x3, some (.inl (a + (1)))] st M := Iff.trans (zU_step dX8_sheet_79 (Or.inl rfl)) ⟨fun h => h.2, fun h => ⟨show 4 < 5 by decide, h⟩⟩
theorem dX8_sheet_82 : decode cX8_sheet 82 = .ok (.goto (-23), 3) := by decide +kernel
theorem rX8_sheet_82 {R : zP} {x0 x1 x2 x3 x4 : Option zV} {st : List zV} {M : zM} : uX8_sheet R 82 [x0, x1, x2, x3, x4] st M ↔ uX8_sheet R 59 [x0, x1, x2, x3, x4] st M := Iff.trans (zU_step dX8_sheet_82 (Or.inl rfl)) ⟨fun h => h.2, fun h => ⟨by decide, h⟩⟩
theorem dX8_sheet_85 : decode cX8_sheet 85 = .ok (.iload_n 3, 1) := by decide +kernel
theorem rX8_sheet_85 {R : zP} {x0 x1 x2 x4 : Option zV} {st : List zV} {M : zM} {a : Int} : uX8_sheet R 85 [x0, x1, x2, some (.inl a), x4] st M ↔ uX8_sheet R 86 [x0, x1, x2, some (.inl a), x4] (.inl a :: st) M := zU_step dX8_sheet_85 (Or.inl rfl)
theorem dX8_sheet_86 : decode cX8_sheet 86 = .ok (.ireturn, 1) := by decide +kernel
theorem rX8_sheet_86 {R : zP} {x0 x1 x2 x3 x4 : Option zV} {M : zM} {a : Int} : uX8_sheet R 86 [x0, x1, x2, x3, x4] [.inl a] M ↔ R (some (.inl a)) M := Iff.trans (zU_step dX8_sheet_86 (Or.inl rfl)) ⟨fun h => h.2.2, fun h => ⟨rfl, Or.inl rfl, h⟩⟩
theorem eX8_sheet {R : zP} {M : zM} {a0 : Nat} {p0 : Int} {p1 : Int} {p2 : Int} : tX8_sheet [.inr (.inr a0), .inl p0, .inl p1, .inl p2] M R ↔ uX8_sheet R 0 [some (.inr (.inr a0)), some (.inl p0), some (.inl p1), some (.inl p2), none] [] M := ⟨fun h => h.2, fun h => ⟨show 4 ≤ 5 by decide, h⟩⟩
