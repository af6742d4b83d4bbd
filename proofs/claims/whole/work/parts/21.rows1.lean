def uX7_member (R : zP) : zK := zU fX7 vX7_member cX7_member R
theorem dX7_member_0 : decode cX7_member 0 = .ok (.iload_n 1, 1) := by decide +kernel
theorem rX7_member_0 {R : zP} {x0 x2 : Option zV} {st : List zV} {M : zM} {a : Int} : uX7_member R 0 [x0, some (.inl a), x2] st M ↔ uX7_member R 1 [x0, some (.inl a), x2] (.inl a :: st) M := zU_step dX7_member_0 (Or.inl rfl)
theorem dX7_member_1 : decode cX7_member 1 = .ok (.aload_n 0, 1) := by decide +kernel
theorem rX7_member_1 {R : zP} {x1 x2 : Option zV} {st : List zV} {M : zM} {a : Nat} : uX7_member R 1 [some (.inr (.inr a)), x1, x2] st M ↔ uX7_member R 2 [some (.inr (.inr a)), x1, x2] (.inr (.inr a) :: st) M := zU_step dX7_member_1 (Or.inl rfl)
theorem dX7_member_2 : decode cX7_member 2 = .ok (.getfield 14, 3) := by decide +kernel
theorem rX7_member_2 {R : zP} {x0 x1 x2 : Option zV} {st : List zV} {M : zM} {r : Nat} : uX7_member R 2 [x0, x1, x2] (.inr (.inr r) :: st) M ↔ zgetx fX7 14 r M (fun v => uX7_member R 5 [x0, x1, x2] (v :: st) M) := zU_step dX7_member_2 (Or.inl rfl)
theorem dX7_member_5 : decode cX7_member 5 = .ok (.getfield 116, 3) := by decide +kernel
theorem rX7_member_5 {R : zP} {x0 x1 x2 : Option zV} {st : List zV} {M : zM} {r : Nat} : uX7_member R 5 [x0, x1, x2] (.inr (.inr r) :: st) M ↔ zgetx fX7 116 r M (fun v => uX7_member R 8 [x0, x1, x2] (v :: st) M) := zU_step dX7_member_5 (Or.inl rfl)
theorem dX7_member_8 : decode cX7_member 8 = .ok (.invokestatic 94, 3) := by decide +kernel
theorem rX7_member_8 {R : zP} {x0 x1 x2 : Option zV} {st : List zV} {M : zM} {a0 a1 : zV} : uX7_member R 8 [x0, x1, x2] (a1 :: a0 :: st) M ↔ (st.length ≤ 4 ∧ zcv tX7_outside [a0, a1] M (fun v M => uX7_member R 11 [x0, x1, x2] (v :: st) M)) := Iff.trans (zU_step dX7_member_8 (Or.inl rfl)) ⟨fun h => ⟨h.2.1, zcv_of h.2.2⟩, fun h => ⟨rfl, h.1, zcv_to h.2⟩⟩
theorem dX7_member_11 : decode cX7_member 11 = .ok (.ifCond .ne 11, 3) := by decide +kernel
theorem rX7_member_11 {R : zP} {x0 x1 x2 : Option zV} {st : List zV} {M : zM} {a : Int} : uX7_member R 11 [x0, x1, x2] (.inl a :: st) M ↔ (zIR a ∧ if a ≠ 0 then uX7_member R 22 [x0, x1, x2] st M else uX7_member R 14 [x0, x1, x2] st M) := Iff.trans (zU_step dX7_member_11 (Or.inl rfl)) ⟨fun h => ⟨h.1.1, (zite (c := a ≠ 0)).mpr h.2⟩, fun h => ⟨⟨h.1, by decide⟩, (zite (c := a ≠ 0)).mp h.2⟩⟩
theorem dX7_member_14 : decode cX7_member 14 = .ok (.iload_n 2, 1) := by decide +kernel
theorem rX7_member_14 {R : zP} {x0 x1 : Option zV} {st : List zV} {M : zM} {a : Int} : uX7_member R 14 [x0, x1, some (.inl a)] st M ↔ uX7_member R 15 [x0, x1, some (.inl a)] (.inl a :: st) M := zU_step dX7_member_14 (Or.inl rfl)
theorem dX7_member_15 : decode cX7_member 15 = .ok (.iconst 5, 1) := by decide +kernel
theorem rX7_member_15 {R : zP} {x0 x1 x2 : Option zV} {st : List zV} {M : zM} : uX7_member R 15 [x0, x1, x2] st M ↔ uX7_member R 16 [x0, x1, x2] (.inl (5) :: st) M := zU_step dX7_member_15 (Or.inl rfl)
theorem dX7_member_16 : decode cX7_member 16 = .ok (.invokestatic 94, 3) := by decide +kernel
theorem rX7_member_16 {R : zP} {x0 x1 x2 : Option zV} {st : List zV} {M : zM} {a0 a1 : zV} : uX7_member R 16 [x0, x1, x2] (a1 :: a0 :: st) M ↔ (st.length ≤ 4 ∧ zcv tX7_outside [a0, a1] M (fun v M => uX7_member R 19 [x0, x1, x2] (v :: st) M)) := Iff.trans (zU_step dX7_member_16 (Or.inl rfl)) ⟨fun h => ⟨h.2.1, zcv_of h.2.2⟩, fun h => ⟨rfl, h.1, zcv_to h.2⟩⟩
theorem dX7_member_19 : decode cX7_member 19 = .ok (.ifCond .eq 6, 3) := by decide +kernel
theorem rX7_member_19 {R : zP} {x0 x1 x2 : Option zV} {st : List zV} {M : zM} {a : Int} : uX7_member R 19 [x0, x1, x2] (.inl a :: st) M ↔ (zIR a ∧ if a = 0 then uX7_member R 25 [x0, x1, x2] st M else uX7_member R 22 [x0, x1, x2] st M) := Iff.trans (zU_step dX7_member_19 (Or.inl rfl)) ⟨fun h => ⟨h.1.1, (zite (c := a = 0)).mpr h.2⟩, fun h => ⟨⟨h.1, by decide⟩, (zite (c := a = 0)).mp h.2⟩⟩
theorem dX7_member_22 : decode cX7_member 22 = .ok (.bipush (-2), 2) := by decide +kernel
theorem rX7_member_22 {R : zP} {x0 x1 x2 : Option zV} {st : List zV} {M : zM} : uX7_member R 22 [x0, x1, x2] st M ↔ uX7_member R 24 [x0, x1, x2] (.inl (-2) :: st) M := Iff.trans (zU_step dX7_member_22 (Or.inl rfl)) ⟨fun h => h.2, fun h => ⟨by decide, h⟩⟩
theorem dX7_member_24 : decode cX7_member 24 = .ok (.ireturn, 1) := by decide +kernel
theorem rX7_member_24 {R : zP} {x0 x1 x2 : Option zV} {M : zM} {a : Int} : uX7_member R 24 [x0, x1, x2] [.inl a] M ↔ R (some (.inl a)) M := Iff.trans (zU_step dX7_member_24 (Or.inl rfl)) ⟨fun h => h.2.2, fun h => ⟨rfl, Or.inl rfl, h⟩⟩
theorem dX7_member_25 : decode cX7_member 25 = .ok (.aload_n 0, 1) := by decide +kernel
theorem rX7_member_25 {R : zP} {x1 x2 : Option zV} {st : List zV} {M : zM} {a : Nat} : uX7_member R 25 [some (.inr (.inr a)), x1, x2] st M ↔ uX7_member R 26 [some (.inr (.inr a)), x1, x2] (.inr (.inr a) :: st) M := zU_step dX7_member_25 (Or.inl rfl)
theorem dX7_member_26 : decode cX7_member 26 = .ok (.getfield 14, 3) := by decide +kernel
theorem rX7_member_26 {R : zP} {x0 x1 x2 : Option zV} {st : List zV} {M : zM} {r : Nat} : uX7_member R 26 [x0, x1, x2] (.inr (.inr r) :: st) M ↔ zgetx fX7 14 r M (fun v => uX7_member R 29 [x0, x1, x2] (v :: st) M) := zU_step dX7_member_26 (Or.inl rfl)
theorem dX7_member_29 : decode cX7_member 29 = .ok (.getfield 119, 3) := by decide +kernel
theorem rX7_member_29 {R : zP} {x0 x1 x2 : Option zV} {st : List zV} {M : zM} {r : Nat} : uX7_member R 29 [x0, x1, x2] (.inr (.inr r) :: st) M ↔ zgetx fX7 119 r M (fun v => uX7_member R 32 [x0, x1, x2] (v :: st) M) := zU_step dX7_member_29 (Or.inl rfl)
theorem dX7_member_32 : decode cX7_member 32 = .ok (.iload_n 1, 1) := by decide +kernel
theorem rX7_member_32 {R : zP} {x0 x2 : Option zV} {st : List zV} {M : zM} {a : Int} : uX7_member R 32 [x0, some (.inl a), x2] st M ↔ uX7_member R 33 [x0, some (.inl a), x2] (.inl a :: st) M := zU_step dX7_member_32 (Or.inl rfl)
theorem dX7_member_33 : decode cX7_member 33 = .ok (.iconst 5, 1) := by decide +kernel
theorem rX7_member_33 {R : zP} {x0 x1 x2 : Option zV} {st : List zV} {M : zM} : uX7_member R 33 [x0, x1, x2] st M ↔ uX7_member R 34 [x0, x1, x2] (.inl (5) :: st) M := zU_step dX7_member_33 (Or.inl rfl)
theorem dX7_member_34 : decode cX7_member 34 = .ok (.imul, 1) := by decide +kernel
theorem rX7_member_34 {R : zP} {x0 x1 x2 : Option zV} {st : List zV} {M : zM} {a b : Int} : uX7_member R 34 [x0, x1, x2] (.inl b :: .inl a :: st) M ↔ uX7_member R 35 [x0, x1, x2] (.inl (a * b) :: st) M := zU_step dX7_member_34 (Or.inl rfl)
theorem dX7_member_35 : decode cX7_member 35 = .ok (.iload_n 2, 1) := by decide +kernel
theorem rX7_member_35 {R : zP} {x0 x1 : Option zV} {st : List zV} {M : zM} {a : Int} : uX7_member R 35 [x0, x1, some (.inl a)] st M ↔ uX7_member R 36 [x0, x1, some (.inl a)] (.inl a :: st) M := zU_step dX7_member_35 (Or.inl rfl)
theorem dX7_member_36 : decode cX7_member 36 = .ok (.iadd, 1) := by decide +kernel
theorem rX7_member_36 {R : zP} {x0 x1 x2 : Option zV} {st : List zV} {M : zM} {a b : Int} : uX7_member R 36 [x0, x1, x2] (.inl b :: .inl a :: st) M ↔ uX7_member R 37 [x0, x1, x2] (.inl (a + b) :: st) M := zU_step dX7_member_36 (Or.inl rfl)
theorem dX7_member_37 : decode cX7_member 37 = .ok (.iaload, 1) := by decide +kernel
theorem rX7_member_37 {R : zP} {x0 x1 x2 : Option zV} {st : List zV} {M : zM} {i : Int} {r : Nat} : uX7_member R 37 [x0, x1, x2] (.inl i :: .inr (.inr r) :: st) M ↔ zread fX7 0 r M i (fun v => uX7_member R 38 [x0, x1, x2] (.inl v :: st) M) := zU_step dX7_member_37 (Or.inl rfl)
theorem dX7_member_38 : decode cX7_member 38 = .ok (.ireturn, 1) := by decide +kernel
theorem rX7_member_38 {R : zP} {x0 x1 x2 : Option zV} {M : zM} {a : Int} : uX7_member R 38 [x0, x1, x2] [.inl a] M ↔ R (some (.inl a)) M := Iff.trans (zU_step dX7_member_38 (Or.inl rfl)) ⟨fun h => h.2.2, fun h => ⟨rfl, Or.inl rfl, h⟩⟩
theorem eX7_member {R : zP} {M : zM} {a0 : Nat} {p0 : Int} {p1 : Int} : tX7_member [.inr (.inr a0), .inl p0, .inl p1] M R ↔ uX7_member R 0 [some (.inr (.inr a0)), some (.inl p0), some (.inl p1)] [] M := ⟨fun h => h.2, fun h => ⟨show 3 ≤ 3 by decide, h⟩⟩
def uX7_cow (R : zP) : zK := zU fX7 vX7_cow cX7_cow R
theorem dX7_cow_0 : decode cX7_cow 0 = .ok (.iload_n 1, 1) := by decide +kernel
theorem rX7_cow_0 {R : zP} {x0 x2 : Option zV} {st : List zV} {M : zM} {a : Int} : uX7_cow R 0 [x0, some (.inl a), x2] st M ↔ uX7_cow R 1 [x0, some (.inl a), x2] (.inl a :: st) M := zU_step dX7_cow_0 (Or.inl rfl)
theorem dX7_cow_1 : decode cX7_cow 1 = .ok (.aload_n 0, 1) := by decide +kernel
theorem rX7_cow_1 {R : zP} {x1 x2 : Option zV} {st : List zV} {M : zM} {a : Nat} : uX7_cow R 1 [some (.inr (.inr a)), x1, x2] st M ↔ uX7_cow R 2 [some (.inr (.inr a)), x1, x2] (.inr (.inr a) :: st) M := zU_step dX7_cow_1 (Or.inl rfl)
theorem dX7_cow_2 : decode cX7_cow 2 = .ok (.getfield 22, 3) := by decide +kernel
theorem rX7_cow_2 {R : zP} {x0 x1 x2 : Option zV} {st : List zV} {M : zM} {r : Nat} : uX7_cow R 2 [x0, x1, x2] (.inr (.inr r) :: st) M ↔ zgetx fX7 22 r M (fun v => uX7_cow R 5 [x0, x1, x2] (v :: st) M) := zU_step dX7_cow_2 (Or.inl rfl)
theorem dX7_cow_5 : decode cX7_cow 5 = .ok (.getfield 116, 3) := by decide +kernel
theorem rX7_cow_5 {R : zP} {x0 x1 x2 : Option zV} {st : List zV} {M : zM} {r : Nat} : uX7_cow R 5 [x0, x1, x2] (.inr (.inr r) :: st) M ↔ zgetx fX7 116 r M (fun v => uX7_cow R 8 [x0, x1, x2] (v :: st) M) := zU_step dX7_cow_5 (Or.inl rfl)
theorem dX7_cow_8 : decode cX7_cow 8 = .ok (.invokestatic 94, 3) := by decide +kernel
theorem rX7_cow_8 {R : zP} {x0 x1 x2 : Option zV} {st : List zV} {M : zM} {a0 a1 : zV} : uX7_cow R 8 [x0, x1, x2] (a1 :: a0 :: st) M ↔ (st.length ≤ 4 ∧ zcv tX7_outside [a0, a1] M (fun v M => uX7_cow R 11 [x0, x1, x2] (v :: st) M)) := Iff.trans (zU_step dX7_cow_8 (Or.inl rfl)) ⟨fun h => ⟨h.2.1, zcv_of h.2.2⟩, fun h => ⟨rfl, h.1, zcv_to h.2⟩⟩
theorem dX7_cow_11 : decode cX7_cow 11 = .ok (.ifCond .ne 11, 3) := by decide +kernel
theorem rX7_cow_11 {R : zP} {x0 x1 x2 : Option zV} {st : List zV} {M : zM} {a : Int} : uX7_cow R 11 [x0, x1, x2] (.inl a :: st) M ↔ (zIR a ∧ if a ≠ 0 then uX7_cow R 22 [x0, x1, x2] st M else uX7_cow R 14 [x0, x1, x2] st M) := Iff.trans (zU_step dX7_cow_11 (Or.inl rfl)) ⟨fun h => ⟨h.1.1, (zite (c := a ≠ 0)).mpr h.2⟩, fun h => ⟨⟨h.1, by decide⟩, (zite (c := a ≠ 0)).mp h.2⟩⟩
theorem dX7_cow_14 : decode cX7_cow 14 = .ok (.iload_n 2, 1) := by decide +kernel
theorem rX7_cow_14 {R : zP} {x0 x1 : Option zV} {st : List zV} {M : zM} {a : Int} : uX7_cow R 14 [x0, x1, some (.inl a)] st M ↔ uX7_cow R 15 [x0, x1, some (.inl a)] (.inl a :: st) M := zU_step dX7_cow_14 (Or.inl rfl)
theorem dX7_cow_15 : decode cX7_cow 15 = .ok (.iconst 5, 1) := by decide +kernel
theorem rX7_cow_15 {R : zP} {x0 x1 x2 : Option zV} {st : List zV} {M : zM} : uX7_cow R 15 [x0, x1, x2] st M ↔ uX7_cow R 16 [x0, x1, x2] (.inl (5) :: st) M := zU_step dX7_cow_15 (Or.inl rfl)
theorem dX7_cow_16 : decode cX7_cow 16 = .ok (.invokestatic 94, 3) := by decide +kernel
theorem rX7_cow_16 {R : zP} {x0 x1 x2 : Option zV} {st : List zV} {M : zM} {a0 a1 : zV} : uX7_cow R 16 [x0, x1, x2] (a1 :: a0 :: st) M ↔ (st.length ≤ 4 ∧ zcv tX7_outside [a0, a1] M (fun v M => uX7_cow R 19 [x0, x1, x2] (v :: st) M)) := Iff.trans (zU_step dX7_cow_16 (Or.inl rfl)) ⟨fun h => ⟨h.2.1, zcv_of h.2.2⟩, fun h => ⟨rfl, h.1, zcv_to h.2⟩⟩
theorem dX7_cow_19 : decode cX7_cow 19 = .ok (.ifCond .eq 6, 3) := by decide +kernel
theorem rX7_cow_19 {R : zP} {x0 x1 x2 : Option zV} {st : List zV} {M : zM} {a : Int} : uX7_cow R 19 [x0, x1, x2] (.inl a :: st) M ↔ (zIR a ∧ if a = 0 then uX7_cow R 25 [x0, x1, x2] st M else uX7_cow R 22 [x0, x1, x2] st M) := Iff.trans (zU_step dX7_cow_19 (Or.inl rfl)) ⟨fun h => ⟨h.1.1, (zite (c := a = 0)).mpr h.2⟩, fun h => ⟨⟨h.1, by decide⟩, (zite (c := a = 0)).mp h.2⟩⟩
theorem dX7_cow_22 : decode cX7_cow 22 = .ok (.bipush (-2), 2) := by decide +kernel
theorem rX7_cow_22 {R : zP} {x0 x1 x2 : Option zV} {st : List zV} {M : zM} : uX7_cow R 22 [x0, x1, x2] st M ↔ uX7_cow R 24 [x0, x1, x2] (.inl (-2) :: st) M := Iff.trans (zU_step dX7_cow_22 (Or.inl rfl)) ⟨fun h => h.2, fun h => ⟨by decide, h⟩⟩
theorem dX7_cow_24 : decode cX7_cow 24 = .ok (.ireturn, 1) := by decide +kernel
theorem rX7_cow_24 {R : zP} {x0 x1 x2 : Option zV} {M : zM} {a : Int} : uX7_cow R 24 [x0, x1, x2] [.inl a] M ↔ R (some (.inl a)) M := Iff.trans (zU_step dX7_cow_24 (Or.inl rfl)) ⟨fun h => h.2.2, fun h => ⟨rfl, Or.inl rfl, h⟩⟩
theorem dX7_cow_25 : decode cX7_cow 25 = .ok (.aload_n 0, 1) := by decide +kernel
theorem rX7_cow_25 {R : zP} {x1 x2 : Option zV} {st : List zV} {M : zM} {a : Nat} : uX7_cow R 25 [some (.inr (.inr a)), x1, x2] st M ↔ uX7_cow R 26 [some (.inr (.inr a)), x1, x2] (.inr (.inr a) :: st) M := zU_step dX7_cow_25 (Or.inl rfl)
theorem dX7_cow_26 : decode cX7_cow 26 = .ok (.getfield 22, 3) := by decide +kernel
theorem rX7_cow_26 {R : zP} {x0 x1 x2 : Option zV} {st : List zV} {M : zM} {r : Nat} : uX7_cow R 26 [x0, x1, x2] (.inr (.inr r) :: st) M ↔ zgetx fX7 22 r M (fun v => uX7_cow R 29 [x0, x1, x2] (v :: st) M) := zU_step dX7_cow_26 (Or.inl rfl)
theorem dX7_cow_29 : decode cX7_cow 29 = .ok (.getfield 119, 3) := by decide +kernel
theorem rX7_cow_29 {R : zP} {x0 x1 x2 : Option zV} {st : List zV} {M : zM} {r : Nat} : uX7_cow R 29 [x0, x1, x2] (.inr (.inr r) :: st) M ↔ zgetx fX7 119 r M (fun v => uX7_cow R 32 [x0, x1, x2] (v :: st) M) := zU_step dX7_cow_29 (Or.inl rfl)
theorem dX7_cow_32 : decode cX7_cow 32 = .ok (.iload_n 1, 1) := by decide +kernel
theorem rX7_cow_32 {R : zP} {x0 x2 : Option zV} {st : List zV} {M : zM} {a : Int} : uX7_cow R 32 [x0, some (.inl a), x2] st M ↔ uX7_cow R 33 [x0, some (.inl a), x2] (.inl a :: st) M := zU_step dX7_cow_32 (Or.inl rfl)
theorem dX7_cow_33 : decode cX7_cow 33 = .ok (.iconst 5, 1) := by decide +kernel
theorem rX7_cow_33 {R : zP} {x0 x1 x2 : Option zV} {st : List zV} {M : zM} : uX7_cow R 33 [x0, x1, x2] st M ↔ uX7_cow R 34 [x0, x1, x2] (.inl (5) :: st) M := zU_step dX7_cow_33 (Or.inl rfl)
theorem dX7_cow_34 : decode cX7_cow 34 = .ok (.imul, 1) := by decide +kernel
theorem rX7_cow_34 {R : zP} {x0 x1 x2 : Option zV} {st : List zV} {M : zM} {a b : Int} : uX7_cow R 34 [x0, x1, x2] (.inl b :: .inl a :: st) M ↔ uX7_cow R 35 [x0, x1, x2] (.inl (a * b) :: st) M := zU_step dX7_cow_34 (Or.inl rfl)
theorem dX7_cow_35 : decode cX7_cow 35 = .ok (.iload_n 2, 1) := by decide +kernel
theorem rX7_cow_35 {R : zP} {x0 x1 : Option zV} {st : List zV} {M : zM} {a : Int} : uX7_cow R 35 [x0, x1, some (.inl a)] st M ↔ uX7_cow R 36 [x0, x1, some (.inl a)] (.inl a :: st) M := zU_step dX7_cow_35 (Or.inl rfl)
theorem dX7_cow_36 : decode cX7_cow 36 = .ok (.iadd, 1) := by decide +kernel
theorem rX7_cow_36 {R : zP} {x0 x1 x2 : Option zV} {st : List zV} {M : zM} {a b : Int} : uX7_cow R 36 [x0, x1, x2] (.inl b :: .inl a :: st) M ↔ uX7_cow R 37 [x0, x1, x2] (.inl (a + b) :: st) M := zU_step dX7_cow_36 (Or.inl rfl)
theorem dX7_cow_37 : decode cX7_cow 37 = .ok (.iaload, 1) := by decide +kernel
theorem rX7_cow_37 {R : zP} {x0 x1 x2 : Option zV} {st : List zV} {M : zM} {i : Int} {r : Nat} : uX7_cow R 37 [x0, x1, x2] (.inl i :: .inr (.inr r) :: st) M ↔ zread fX7 0 r M i (fun v => uX7_cow R 38 [x0, x1, x2] (.inl v :: st) M) := zU_step dX7_cow_37 (Or.inl rfl)
theorem dX7_cow_38 : decode cX7_cow 38 = .ok (.ireturn, 1) := by decide +kernel
theorem rX7_cow_38 {R : zP} {x0 x1 x2 : Option zV} {M : zM} {a : Int} : uX7_cow R 38 [x0, x1, x2] [.inl a] M ↔ R (some (.inl a)) M := Iff.trans (zU_step dX7_cow_38 (Or.inl rfl)) ⟨fun h => h.2.2, fun h => ⟨rfl, Or.inl rfl, h⟩⟩
theorem eX7_cow {R : zP} {M : zM} {a0 : Nat} {p0 : Int} {p1 : Int} : tX7_cow [.inr (.inr a0), .inl p0, .inl p1] M R ↔ uX7_cow R 0 [some (.inr (.inr a0)), some (.inl p0), some (.inl p1)] [] M := ⟨fun h => h.2, fun h => ⟨show 3 ≤ 3 by decide, h⟩⟩
def uX7_feed (R : zP) : zK := zU fX7 vX7_feed cX7_feed R
theorem dX7_feed_0 : decode cX7_feed 0 = .ok (.iload_n 1, 1) := by decide +kernel
theorem rX7_feed_0 {R : zP} {x0 x2 x3 : Option zV} {st : List zV} {M : zM} {a : Int} : uX7_feed R 0 [x0, some (.inl a), x2, x3] st M ↔ uX7_feed R 1 [x0, some (.inl a), x2, x3] (.inl a :: st) M := zU_step dX7_feed_0 (Or.inl rfl)
theorem dX7_feed_1 : decode cX7_feed 1 = .ok (.bipush 20, 2) := by decide +kernel
theorem rX7_feed_1 {R : zP} {x0 x1 x2 x3 : Option zV} {st : List zV} {M : zM} : uX7_feed R 1 [x0, x1, x2, x3] st M ↔ uX7_feed R 3 [x0, x1, x2, x3] (.inl (20) :: st) M := Iff.trans (zU_step dX7_feed_1 (Or.inl rfl)) ⟨fun h => h.2, fun h => ⟨by decide, h⟩⟩
theorem dX7_feed_3 : decode cX7_feed 3 = .ok (.invokestatic 94, 3) := by decide +kernel
theorem rX7_feed_3 {R : zP} {x0 x1 x2 x3 : Option zV} {st : List zV} {M : zM} {a0 a1 : zV} : uX7_feed R 3 [x0, x1, x2, x3] (a1 :: a0 :: st) M ↔ (st.length ≤ 4 ∧ zcv tX7_outside [a0, a1] M (fun v M => uX7_feed R 6 [x0, x1, x2, x3] (v :: st) M)) := Iff.trans (zU_step dX7_feed_3 (Or.inl rfl)) ⟨fun h => ⟨h.2.1, zcv_of h.2.2⟩, fun h => ⟨rfl, h.1, zcv_to h.2⟩⟩
theorem dX7_feed_6 : decode cX7_feed 6 = .ok (.ifCond .ne 21, 3) := by decide +kernel
theorem rX7_feed_6 {R : zP} {x0 x1 x2 x3 : Option zV} {st : List zV} {M : zM} {a : Int} : uX7_feed R 6 [x0, x1, x2, x3] (.inl a :: st) M ↔ (zIR a ∧ if a ≠ 0 then uX7_feed R 27 [x0, x1, x2, x3] st M else uX7_feed R 9 [x0, x1, x2, x3] st M) := Iff.trans (zU_step dX7_feed_6 (Or.inl rfl)) ⟨fun h => ⟨h.1.1, (zite (c := a ≠ 0)).mpr h.2⟩, fun h => ⟨⟨h.1, by decide⟩, (zite (c := a ≠ 0)).mp h.2⟩⟩
theorem dX7_feed_9 : decode cX7_feed 9 = .ok (.iload_n 2, 1) := by decide +kernel
theorem rX7_feed_9 {R : zP} {x0 x1 x3 : Option zV} {st : List zV} {M : zM} {a : Int} : uX7_feed R 9 [x0, x1, some (.inl a), x3] st M ↔ uX7_feed R 10 [x0, x1, some (.inl a), x3] (.inl a :: st) M := zU_step dX7_feed_9 (Or.inl rfl)
theorem dX7_feed_10 : decode cX7_feed 10 = .ok (.bipush 8, 2) := by decide +kernel
theorem rX7_feed_10 {R : zP} {x0 x1 x2 x3 : Option zV} {st : List zV} {M : zM} : uX7_feed R 10 [x0, x1, x2, x3] st M ↔ uX7_feed R 12 [x0, x1, x2, x3] (.inl (8) :: st) M := Iff.trans (zU_step dX7_feed_10 (Or.inl rfl)) ⟨fun h => h.2, fun h => ⟨by decide, h⟩⟩
theorem dX7_feed_12 : decode cX7_feed 12 = .ok (.invokestatic 94, 3) := by decide +kernel
theorem rX7_feed_12 {R : zP} {x0 x1 x2 x3 : Option zV} {st : List zV} {M : zM} {a0 a1 : zV} : uX7_feed R 12 [x0, x1, x2, x3] (a1 :: a0 :: st) M ↔ (st.length ≤ 4 ∧ zcv tX7_outside [a0, a1] M (fun v M => uX7_feed R 15 [x0, x1, x2, x3] (v :: st) M)) := Iff.trans (zU_step dX7_feed_12 (Or.inl rfl)) ⟨fun h => ⟨h.2.1, zcv_of h.2.2⟩, fun h => ⟨rfl, h.1, zcv_to h.2⟩⟩
theorem dX7_feed_15 : decode cX7_feed 15 = .ok (.ifCond .ne 12, 3) := by decide +kernel
theorem rX7_feed_15 {R : zP} {x0 x1 x2 x3 : Option zV} {st : List zV} {M : zM} {a : Int} : uX7_feed R 15 [x0, x1, x2, x3] (.inl a :: st) M ↔ (zIR a ∧ if a ≠ 0 then uX7_feed R 27 [x0, x1, x2, x3] st M else uX7_feed R 18 [x0, x1, x2, x3] st M) := Iff.trans (zU_step dX7_feed_15 (Or.inl rfl)) ⟨fun h => ⟨h.1.1, (zite (c := a ≠ 0)).mpr h.2⟩, fun h => ⟨⟨h.1, by decide⟩, (zite (c := a ≠ 0)).mp h.2⟩⟩
theorem dX7_feed_18 : decode cX7_feed 18 = .ok (.iload_n 3, 1) := by decide +kernel
theorem rX7_feed_18 {R : zP} {x0 x1 x2 : Option zV} {st : List zV} {M : zM} {a : Int} : uX7_feed R 18 [x0, x1, x2, some (.inl a)] st M ↔ uX7_feed R 19 [x0, x1, x2, some (.inl a)] (.inl a :: st) M := zU_step dX7_feed_18 (Or.inl rfl)
theorem dX7_feed_19 : decode cX7_feed 19 = .ok (.bipush 8, 2) := by decide +kernel
theorem rX7_feed_19 {R : zP} {x0 x1 x2 x3 : Option zV} {st : List zV} {M : zM} : uX7_feed R 19 [x0, x1, x2, x3] st M ↔ uX7_feed R 21 [x0, x1, x2, x3] (.inl (8) :: st) M := Iff.trans (zU_step dX7_feed_19 (Or.inl rfl)) ⟨fun h => h.2, fun h => ⟨by decide, h⟩⟩
theorem dX7_feed_21 : decode cX7_feed 21 = .ok (.invokestatic 94, 3) := by decide +kernel
theorem rX7_feed_21 {R : zP} {x0 x1 x2 x3 : Option zV} {st : List zV} {M : zM} {a0 a1 : zV} : uX7_feed R 21 [x0, x1, x2, x3] (a1 :: a0 :: st) M ↔ (st.length ≤ 4 ∧ zcv tX7_outside [a0, a1] M (fun v M => uX7_feed R 24 [x0, x1, x2, x3] (v :: st) M)) := Iff.trans (zU_step dX7_feed_21 (Or.inl rfl)) ⟨fun h => ⟨h.2.1, zcv_of h.2.2⟩, fun h => ⟨rfl, h.1, zcv_to h.2⟩⟩
theorem dX7_feed_24 : decode cX7_feed 24 = .ok (.ifCond .eq 6, 3) := by decide +kernel
theorem rX7_feed_24 {R : zP} {x0 x1 x2 x3 : Option zV} {st : List zV} {M : zM} {a : Int} : uX7_feed R 24 [x0, x1, x2, x3] (.inl a :: st) M ↔ (zIR a ∧ if a = 0 then uX7_feed R 30 [x0, x1, x2, x3] st M else uX7_feed R 27 [x0, x1, x2, x3] st M) := Iff.trans (zU_step dX7_feed_24 (Or.inl rfl)) ⟨fun h => ⟨h.1.1, (zite (c := a = 0)).mpr h.2⟩, fun h => ⟨⟨h.1, by decide⟩, (zite (c := a = 0)).mp h.2⟩⟩
theorem dX7_feed_27 : decode cX7_feed 27 = .ok (.bipush (-2), 2) := by decide +kernel
theorem rX7_feed_27 {R : zP} {x0 x1 x2 x3 : Option zV} {st : List zV} {M : zM} : uX7_feed R 27 [x0, x1, x2, x3] st M ↔ uX7_feed R 29 [x0, x1, x2, x3] (.inl (-2) :: st) M := Iff.trans (zU_step dX7_feed_27 (Or.inl rfl)) ⟨fun h => h.2, fun h => ⟨by decide, h⟩⟩
theorem dX7_feed_29 : decode cX7_feed 29 = .ok (.ireturn, 1) := by decide +kernel
theorem rX7_feed_29 {R : zP} {x0 x1 x2 x3 : Option zV} {M : zM} {a : Int} : uX7_feed R 29 [x0, x1, x2, x3] [.inl a] M ↔ R (some (.inl a)) M := Iff.trans (zU_step dX7_feed_29 (Or.inl rfl)) ⟨fun h => h.2.2, fun h => ⟨rfl, Or.inl rfl, h⟩⟩
theorem dX7_feed_30 : decode cX7_feed 30 = .ok (.aload_n 0, 1) := by decide +kernel
theorem rX7_feed_30 {R : zP} {x1 x2 x3 : Option zV} {st : List zV} {M : zM} {a : Nat} : uX7_feed R 30 [some (.inr (.inr a)), x1, x2, x3] st M ↔ uX7_feed R 31 [some (.inr (.inr a)), x1, x2, x3] (.inr (.inr a) :: st) M := zU_step dX7_feed_30 (Or.inl rfl)
theorem dX7_feed_31 : decode cX7_feed 31 = .ok (.getfield 28, 3) := by decide +kernel
theorem rX7_feed_31 {R : zP} {x0 x1 x2 x3 : Option zV} {st : List zV} {M : zM} {r : Nat} : uX7_feed R 31 [x0, x1, x2, x3] (.inr (.inr r) :: st) M ↔ zgetx fX7 28 r M (fun v => uX7_feed R 34 [x0, x1, x2, x3] (v :: st) M) := zU_step dX7_feed_31 (Or.inl rfl)
theorem dX7_feed_34 : decode cX7_feed 34 = .ok (.iload_n 1, 1) := by decide +kernel
theorem rX7_feed_34 {R : zP} {x0 x2 x3 : Option zV} {st : List zV} {M : zM} {a : Int} : uX7_feed R 34 [x0, some (.inl a), x2, x3] st M ↔ uX7_feed R 35 [x0, some (.inl a), x2, x3] (.inl a :: st) M := zU_step dX7_feed_34 (Or.inl rfl)
theorem dX7_feed_35 : decode cX7_feed 35 = .ok (.iload_n 2, 1) := by decide +kernel
theorem rX7_feed_35 {R : zP} {x0 x1 x3 : Option zV} {st : List zV} {M : zM} {a : Int} : uX7_feed R 35 [x0, x1, some (.inl a), x3] st M ↔ uX7_feed R 36 [x0, x1, some (.inl a), x3] (.inl a :: st) M := zU_step dX7_feed_35 (Or.inl rfl)
theorem dX7_feed_36 : decode cX7_feed 36 = .ok (.iload_n 3, 1) := by decide +kernel
theorem rX7_feed_36 {R : zP} {x0 x1 x2 : Option zV} {st : List zV} {M : zM} {a : Int} : uX7_feed R 36 [x0, x1, x2, some (.inl a)] st M ↔ uX7_feed R 37 [x0, x1, x2, some (.inl a)] (.inl a :: st) M := zU_step dX7_feed_36 (Or.inl rfl)
theorem dX7_feed_37 : decode cX7_feed 37 = .ok (.invokevirtual 122, 3) := by decide +kernel
theorem rX7_feed_37 {R : zP} {x0 x1 x2 x3 : Option zV} {st : List zV} {M : zM} {a0 a1 a2 a3 : zV} : uX7_feed R 37 [x0, x1, x2, x3] (a3 :: a2 :: a1 :: a0 :: st) M ↔ (st.length ≤ 4 ∧ zcv (zv 4 tX4_add) [a0, a1, a2, a3] M (fun v M => uX7_feed R 40 [x0, x1, x2, x3] (v :: st) M)) := Iff.trans (zU_step dX7_feed_37 (Or.inl rfl)) ⟨fun h => ⟨h.2.1, zcv_of h.2.2⟩, fun h => ⟨rfl, h.1, zcv_to h.2⟩⟩
theorem dX7_feed_40 : decode cX7_feed 40 = .ok (.ireturn, 1) := by decide +kernel
theorem rX7_feed_40 {R : zP} {x0 x1 x2 x3 : Option zV} {M : zM} {a : Int} : uX7_feed R 40 [x0, x1, x2, x3] [.inl a] M ↔ R (some (.inl a)) M := Iff.trans (zU_step dX7_feed_40 (Or.inl rfl)) ⟨fun h => h.2.2, fun h => ⟨rfl, Or.inl rfl, h⟩⟩
theorem eX7_feed {R : zP} {M : zM} {a0 : Nat} {p0 : Int} {p1 : Int} {p2 : Int} : tX7_feed [.inr (.inr a0), .inl p0, .inl p1, .inl p2] M R ↔ uX7_feed R 0 [some (.inr (.inr a0)), some (.inl p0), some (.inl p1), some (.inl p2)] [] M := ⟨fun h => h.2, fun h => ⟨show 4 ≤ 4 by decide, h⟩⟩
def uX7_back (R : zP) : zK := zU fX7 vX7_back cX7_back R
theorem dX7_back_0 : decode cX7_back 0 = .ok (.aload_n 0, 1) := by decide +kernel
theorem rX7_back_0 {R : zP} {st : List zV} {M : zM} {a : Nat} : uX7_back R 0 [some (.inr (.inr a))] st M ↔ uX7_back R 1 [some (.inr (.inr a))] (.inr (.inr a) :: st) M := zU_step dX7_back_0 (Or.inl rfl)
theorem dX7_back_1 : decode cX7_back 1 = .ok (.getfield 28, 3) := by decide +kernel
theorem rX7_back_1 {R : zP} {x0 : Option zV} {st : List zV} {M : zM} {r : Nat} : uX7_back R 1 [x0] (.inr (.inr r) :: st) M ↔ zgetx fX7 28 r M (fun v => uX7_back R 4 [x0] (v :: st) M) := zU_step dX7_back_1 (Or.inl rfl)
theorem dX7_back_4 : decode cX7_back 4 = .ok (.invokevirtual 126, 3) := by decide +kernel
theorem rX7_back_4 {R : zP} {x0 : Option zV} {st : List zV} {M : zM} {a0 : zV} : uX7_back R 4 [x0] (a0 :: st) M ↔ (st.length ≤ 4 ∧ zcv (zv 4 tX4_dropLast) [a0] M (fun v M => uX7_back R 7 [x0] (v :: st) M)) := Iff.trans (zU_step dX7_back_4 (Or.inl rfl)) ⟨fun h => ⟨h.2.1, zcv_of h.2.2⟩, fun h => ⟨rfl, h.1, zcv_to h.2⟩⟩
theorem dX7_back_7 : decode cX7_back 7 = .ok (.ireturn, 1) := by decide +kernel
theorem rX7_back_7 {R : zP} {x0 : Option zV} {M : zM} {a : Int} : uX7_back R 7 [x0] [.inl a] M ↔ R (some (.inl a)) M := Iff.trans (zU_step dX7_back_7 (Or.inl rfl)) ⟨fun h => h.2.2, fun h => ⟨rfl, Or.inl rfl, h⟩⟩
theorem eX7_back {R : zP} {M : zM} {a0 : Nat} : tX7_back [.inr (.inr a0)] M R ↔ uX7_back R 0 [some (.inr (.inr a0))] [] M := ⟨fun h => h.2, fun h => ⟨show 1 ≤ 1 by decide, h⟩⟩
def uX7_finding (R : zP) : zK := zU fX7 vX7_finding cX7_finding R
theorem dX7_finding_0 : decode cX7_finding 0 = .ok (.aload_n 0, 1) := by decide +kernel
theorem rX7_finding_0 {R : zP} {x1 : Option zV} {st : List zV} {M : zM} {a : Nat} : uX7_finding R 0 [some (.inr (.inr a)), x1] st M ↔ uX7_finding R 1 [some (.inr (.inr a)), x1] (.inr (.inr a) :: st) M := zU_step dX7_finding_0 (Or.inl rfl)
theorem dX7_finding_1 : decode cX7_finding 1 = .ok (.iload_n 1, 1) := by decide +kernel
theorem rX7_finding_1 {R : zP} {x0 : Option zV} {st : List zV} {M : zM} {a : Int} : uX7_finding R 1 [x0, some (.inl a)] st M ↔ uX7_finding R 2 [x0, some (.inl a)] (.inl a :: st) M := zU_step dX7_finding_1 (Or.inl rfl)
theorem dX7_finding_2 : decode cX7_finding 2 = .ok (.putfield 48, 3) := by decide +kernel
theorem rX7_finding_2 {R : zP} {x0 x1 : Option zV} {st : List zV} {M : zM} {r : Nat} {v : zV} : uX7_finding R 2 [x0, x1] (v :: .inr (.inr r) :: st) M ↔ zputx fX7 48 r M v (fun M => uX7_finding R 5 [x0, x1] st M) := zU_step dX7_finding_2 (Or.inl rfl)
theorem dX7_finding_5 : decode cX7_finding 5 = .ok (.bipush (-10), 2) := by decide +kernel
theorem rX7_finding_5 {R : zP} {x0 x1 : Option zV} {st : List zV} {M : zM} : uX7_finding R 5 [x0, x1] st M ↔ uX7_finding R 7 [x0, x1] (.inl (-10) :: st) M := Iff.trans (zU_step dX7_finding_5 (Or.inl rfl)) ⟨fun h => h.2, fun h => ⟨by decide, h⟩⟩
theorem dX7_finding_7 : decode cX7_finding 7 = .ok (.iload_n 1, 1) := by decide +kernel
theorem rX7_finding_7 {R : zP} {x0 : Option zV} {st : List zV} {M : zM} {a : Int} : uX7_finding R 7 [x0, some (.inl a)] st M ↔ uX7_finding R 8 [x0, some (.inl a)] (.inl a :: st) M := zU_step dX7_finding_7 (Or.inl rfl)
theorem dX7_finding_8 : decode cX7_finding 8 = .ok (.isub, 1) := by decide +kernel
theorem rX7_finding_8 {R : zP} {x0 x1 : Option zV} {st : List zV} {M : zM} {a b : Int} : uX7_finding R 8 [x0, x1] (.inl b :: .inl a :: st) M ↔ uX7_finding R 9 [x0, x1] (.inl (a - b) :: st) M := zU_step dX7_finding_8 (Or.inl rfl)
theorem dX7_finding_9 : decode cX7_finding 9 = .ok (.ireturn, 1) := by decide +kernel
theorem rX7_finding_9 {R : zP} {x0 x1 : Option zV} {M : zM} {a : Int} : uX7_finding R 9 [x0, x1] [.inl a] M ↔ R (some (.inl a)) M := Iff.trans (zU_step dX7_finding_9 (Or.inl rfl)) ⟨fun h => h.2.2, fun h => ⟨rfl, Or.inl rfl, h⟩⟩
theorem eX7_finding {R : zP} {M : zM} {a0 : Nat} {p0 : Int} : tX7_finding [.inr (.inr a0), .inl p0] M R ↔ uX7_finding R 0 [some (.inr (.inr a0)), some (.inl p0)] [] M := ⟨fun h => h.2, fun h => ⟨show 2 ≤ 2 by decide, h⟩⟩
def uX7_read (R : zP) : zK := zU fX7 vX7_read cX7_read R
theorem dX7_read_0 : decode cX7_read 0 = .ok (.iload_n 1, 1) := by decide +kernel
theorem rX7_read_0 {R : zP} {x0 x2 x3 x4 : Option zV} {st : List zV} {M : zM} {a : Int} : uX7_read R 0 [x0, some (.inl a), x2, x3, x4] st M ↔ uX7_read R 1 [x0, some (.inl a), x2, x3, x4] (.inl a :: st) M := zU_step dX7_read_0 (Or.inl rfl)
theorem dX7_read_1 : decode cX7_read 1 = .ok (.iconst 4, 1) := by decide +kernel
theorem rX7_read_1 {R : zP} {x0 x1 x2 x3 x4 : Option zV} {st : List zV} {M : zM} : uX7_read R 1 [x0, x1, x2, x3, x4] st M ↔ uX7_read R 2 [x0, x1, x2, x3, x4] (.inl (4) :: st) M := zU_step dX7_read_1 (Or.inl rfl)
theorem dX7_read_2 : decode cX7_read 2 = .ok (.invokestatic 94, 3) := by decide +kernel
theorem rX7_read_2 {R : zP} {x0 x1 x2 x3 x4 : Option zV} {st : List zV} {M : zM} {a0 a1 : zV} : uX7_read R 2 [x0, x1, x2, x3, x4] (a1 :: a0 :: st) M ↔ (st.length ≤ 4 ∧ zcv tX7_outside [a0, a1] M (fun v M => uX7_read R 5 [x0, x1, x2, x3, x4] (v :: st) M)) := Iff.trans (zU_step dX7_read_2 (Or.inl rfl)) ⟨fun h => ⟨h.2.1, zcv_of h.2.2⟩, fun h => ⟨rfl, h.1, zcv_to h.2⟩⟩
theorem dX7_read_5 : decode cX7_read 5 = .ok (.ifCond .eq 6, 3) := by decide +kernel
theorem rX7_read_5 {R : zP} {x0 x1 x2 x3 x4 : Option zV} {st : List zV} {M : zM} {a : Int} : uX7_read R 5 [x0, x1, x2, x3, x4] (.inl a :: st) M ↔ (zIR a ∧ if a = 0 then uX7_read R 11 [x0, x1, x2, x3, x4] st M else uX7_read R 8 [x0, x1, x2, x3, x4] st M) := Iff.trans (zU_step dX7_read_5 (Or.inl rfl)) ⟨fun h => ⟨h.1.1, (zite (c := a = 0)).mpr h.2⟩, fun h => ⟨⟨h.1, by decide⟩, (zite (c := a = 0)).mp h.2⟩⟩
theorem dX7_read_8 : decode cX7_read 8 = .ok (.bipush (-2), 2) := by decide +kernel
theorem rX7_read_8 {R : zP} {x0 x1 x2 x3 x4 : Option zV} {st : List zV} {M : zM} : uX7_read R 8 [x0, x1, x2, x3, x4] st M ↔ uX7_read R 10 [x0, x1, x2, x3, x4] (.inl (-2) :: st) M := Iff.trans (zU_step dX7_read_8 (Or.inl rfl)) ⟨fun h => h.2, fun h => ⟨by decide, h⟩⟩
theorem dX7_read_10 : decode cX7_read 10 = .ok (.ireturn, 1) := by decide +kernel
theorem rX7_read_10 {R : zP} {x0 x1 x2 x3 x4 : Option zV} {M : zM} {a : Int} : uX7_read R 10 [x0, x1, x2, x3, x4] [.inl a] M ↔ R (some (.inl a)) M := Iff.trans (zU_step dX7_read_10 (Or.inl rfl)) ⟨fun h => h.2.2, fun h => ⟨rfl, Or.inl rfl, h⟩⟩
theorem dX7_read_11 : decode cX7_read 11 = .ok (.aload_n 0, 1) := by decide +kernel
theorem rX7_read_11 {R : zP} {x1 x2 x3 x4 : Option zV} {st : List zV} {M : zM} {a : Nat} : uX7_read R 11 [some (.inr (.inr a)), x1, x2, x3, x4] st M ↔ uX7_read R 12 [some (.inr (.inr a)), x1, x2, x3, x4] (.inr (.inr a) :: st) M := zU_step dX7_read_11 (Or.inl rfl)
theorem dX7_read_12 : decode cX7_read 12 = .ok (.getfield 44, 3) := by decide +kernel
theorem rX7_read_12 {R : zP} {x0 x1 x2 x3 x4 : Option zV} {st : List zV} {M : zM} {r : Nat} : uX7_read R 12 [x0, x1, x2, x3, x4] (.inr (.inr r) :: st) M ↔ zgetx fX7 44 r M (fun v => uX7_read R 15 [x0, x1, x2, x3, x4] (v :: st) M) := zU_step dX7_read_12 (Or.inl rfl)
theorem dX7_read_15 : decode cX7_read 15 = .ok (.iload_n 1, 1) := by decide +kernel
theorem rX7_read_15 {R : zP} {x0 x2 x3 x4 : Option zV} {st : List zV} {M : zM} {a : Int} : uX7_read R 15 [x0, some (.inl a), x2, x3, x4] st M ↔ uX7_read R 16 [x0, some (.inl a), x2, x3, x4] (.inl a :: st) M := zU_step dX7_read_15 (Or.inl rfl)
theorem dX7_read_16 : decode cX7_read 16 = .ok (.aaload, 1) := by decide +kernel
theorem rX7_read_16 {R : zP} {x0 x1 x2 x3 x4 : Option zV} {st : List zV} {M : zM} {i : Int} {r : Nat} : uX7_read R 16 [x0, x1, x2, x3, x4] (.inl i :: .inr (.inr r) :: st) M ↔ zopt (zrow r) (fun rs => (0 ≤ i ∧ i < rs.length) ∧ uX7_read R 17 [x0, x1, x2, x3, x4] (.inr (.inr (rs.getD i.toNat 0)) :: st) M) := zU_step dX7_read_16 (Or.inl rfl)
theorem dX7_read_17 : decode cX7_read 17 = .ok (.astore_n 2, 1) := by decide +kernel
theorem rX7_read_17 {R : zP} {x0 x2 x3 x4 : Option zV} {st : List zV} {M : zM} {a : Nat} {y : Int} : uX7_read R 17 [x0, some (.inl y), x2, x3, x4] (.inr (.inr a) :: st) M ↔ uX7_read R 18 [x0, some (.inl y), some (.inr (.inr a)), x3, x4] st M := Iff.trans (zU_step dX7_read_17 (Or.inl rfl)) ⟨fun h => h.2, fun h => ⟨show 2 < 5 by decide, h⟩⟩
theorem rX7_read_17z {R : zP} {x0 x1 x2 x3 x4 : Option zV} {st : List zV} {M : zM} {a : Nat} : uX7_read R 17 [x0, x1, x2, x3, x4] (.inr (.inr a) :: st) M ↔ uX7_read R 18 [x0, zkeep x1, some (.inr (.inr a)), x3, x4] st M := Iff.trans (zU_step dX7_read_17 (Or.inl rfl)) ⟨fun h => h.2, fun h => ⟨show 2 < 5 by decide, h⟩⟩
theorem dX7_read_18 : decode cX7_read 18 = .ok (.aload_n 2, 1) := by decide +kernel
theorem rX7_read_18 {R : zP} {x0 x1 x3 x4 : Option zV} {st : List zV} {M : zM} {a : Nat} : uX7_read R 18 [x0, x1, some (.inr (.inr a)), x3, x4] st M ↔ uX7_read R 19 [x0, x1, some (.inr (.inr a)), x3, x4] (.inr (.inr a) :: st) M := zU_step dX7_read_18 (Or.inl rfl)
theorem dX7_read_19 : decode cX7_read 19 = .ok (.invokevirtual 127, 3) := by decide +kernel
theorem rX7_read_19 {R : zP} {x0 x1 x2 x3 x4 : Option zV} {st : List zV} {M : zM} {a0 : zV} : uX7_read R 19 [x0, x1, x2, x3, x4] (a0 :: st) M ↔ (st.length ≤ 4 ∧ zcv (zv 1 tX1_isLost) [a0] M (fun v M => uX7_read R 22 [x0, x1, x2, x3, x4] (v :: st) M)) := Iff.trans (zU_step dX7_read_19 (Or.inl rfl)) ⟨fun h => ⟨h.2.1, zcv_of h.2.2⟩, fun h => ⟨rfl, h.1, zcv_to h.2⟩⟩
theorem dX7_read_22 : decode cX7_read 22 = .ok (.ifCond .eq 9, 3) := by decide +kernel
theorem rX7_read_22 {R : zP} {x0 x1 x2 x3 x4 : Option zV} {st : List zV} {M : zM} {a : Int} : uX7_read R 22 [x0, x1, x2, x3, x4] (.inl a :: st) M ↔ (zIR a ∧ if a = 0 then uX7_read R 31 [x0, x1, x2, x3, x4] st M else uX7_read R 25 [x0, x1, x2, x3, x4] st M) := Iff.trans (zU_step dX7_read_22 (Or.inl rfl)) ⟨fun h => ⟨h.1.1, (zite (c := a = 0)).mpr h.2⟩, fun h => ⟨⟨h.1, by decide⟩, (zite (c := a = 0)).mp h.2⟩⟩
theorem dX7_read_25 : decode cX7_read 25 = .ok (.aload_n 0, 1) := by decide +kernel
theorem rX7_read_25 {R : zP} {x1 x2 x3 x4 : Option zV} {st : List zV} {M : zM} {a : Nat} : uX7_read R 25 [some (.inr (.inr a)), x1, x2, x3, x4] st M ↔ uX7_read R 26 [some (.inr (.inr a)), x1, x2, x3, x4] (.inr (.inr a) :: st) M := zU_step dX7_read_25 (Or.inl rfl)
theorem dX7_read_26 : decode cX7_read 26 = .ok (.iconst 1, 1) := by decide +kernel
theorem rX7_read_26 {R : zP} {x0 x1 x2 x3 x4 : Option zV} {st : List zV} {M : zM} : uX7_read R 26 [x0, x1, x2, x3, x4] st M ↔ uX7_read R 27 [x0, x1, x2, x3, x4] (.inl (1) :: st) M := zU_step dX7_read_26 (Or.inl rfl)
theorem dX7_read_27 : decode cX7_read 27 = .ok (.invokevirtual 131, 3) := by decide +kernel
theorem rX7_read_27 {R : zP} {x0 x1 x2 x3 x4 : Option zV} {st : List zV} {M : zM} {a0 a1 : zV} : uX7_read R 27 [x0, x1, x2, x3, x4] (a1 :: a0 :: st) M ↔ (st.length ≤ 4 ∧ zcv (zv 7 tX7_finding) [a0, a1] M (fun v M => uX7_read R 30 [x0, x1, x2, x3, x4] (v :: st) M)) := Iff.trans (zU_step dX7_read_27 (Or.inl rfl)) ⟨fun h => ⟨h.2.1, zcv_of h.2.2⟩, fun h => ⟨rfl, h.1, zcv_to h.2⟩⟩
theorem dX7_read_30 : decode cX7_read 30 = .ok (.ireturn, 1) := by decide +kernel
theorem rX7_read_30 {R : zP} {x0 x1 x2 x3 x4 : Option zV} {M : zM} {a : Int} : uX7_read R 30 [x0, x1, x2, x3, x4] [.inl a] M ↔ R (some (.inl a)) M := Iff.trans (zU_step dX7_read_30 (Or.inl rfl)) ⟨fun h => h.2.2, fun h => ⟨rfl, Or.inl rfl, h⟩⟩
theorem dX7_read_31 : decode cX7_read 31 = .ok (.iconst 0, 1) := by decide +kernel
theorem rX7_read_31 {R : zP} {x0 x1 x2 x3 x4 : Option zV} {st : List zV} {M : zM} : uX7_read R 31 [x0, x1, x2, x3, x4] st M ↔ uX7_read R 32 [x0, x1, x2, x3, x4] (.inl (0) :: st) M := zU_step dX7_read_31 (Or.inl rfl)
theorem dX7_read_32 : decode cX7_read 32 = .ok (.istore_n 3, 1) := by decide +kernel
theorem rX7_read_32 {R : zP} {x0 x1 x3 x4 : Option zV} {st : List zV} {M : zM} {a : Int} {y : Nat} : uX7_read R 32 [x0, x1, some (.inr (.inr y)), x3, x4] (.inl a :: st) M ↔ uX7_read R 33 [x0, x1, some (.inr (.inr y)), some (.inl a), x4] st M := Iff.trans (zU_step dX7_read_32 (Or.inl rfl)) ⟨fun h => h.2, fun h => ⟨show 3 < 5 by decide, h⟩⟩
theorem rX7_read_32z {R : zP} {x0 x1 x2 x3 x4 : Option zV} {st : List zV} {M : zM} {a : Int} : uX7_read R 32 [x0, x1, x2, x3, x4] (.inl a :: st) M ↔ uX7_read R 33 [x0, x1, zkeep x2, some (.inl a), x4] st M := Iff.trans (zU_step dX7_read_32 (Or.inl rfl)) ⟨fun h => h.2, fun h => ⟨show 3 < 5 by decide, h⟩⟩
theorem dX7_read_33 : decode cX7_read 33 = .ok (.iconst 0, 1) := by decide +kernel
theorem rX7_read_33 {R : zP} {x0 x1 x2 x3 x4 : Option zV} {st : List zV} {M : zM} : uX7_read R 33 [x0, x1, x2, x3, x4] st M ↔ uX7_read R 34 [x0, x1, x2, x3, x4] (.inl (0) :: st) M := zU_step dX7_read_33 (Or.inl rfl)
theorem dX7_read_34 : decode cX7_read 34 = .ok (.istore 4, 2) := by decide +kernel
theorem rX7_read_34 {R : zP} {x0 x1 x2 x4 : Option zV} {st : List zV} {M : zM} {a : Int} {y : Int} : uX7_read R 34 [x0, x1, x2, some (.inl y), x4] (.inl a :: st) M ↔ uX7_read R 36 [x0, x1, x2, some (.inl y), some (.inl a)] st M := Iff.trans (zU_step dX7_read_34 (Or.inl rfl)) ⟨fun h => h.2, fun h => ⟨show 4 < 5 by decide, h⟩⟩
theorem rX7_read_34z {R : zP} {x0 x1 x2 x3 x4 : Option zV} {st : List zV} {M : zM} {a : Int} : uX7_read R 34 [x0, x1, x2, x3, x4] (.inl a :: st) M ↔ uX7_read R 36 [x0, x1, x2, zkeep x3, some (.inl a)] st M := Iff.trans (zU_step dX7_read_34 (Or.inl rfl)) ⟨fun h => h.2, fun h => ⟨show 4 < 5 by decide, h⟩⟩
theorem dX7_read_36 : decode cX7_read 36 = .ok (.iload 4, 2) := by decide +kernel
theorem rX7_read_36 {R : zP} {x0 x1 x2 x3 : Option zV} {st : List zV} {M : zM} {a : Int} : uX7_read R 36 [x0, x1, x2, x3, some (.inl a)] st M ↔ uX7_read R 38 [x0, x1, x2, x3, some (.inl a)] (.inl a :: st) M := zU_step dX7_read_36 (Or.inl rfl)
theorem dX7_read_38 : decode cX7_read 38 = .ok (.iconst 2, 1) := by decide +kernel
theorem rX7_read_38 {R : zP} {x0 x1 x2 x3 x4 : Option zV} {st : List zV} {M : zM} : uX7_read R 38 [x0, x1, x2, x3, x4] st M ↔ uX7_read R 39 [x0, x1, x2, x3, x4] (.inl (2) :: st) M := zU_step dX7_read_38 (Or.inl rfl)
theorem dX7_read_39 : decode cX7_read 39 = .ok (.iadd, 1) := by decide +kernel
theorem rX7_read_39 {R : zP} {x0 x1 x2 x3 x4 : Option zV} {st : List zV} {M : zM} {a b : Int} : uX7_read R 39 [x0, x1, x2, x3, x4] (.inl b :: .inl a :: st) M ↔ uX7_read R 40 [x0, x1, x2, x3, x4] (.inl (a + b) :: st) M := zU_step dX7_read_39 (Or.inl rfl)
theorem dX7_read_40 : decode cX7_read 40 = .ok (.aload_n 2, 1) := by decide +kernel
theorem rX7_read_40 {R : zP} {x0 x1 x3 x4 : Option zV} {st : List zV} {M : zM} {a : Nat} : uX7_read R 40 [x0, x1, some (.inr (.inr a)), x3, x4] st M ↔ uX7_read R 41 [x0, x1, some (.inr (.inr a)), x3, x4] (.inr (.inr a) :: st) M := zU_step dX7_read_40 (Or.inl rfl)
theorem dX7_read_41 : decode cX7_read 41 = .ok (.getfield 134, 3) := by decide +kernel
theorem rX7_read_41 {R : zP} {x0 x1 x2 x3 x4 : Option zV} {st : List zV} {M : zM} {r : Nat} : uX7_read R 41 [x0, x1, x2, x3, x4] (.inr (.inr r) :: st) M ↔ zgetx fX7 134 r M (fun v => uX7_read R 44 [x0, x1, x2, x3, x4] (v :: st) M) := zU_step dX7_read_41 (Or.inl rfl)
theorem dX7_read_44 : decode cX7_read 44 = .ok (.if_icmp .ge 47, 3) := by decide +kernel
theorem rX7_read_44 {R : zP} {x0 x1 x2 x3 x4 : Option zV} {st : List zV} {M : zM} {a b : Int} : uX7_read R 44 [x0, x1, x2, x3, x4] (.inl b :: .inl a :: st) M ↔ ((zIR a ∧ zIR b) ∧ if b ≤ a then uX7_read R 91 [x0, x1, x2, x3, x4] st M else uX7_read R 47 [x0, x1, x2, x3, x4] st M) := Iff.trans (zU_step dX7_read_44 (Or.inl rfl)) ⟨fun h => ⟨⟨h.1.1, h.1.2.1⟩, (zite (c := b ≤ a)).mpr h.2⟩, fun h => ⟨⟨h.1.1, h.1.2, by decide⟩, (zite (c := b ≤ a)).mp h.2⟩⟩
theorem dX7_read_47 : decode cX7_read 47 = .ok (.aload_n 0, 1) := by decide +kernel
theorem rX7_read_47 {R : zP} {x1 x2 x3 x4 : Option zV} {st : List zV} {M : zM} {a : Nat} : uX7_read R 47 [some (.inr (.inr a)), x1, x2, x3, x4] st M ↔ uX7_read R 48 [some (.inr (.inr a)), x1, x2, x3, x4] (.inr (.inr a) :: st) M := zU_step dX7_read_47 (Or.inl rfl)
theorem dX7_read_48 : decode cX7_read 48 = .ok (.aload_n 2, 1) := by decide +kernel
theorem rX7_read_48 {R : zP} {x0 x1 x3 x4 : Option zV} {st : List zV} {M : zM} {a : Nat} : uX7_read R 48 [x0, x1, some (.inr (.inr a)), x3, x4] st M ↔ uX7_read R 49 [x0, x1, some (.inr (.inr a)), x3, x4] (.inr (.inr a) :: st) M := zU_step dX7_read_48 (Or.inl rfl)
theorem dX7_read_49 : decode cX7_read 49 = .ok (.getfield 137, 3) := by decide +kernel
theorem rX7_read_49 {R : zP} {x0 x1 x2 x3 x4 : Option zV} {st : List zV} {M : zM} {r : Nat} : uX7_read R 49 [x0, x1, x2, x3, x4] (.inr (.inr r) :: st) M ↔ zgetx fX7 137 r M (fun v => uX7_read R 52 [x0, x1, x2, x3, x4] (v :: st) M) := zU_step dX7_read_49 (Or.inl rfl)
theorem dX7_read_52 : decode cX7_read 52 = .ok (.iload 4, 2) := by decide +kernel
theorem rX7_read_52 {R : zP} {x0 x1 x2 x3 : Option zV} {st : List zV} {M : zM} {a : Int} : uX7_read R 52 [x0, x1, x2, x3, some (.inl a)] st M ↔ uX7_read R 54 [x0, x1, x2, x3, some (.inl a)] (.inl a :: st) M := zU_step dX7_read_52 (Or.inl rfl)
theorem dX7_read_54 : decode cX7_read 54 = .ok (.iaload, 1) := by decide +kernel
theorem rX7_read_54 {R : zP} {x0 x1 x2 x3 x4 : Option zV} {st : List zV} {M : zM} {i : Int} {r : Nat} : uX7_read R 54 [x0, x1, x2, x3, x4] (.inl i :: .inr (.inr r) :: st) M ↔ zread fX7 0 r M i (fun v => uX7_read R 55 [x0, x1, x2, x3, x4] (.inl v :: st) M) := zU_step dX7_read_54 (Or.inl rfl)
theorem dX7_read_55 : decode cX7_read 55 = .ok (.aload_n 2, 1) := by decide +kernel
theorem rX7_read_55 {R : zP} {x0 x1 x3 x4 : Option zV} {st : List zV} {M : zM} {a : Nat} : uX7_read R 55 [x0, x1, some (.inr (.inr a)), x3, x4] st M ↔ uX7_read R 56 [x0, x1, some (.inr (.inr a)), x3, x4] (.inr (.inr a) :: st) M := zU_step dX7_read_55 (Or.inl rfl)
theorem dX7_read_56 : decode cX7_read 56 = .ok (.getfield 137, 3) := by decide +kernel
theorem rX7_read_56 {R : zP} {x0 x1 x2 x3 x4 : Option zV} {st : List zV} {M : zM} {r : Nat} : uX7_read R 56 [x0, x1, x2, x3, x4] (.inr (.inr r) :: st) M ↔ zgetx fX7 137 r M (fun v => uX7_read R 59 [x0, x1, x2, x3, x4] (v :: st) M) := zU_step dX7_read_56 (Or.inl rfl)
theorem dX7_read_59 : decode cX7_read 59 = .ok (.iload 4, 2) := by decide +kernel
theorem rX7_read_59 {R : zP} {x0 x1 x2 x3 : Option zV} {st : List zV} {M : zM} {a : Int} : uX7_read R 59 [x0, x1, x2, x3, some (.inl a)] st M ↔ uX7_read R 61 [x0, x1, x2, x3, some (.inl a)] (.inl a :: st) M := zU_step dX7_read_59 (Or.inl rfl)
theorem dX7_read_61 : decode cX7_read 61 = .ok (.iconst 1, 1) := by decide +kernel
theorem rX7_read_61 {R : zP} {x0 x1 x2 x3 x4 : Option zV} {st : List zV} {M : zM} : uX7_read R 61 [x0, x1, x2, x3, x4] st M ↔ uX7_read R 62 [x0, x1, x2, x3, x4] (.inl (1) :: st) M := zU_step dX7_read_61 (Or.inl rfl)
theorem dX7_read_62 : decode cX7_read 62 = .ok (.iadd, 1) := by decide +kernel
theorem rX7_read_62 {R : zP} {x0 x1 x2 x3 x4 : Option zV} {st : List zV} {M : zM} {a b : Int} : uX7_read R 62 [x0, x1, x2, x3, x4] (.inl b :: .inl a :: st) M ↔ uX7_read R 63 [x0, x1, x2, x3, x4] (.inl (a + b) :: st) M := zU_step dX7_read_62 (Or.inl rfl)
theorem dX7_read_63 : decode cX7_read 63 = .ok (.iaload, 1) := by decide +kernel
theorem rX7_read_63 {R : zP} {x0 x1 x2 x3 x4 : Option zV} {st : List zV} {M : zM} {i : Int} {r : Nat} : uX7_read R 63 [x0, x1, x2, x3, x4] (.inl i :: .inr (.inr r) :: st) M ↔ zread fX7 0 r M i (fun v => uX7_read R 64 [x0, x1, x2, x3, x4] (.inl v :: st) M) := zU_step dX7_read_63 (Or.inl rfl)
theorem dX7_read_64 : decode cX7_read 64 = .ok (.aload_n 2, 1) := by decide +kernel
theorem rX7_read_64 {R : zP} {x0 x1 x3 x4 : Option zV} {st : List zV} {M : zM} {a : Nat} : uX7_read R 64 [x0, x1, some (.inr (.inr a)), x3, x4] st M ↔ uX7_read R 65 [x0, x1, some (.inr (.inr a)), x3, x4] (.inr (.inr a) :: st) M := zU_step dX7_read_64 (Or.inl rfl)
theorem dX7_read_65 : decode cX7_read 65 = .ok (.getfield 137, 3) := by decide +kernel
theorem rX7_read_65 {R : zP} {x0 x1 x2 x3 x4 : Option zV} {st : List zV} {M : zM} {r : Nat} : uX7_read R 65 [x0, x1, x2, x3, x4] (.inr (.inr r) :: st) M ↔ zgetx fX7 137 r M (fun v => uX7_read R 68 [x0, x1, x2, x3, x4] (v :: st) M) := zU_step dX7_read_65 (Or.inl rfl)
theorem dX7_read_68 : decode cX7_read 68 = .ok (.iload 4, 2) := by decide +kernel
theorem rX7_read_68 {R : zP} {x0 x1 x2 x3 : Option zV} {st : List zV} {M : zM} {a : Int} : uX7_read R 68 [x0, x1, x2, x3, some (.inl a)] st M ↔ uX7_read R 70 [x0, x1, x2, x3, some (.inl a)] (.inl a :: st) M := zU_step dX7_read_68 (Or.inl rfl)
theorem dX7_read_70 : decode cX7_read 70 = .ok (.iconst 2, 1) := by decide +kernel
theorem rX7_read_70 {R : zP} {x0 x1 x2 x3 x4 : Option zV} {st : List zV} {M : zM} : uX7_read R 70 [x0, x1, x2, x3, x4] st M ↔ uX7_read R 71 [x0, x1, x2, x3, x4] (.inl (2) :: st) M := zU_step dX7_read_70 (Or.inl rfl)
theorem dX7_read_71 : decode cX7_read 71 = .ok (.iadd, 1) := by decide +kernel
theorem rX7_read_71 {R : zP} {x0 x1 x2 x3 x4 : Option zV} {st : List zV} {M : zM} {a b : Int} : uX7_read R 71 [x0, x1, x2, x3, x4] (.inl b :: .inl a :: st) M ↔ uX7_read R 72 [x0, x1, x2, x3, x4] (.inl (a + b) :: st) M := zU_step dX7_read_71 (Or.inl rfl)
theorem dX7_read_72 : decode cX7_read 72 = .ok (.iaload, 1) := by decide +kernel
theorem rX7_read_72 {R : zP} {x0 x1 x2 x3 x4 : Option zV} {st : List zV} {M : zM} {i : Int} {r : Nat} : uX7_read R 72 [x0, x1, x2, x3, x4] (.inl i :: .inr (.inr r) :: st) M ↔ zread fX7 0 r M i (fun v => uX7_read R 73 [x0, x1, x2, x3, x4] (.inl v :: st) M) := zU_step dX7_read_72 (Or.inl rfl)
theorem dX7_read_73 : decode cX7_read 73 = .ok (.invokevirtual 139, 3) := by decide +kernel
theorem rX7_read_73 {R : zP} {x0 x1 x2 x3 x4 : Option zV} {st : List zV} {M : zM} {a0 a1 a2 a3 : zV} : uX7_read R 73 [x0, x1, x2, x3, x4] (a3 :: a2 :: a1 :: a0 :: st) M ↔ (st.length ≤ 4 ∧ zcv (zv 7 tX7_feed) [a0, a1, a2, a3] M (fun v M => uX7_read R 76 [x0, x1, x2, x3, x4] (v :: st) M)) := Iff.trans (zU_step dX7_read_73 (Or.inl rfl)) ⟨fun h => ⟨h.2.1, zcv_of h.2.2⟩, fun h => ⟨rfl, h.1, zcv_to h.2⟩⟩
theorem dX7_read_76 : decode cX7_read 76 = .ok (.ifCond .ge 6, 3) := by decide +kernel
theorem rX7_read_76 {R : zP} {x0 x1 x2 x3 x4 : Option zV} {st : List zV} {M : zM} {a : Int} : uX7_read R 76 [x0, x1, x2, x3, x4] (.inl a :: st) M ↔ (zIR a ∧ if 0 ≤ a then uX7_read R 82 [x0, x1, x2, x3, x4] st M else uX7_read R 79 [x0, x1, x2, x3, x4] st M) := Iff.trans (zU_step dX7_read_76 (Or.inl rfl)) ⟨fun h => ⟨h.1.1, (zite (c := 0 ≤ a)).mpr h.2⟩, fun h => ⟨⟨h.1, by decide⟩, (zite (c := 0 ≤ a)).mp h.2⟩⟩
theorem dX7_read_79 : decode cX7_read 79 = .ok (.goto 12, 3) := by decide +kernel
theorem rX7_read_79 {R : zP} {x0 x1 x2 x3 x4 : Option zV} {st : List zV} {M : zM} : uX7_read R 79 [x0, x1, x2, x3, x4] st M ↔ uX7_read R 91 [x0, x1, x2, x3, x4] st M := Iff.trans (zU_step dX7_read_79 (Or.inl rfl)) ⟨fun h => h.2, fun h => ⟨by decide, h⟩⟩
theorem dX7_read_82 : decode cX7_read 82 = .ok (.iinc 3 1, 3) := by decide +kernel
theorem rX7_read_82 {R : zP} {x0 x1 x4 : Option zV} {st : List zV} {M : zM} {a : Int} {y : Nat} : uX7_read R 82 [x0, x1, some (.inr (.inr y)), some (.inl a), x4] st M ↔ uX7_read R 85 [x0, x1, some (.inr (.inr y)), some (.inl (a + (1))), x4] st M := Iff.trans (zU_step dX7_read_82 (Or.inl rfl)) ⟨fun h => h.2, fun h => ⟨show 3 < 5 by decide, h⟩⟩
theorem rX7_read_82z {R : zP} {x0 x1 x2 x4 : Option zV} {st : List zV} {M : zM} {a : Int} : uX7_read R 82 [x0, x1, x2, some (.inl a), x4] st M ↔ uX7_read R 85 [x0, x1, zkeep x2, some (.inl (a + (1))), x4] st M := Iff.trans (zU_step dX7_read_82 (Or.inl rfl)) ⟨fun h => h.2, fun h => ⟨show 3 < 5 by decide, h⟩⟩
theorem dX7_read_85 : decode cX7_read 85 = .ok (.iinc 4 3, 3) := by decide +kernel
theorem rX7_read_85 {R : zP} {x0 x1 x2 : Option zV} {st : List zV} {M : zM} {a : Int} {y : Int} : uX7_read R 85 [x0, x1, x2, some (.inl y), some (.inl a)] st M ↔ uX7_read R 88 [x0, x1, x2, some (.inl y), some (.inl (a + (3)))] st M := Iff.trans (zU_step dX7_read_85 (Or.inl rfl)) ⟨fun h => h.2, fun h => ⟨show 4 < 5 by decide, h⟩⟩
theorem rX7_read_85z {R : zP} {x0 x1 x2 x3 : Option zV} {st : List zV} {M : zM} {a : Int} : uX7_read R 85 [x0, x1, x2, x3, some (.inl a)] st M ↔ uX7_read R 88 [x0, x1, x2, zkeep x3, some (.inl (a + (3)))] st M := Iff.trans (zU_step dX7_read_85 (Or.inl rfl)) ⟨fun h => h.2, fun h => ⟨show 4 < 5 by decide, h⟩⟩
theorem dX7_read_88 : decode cX7_read 88 = .ok (.goto (-52), 3) := by decide +kernel
theorem rX7_read_88 {R : zP} {x0 x1 x2 x3 x4 : Option zV} {st : List zV} {M : zM} : uX7_read R 88 [x0, x1, x2, x3, x4] st M ↔ uX7_read R 36 [x0, x1, x2, x3, x4] st M := Iff.trans (zU_step dX7_read_88 (Or.inl rfl)) ⟨fun h => h.2, fun h => ⟨by decide, h⟩⟩
theorem dX7_read_91 : decode cX7_read 91 = .ok (.iload_n 3, 1) := by decide +kernel
theorem rX7_read_91 {R : zP} {x0 x1 x2 x4 : Option zV} {st : List zV} {M : zM} {a : Int} : uX7_read R 91 [x0, x1, x2, some (.inl a), x4] st M ↔ uX7_read R 92 [x0, x1, x2, some (.inl a), x4] (.inl a :: st) M := zU_step dX7_read_91 (Or.inl rfl)
theorem dX7_read_92 : decode cX7_read 92 = .ok (.ireturn, 1) := by decide +kernel
theorem rX7_read_92 {R : zP} {x0 x1 x2 x3 x4 : Option zV} {M : zM} {a : Int} : uX7_read R 92 [x0, x1, x2, x3, x4] [.inl a] M ↔ R (some (.inl a)) M := Iff.trans (zU_step dX7_read_92 (Or.inl rfl)) ⟨fun h => h.2.2, fun h => ⟨rfl, Or.inl rfl, h⟩⟩
theorem eX7_read {R : zP} {M : zM} {a0 : Nat} {p0 : Int} : tX7_read [.inr (.inr a0), .inl p0] M R ↔ uX7_read R 0 [some (.inr (.inr a0)), some (.inl p0), none, none, none] [] M := ⟨fun h => h.2, fun h => ⟨show 2 ≤ 5 by decide, h⟩⟩
def uX7_bringUp (R : zP) : zK := zU fX7 vX7_bringUp cX7_bringUp R
theorem dX7_bringUp_0 : decode cX7_bringUp 0 = .ok (.iload_n 3, 1) := by decide +kernel
theorem rX7_bringUp_0 {R : zP} {x0 x1 x2 x4 x5 x6 x7 : Option zV} {st : List zV} {M : zM} {a : Int} : uX7_bringUp R 0 [x0, x1, x2, some (.inl a), x4, x5, x6, x7] st M ↔ uX7_bringUp R 1 [x0, x1, x2, some (.inl a), x4, x5, x6, x7] (.inl a :: st) M := zU_step dX7_bringUp_0 (Or.inl rfl)
theorem dX7_bringUp_1 : decode cX7_bringUp 1 = .ok (.istore 6, 2) := by decide +kernel
theorem rX7_bringUp_1 {R : zP} {x0 x1 x2 x3 x4 x6 x7 : Option zV} {st : List zV} {M : zM} {a : Int} {y : Int} : uX7_bringUp R 1 [x0, x1, x2, x3, x4, some (.inl y), x6, x7] (.inl a :: st) M ↔ uX7_bringUp R 3 [x0, x1, x2, x3, x4, some (.inl y), some (.inl a), x7] st M := Iff.trans (zU_step dX7_bringUp_1 (Or.inl rfl)) ⟨fun h => h.2, fun h => ⟨show 6 < 8 by decide, h⟩⟩
theorem rX7_bringUp_1z {R : zP} {x0 x1 x2 x3 x4 x5 x6 x7 : Option zV} {st : List zV} {M : zM} {a : Int} : uX7_bringUp R 1 [x0, x1, x2, x3, x4, x5, x6, x7] (.inl a :: st) M ↔ uX7_bringUp R 3 [x0, x1, x2, x3, x4, zkeep x5, some (.inl a), x7] st M := Iff.trans (zU_step dX7_bringUp_1 (Or.inl rfl)) ⟨fun h => h.2, fun h => ⟨show 6 < 8 by decide, h⟩⟩
theorem dX7_bringUp_3 : decode cX7_bringUp 3 = .ok (.iload 6, 2) := by decide +kernel
theorem rX7_bringUp_3 {R : zP} {x0 x1 x2 x3 x4 x5 x7 : Option zV} {st : List zV} {M : zM} {a : Int} : uX7_bringUp R 3 [x0, x1, x2, x3, x4, x5, some (.inl a), x7] st M ↔ uX7_bringUp R 5 [x0, x1, x2, x3, x4, x5, some (.inl a), x7] (.inl a :: st) M := zU_step dX7_bringUp_3 (Or.inl rfl)
theorem dX7_bringUp_5 : decode cX7_bringUp 5 = .ok (.aload_n 1, 1) := by decide +kernel
theorem rX7_bringUp_5 {R : zP} {x0 x2 x3 x4 x5 x6 x7 : Option zV} {st : List zV} {M : zM} {a : Nat} : uX7_bringUp R 5 [x0, some (.inr (.inr a)), x2, x3, x4, x5, x6, x7] st M ↔ uX7_bringUp R 6 [x0, some (.inr (.inr a)), x2, x3, x4, x5, x6, x7] (.inr (.inr a) :: st) M := zU_step dX7_bringUp_5 (Or.inl rfl)
theorem dX7_bringUp_6 : decode cX7_bringUp 6 = .ok (.getfield 234, 3) := by decide +kernel
theorem rX7_bringUp_6 {R : zP} {x0 x1 x2 x3 x4 x5 x6 x7 : Option zV} {st : List zV} {M : zM} {r : Nat} : uX7_bringUp R 6 [x0, x1, x2, x3, x4, x5, x6, x7] (.inr (.inr r) :: st) M ↔ zgetx fX7 234 r M (fun v => uX7_bringUp R 9 [x0, x1, x2, x3, x4, x5, x6, x7] (v :: st) M) := zU_step dX7_bringUp_6 (Or.inl rfl)
theorem dX7_bringUp_9 : decode cX7_bringUp 9 = .ok (.if_icmp .ge 72, 3) := by decide +kernel
theorem rX7_bringUp_9 {R : zP} {x0 x1 x2 x3 x4 x5 x6 x7 : Option zV} {st : List zV} {M : zM} {a b : Int} : uX7_bringUp R 9 [x0, x1, x2, x3, x4, x5, x6, x7] (.inl b :: .inl a :: st) M ↔ ((zIR a ∧ zIR b) ∧ if b ≤ a then uX7_bringUp R 81 [x0, x1, x2, x3, x4, x5, x6, x7] st M else uX7_bringUp R 12 [x0, x1, x2, x3, x4, x5, x6, x7] st M) := Iff.trans (zU_step dX7_bringUp_9 (Or.inl rfl)) ⟨fun h => ⟨⟨h.1.1, h.1.2.1⟩, (zite (c := b ≤ a)).mpr h.2⟩, fun h => ⟨⟨h.1.1, h.1.2, by decide⟩, (zite (c := b ≤ a)).mp h.2⟩⟩
theorem dX7_bringUp_12 : decode cX7_bringUp 12 = .ok (.aload_n 1, 1) := by decide +kernel
theorem rX7_bringUp_12 {R : zP} {x0 x2 x3 x4 x5 x6 x7 : Option zV} {st : List zV} {M : zM} {a : Nat} : uX7_bringUp R 12 [x0, some (.inr (.inr a)), x2, x3, x4, x5, x6, x7] st M ↔ uX7_bringUp R 13 [x0, some (.inr (.inr a)), x2, x3, x4, x5, x6, x7] (.inr (.inr a) :: st) M := zU_step dX7_bringUp_12 (Or.inl rfl)
theorem dX7_bringUp_13 : decode cX7_bringUp 13 = .ok (.getfield 355, 3) := by decide +kernel
theorem rX7_bringUp_13 {R : zP} {x0 x1 x2 x3 x4 x5 x6 x7 : Option zV} {st : List zV} {M : zM} {r : Nat} : uX7_bringUp R 13 [x0, x1, x2, x3, x4, x5, x6, x7] (.inr (.inr r) :: st) M ↔ zgetx fX7 355 r M (fun v => uX7_bringUp R 16 [x0, x1, x2, x3, x4, x5, x6, x7] (v :: st) M) := zU_step dX7_bringUp_13 (Or.inl rfl)
theorem dX7_bringUp_16 : decode cX7_bringUp 16 = .ok (.iload 6, 2) := by decide +kernel
theorem rX7_bringUp_16 {R : zP} {x0 x1 x2 x3 x4 x5 x7 : Option zV} {st : List zV} {M : zM} {a : Int} : uX7_bringUp R 16 [x0, x1, x2, x3, x4, x5, some (.inl a), x7] st M ↔ uX7_bringUp R 18 [x0, x1, x2, x3, x4, x5, some (.inl a), x7] (.inl a :: st) M := zU_step dX7_bringUp_16 (Or.inl rfl)
theorem dX7_bringUp_18 : decode cX7_bringUp 18 = .ok (.iaload, 1) := by decide +kernel
theorem rX7_bringUp_18 {R : zP} {x0 x1 x2 x3 x4 x5 x6 x7 : Option zV} {st : List zV} {M : zM} {i : Int} {r : Nat} : uX7_bringUp R 18 [x0, x1, x2, x3, x4, x5, x6, x7] (.inl i :: .inr (.inr r) :: st) M ↔ zread fX7 0 r M i (fun v => uX7_bringUp R 19 [x0, x1, x2, x3, x4, x5, x6, x7] (.inl v :: st) M) := zU_step dX7_bringUp_18 (Or.inl rfl)
theorem dX7_bringUp_19 : decode cX7_bringUp 19 = .ok (.istore 7, 2) := by decide +kernel
theorem rX7_bringUp_19 {R : zP} {x0 x1 x2 x3 x4 x5 x7 : Option zV} {st : List zV} {M : zM} {a : Int} {y : Int} : uX7_bringUp R 19 [x0, x1, x2, x3, x4, x5, some (.inl y), x7] (.inl a :: st) M ↔ uX7_bringUp R 21 [x0, x1, x2, x3, x4, x5, some (.inl y), some (.inl a)] st M := Iff.trans (zU_step dX7_bringUp_19 (Or.inl rfl)) ⟨fun h => h.2, fun h => ⟨show 7 < 8 by decide, h⟩⟩
theorem rX7_bringUp_19z {R : zP} {x0 x1 x2 x3 x4 x5 x6 x7 : Option zV} {st : List zV} {M : zM} {a : Int} : uX7_bringUp R 19 [x0, x1, x2, x3, x4, x5, x6, x7] (.inl a :: st) M ↔ uX7_bringUp R 21 [x0, x1, x2, x3, x4, x5, zkeep x6, some (.inl a)] st M := Iff.trans (zU_step dX7_bringUp_19 (Or.inl rfl)) ⟨fun h => h.2, fun h => ⟨show 7 < 8 by decide, h⟩⟩
theorem dX7_bringUp_21 : decode cX7_bringUp 21 = .ok (.aload_n 1, 1) := by decide +kernel
theorem rX7_bringUp_21 {R : zP} {x0 x2 x3 x4 x5 x6 x7 : Option zV} {st : List zV} {M : zM} {a : Nat} : uX7_bringUp R 21 [x0, some (.inr (.inr a)), x2, x3, x4, x5, x6, x7] st M ↔ uX7_bringUp R 22 [x0, some (.inr (.inr a)), x2, x3, x4, x5, x6, x7] (.inr (.inr a) :: st) M := zU_step dX7_bringUp_21 (Or.inl rfl)
theorem dX7_bringUp_22 : decode cX7_bringUp 22 = .ok (.getfield 358, 3) := by decide +kernel
theorem rX7_bringUp_22 {R : zP} {x0 x1 x2 x3 x4 x5 x6 x7 : Option zV} {st : List zV} {M : zM} {r : Nat} : uX7_bringUp R 22 [x0, x1, x2, x3, x4, x5, x6, x7] (.inr (.inr r) :: st) M ↔ zgetx fX7 358 r M (fun v => uX7_bringUp R 25 [x0, x1, x2, x3, x4, x5, x6, x7] (v :: st) M) := zU_step dX7_bringUp_22 (Or.inl rfl)
theorem dX7_bringUp_25 : decode cX7_bringUp 25 = .ok (.iload 7, 2) := by decide +kernel
theorem rX7_bringUp_25 {R : zP} {x0 x1 x2 x3 x4 x5 x6 : Option zV} {st : List zV} {M : zM} {a : Int} : uX7_bringUp R 25 [x0, x1, x2, x3, x4, x5, x6, some (.inl a)] st M ↔ uX7_bringUp R 27 [x0, x1, x2, x3, x4, x5, x6, some (.inl a)] (.inl a :: st) M := zU_step dX7_bringUp_25 (Or.inl rfl)
theorem dX7_bringUp_27 : decode cX7_bringUp 27 = .ok (.iaload, 1) := by decide +kernel
theorem rX7_bringUp_27 {R : zP} {x0 x1 x2 x3 x4 x5 x6 x7 : Option zV} {st : List zV} {M : zM} {i : Int} {r : Nat} : uX7_bringUp R 27 [x0, x1, x2, x3, x4, x5, x6, x7] (.inl i :: .inr (.inr r) :: st) M ↔ zread fX7 0 r M i (fun v => uX7_bringUp R 28 [x0, x1, x2, x3, x4, x5, x6, x7] (.inl v :: st) M) := zU_step dX7_bringUp_27 (Or.inl rfl)
theorem dX7_bringUp_28 : decode cX7_bringUp 28 = .ok (.iload 4, 2) := by decide +kernel
theorem rX7_bringUp_28 {R : zP} {x0 x1 x2 x3 x5 x6 x7 : Option zV} {st : List zV} {M : zM} {a : Int} : uX7_bringUp R 28 [x0, x1, x2, x3, some (.inl a), x5, x6, x7] st M ↔ uX7_bringUp R 30 [x0, x1, x2, x3, some (.inl a), x5, x6, x7] (.inl a :: st) M := zU_step dX7_bringUp_28 (Or.inl rfl)
theorem dX7_bringUp_30 : decode cX7_bringUp 30 = .ok (.if_icmp .le 6, 3) := by decide +kernel
theorem rX7_bringUp_30 {R : zP} {x0 x1 x2 x3 x4 x5 x6 x7 : Option zV} {st : List zV} {M : zM} {a b : Int} : uX7_bringUp R 30 [x0, x1, x2, x3, x4, x5, x6, x7] (.inl b :: .inl a :: st) M ↔ ((zIR a ∧ zIR b) ∧ if a ≤ b then uX7_bringUp R 36 [x0, x1, x2, x3, x4, x5, x6, x7] st M else uX7_bringUp R 33 [x0, x1, x2, x3, x4, x5, x6, x7] st M) := Iff.trans (zU_step dX7_bringUp_30 (Or.inl rfl)) ⟨fun h => ⟨⟨h.1.1, h.1.2.1⟩, (zite (c := a ≤ b)).mpr h.2⟩, fun h => ⟨⟨h.1.1, h.1.2, by decide⟩, (zite (c := a ≤ b)).mp h.2⟩⟩
theorem dX7_bringUp_33 : decode cX7_bringUp 33 = .ok (.iload 6, 2) := by decide +kernel
theorem rX7_bringUp_33 {R : zP} {x0 x1 x2 x3 x4 x5 x7 : Option zV} {st : List zV} {M : zM} {a : Int} : uX7_bringUp R 33 [x0, x1, x2, x3, x4, x5, some (.inl a), x7] st M ↔ uX7_bringUp R 35 [x0, x1, x2, x3, x4, x5, some (.inl a), x7] (.inl a :: st) M := zU_step dX7_bringUp_33 (Or.inl rfl)
theorem dX7_bringUp_35 : decode cX7_bringUp 35 = .ok (.ireturn, 1) := by decide +kernel
theorem rX7_bringUp_35 {R : zP} {x0 x1 x2 x3 x4 x5 x6 x7 : Option zV} {M : zM} {a : Int} : uX7_bringUp R 35 [x0, x1, x2, x3, x4, x5, x6, x7] [.inl a] M ↔ R (some (.inl a)) M := Iff.trans (zU_step dX7_bringUp_35 (Or.inl rfl)) ⟨fun h => h.2.2, fun h => ⟨rfl, Or.inl rfl, h⟩⟩
theorem dX7_bringUp_36 : decode cX7_bringUp 36 = .ok (.aload_n 1, 1) := by decide +kernel
theorem rX7_bringUp_36 {R : zP} {x0 x2 x3 x4 x5 x6 x7 : Option zV} {st : List zV} {M : zM} {a : Nat} : uX7_bringUp R 36 [x0, some (.inr (.inr a)), x2, x3, x4, x5, x6, x7] st M ↔ uX7_bringUp R 37 [x0, some (.inr (.inr a)), x2, x3, x4, x5, x6, x7] (.inr (.inr a) :: st) M := zU_step dX7_bringUp_36 (Or.inl rfl)
theorem dX7_bringUp_37 : decode cX7_bringUp 37 = .ok (.getfield 361, 3) := by decide +kernel
theorem rX7_bringUp_37 {R : zP} {x0 x1 x2 x3 x4 x5 x6 x7 : Option zV} {st : List zV} {M : zM} {r : Nat} : uX7_bringUp R 37 [x0, x1, x2, x3, x4, x5, x6, x7] (.inr (.inr r) :: st) M ↔ zgetx fX7 361 r M (fun v => uX7_bringUp R 40 [x0, x1, x2, x3, x4, x5, x6, x7] (v :: st) M) := zU_step dX7_bringUp_37 (Or.inl rfl)
theorem dX7_bringUp_40 : decode cX7_bringUp 40 = .ok (.iload 7, 2) := by decide +kernel
theorem rX7_bringUp_40 {R : zP} {x0 x1 x2 x3 x4 x5 x6 : Option zV} {st : List zV} {M : zM} {a : Int} : uX7_bringUp R 40 [x0, x1, x2, x3, x4, x5, x6, some (.inl a)] st M ↔ uX7_bringUp R 42 [x0, x1, x2, x3, x4, x5, x6, some (.inl a)] (.inl a :: st) M := zU_step dX7_bringUp_40 (Or.inl rfl)
theorem dX7_bringUp_42 : decode cX7_bringUp 42 = .ok (.iaload, 1) := by decide +kernel
theorem rX7_bringUp_42 {R : zP} {x0 x1 x2 x3 x4 x5 x6 x7 : Option zV} {st : List zV} {M : zM} {i : Int} {r : Nat} : uX7_bringUp R 42 [x0, x1, x2, x3, x4, x5, x6, x7] (.inl i :: .inr (.inr r) :: st) M ↔ zread fX7 0 r M i (fun v => uX7_bringUp R 43 [x0, x1, x2, x3, x4, x5, x6, x7] (.inl v :: st) M) := zU_step dX7_bringUp_42 (Or.inl rfl)
theorem dX7_bringUp_43 : decode cX7_bringUp 43 = .ok (.iload_n 2, 1) := by decide +kernel
theorem rX7_bringUp_43 {R : zP} {x0 x1 x3 x4 x5 x6 x7 : Option zV} {st : List zV} {M : zM} {a : Int} : uX7_bringUp R 43 [x0, x1, some (.inl a), x3, x4, x5, x6, x7] st M ↔ uX7_bringUp R 44 [x0, x1, some (.inl a), x3, x4, x5, x6, x7] (.inl a :: st) M := zU_step dX7_bringUp_43 (Or.inl rfl)
theorem dX7_bringUp_44 : decode cX7_bringUp 44 = .ok (.if_icmp .ne 31, 3) := by decide +kernel
theorem rX7_bringUp_44 {R : zP} {x0 x1 x2 x3 x4 x5 x6 x7 : Option zV} {st : List zV} {M : zM} {a b : Int} : uX7_bringUp R 44 [x0, x1, x2, x3, x4, x5, x6, x7] (.inl b :: .inl a :: st) M ↔ ((zIR a ∧ zIR b) ∧ if a ≠ b then uX7_bringUp R 75 [x0, x1, x2, x3, x4, x5, x6, x7] st M else uX7_bringUp R 47 [x0, x1, x2, x3, x4, x5, x6, x7] st M) := Iff.trans (zU_step dX7_bringUp_44 (Or.inl rfl)) ⟨fun h => ⟨⟨h.1.1, h.1.2.1⟩, (zite (c := a ≠ b)).mpr h.2⟩, fun h => ⟨⟨h.1.1, h.1.2, by decide⟩, (zite (c := a ≠ b)).mp h.2⟩⟩
theorem dX7_bringUp_47 : decode cX7_bringUp 47 = .ok (.iload 5, 2) := by decide +kernel
theorem rX7_bringUp_47 {R : zP} {x0 x1 x2 x3 x4 x6 x7 : Option zV} {st : List zV} {M : zM} {a : Int} : uX7_bringUp R 47 [x0, x1, x2, x3, x4, some (.inl a), x6, x7] st M ↔ uX7_bringUp R 49 [x0, x1, x2, x3, x4, some (.inl a), x6, x7] (.inl a :: st) M := zU_step dX7_bringUp_47 (Or.inl rfl)
theorem dX7_bringUp_49 : decode cX7_bringUp 49 = .ok (.iload 7, 2) := by decide +kernel
theorem rX7_bringUp_49 {R : zP} {x0 x1 x2 x3 x4 x5 x6 : Option zV} {st : List zV} {M : zM} {a : Int} : uX7_bringUp R 49 [x0, x1, x2, x3, x4, x5, x6, some (.inl a)] st M ↔ uX7_bringUp R 51 [x0, x1, x2, x3, x4, x5, x6, some (.inl a)] (.inl a :: st) M := zU_step dX7_bringUp_49 (Or.inl rfl)
theorem dX7_bringUp_51 : decode cX7_bringUp 51 = .ok (.ishr, 1) := by decide +kernel
theorem rX7_bringUp_51 {R : zP} {x0 x1 x2 x3 x4 x5 x6 x7 : Option zV} {st : List zV} {M : zM} {a b : Int} : uX7_bringUp R 51 [x0, x1, x2, x3, x4, x5, x6, x7] (.inl b :: .inl a :: st) M ↔ uX7_bringUp R 52 [x0, x1, x2, x3, x4, x5, x6, x7] (.inl (zshr a b) :: st) M := zU_step dX7_bringUp_51 (Or.inl rfl)
theorem dX7_bringUp_52 : decode cX7_bringUp 52 = .ok (.iconst 1, 1) := by decide +kernel
theorem rX7_bringUp_52 {R : zP} {x0 x1 x2 x3 x4 x5 x6 x7 : Option zV} {st : List zV} {M : zM} : uX7_bringUp R 52 [x0, x1, x2, x3, x4, x5, x6, x7] st M ↔ uX7_bringUp R 53 [x0, x1, x2, x3, x4, x5, x6, x7] (.inl (1) :: st) M := zU_step dX7_bringUp_52 (Or.inl rfl)
theorem dX7_bringUp_53 : decode cX7_bringUp 53 = .ok (.iand, 1) := by decide +kernel
theorem rX7_bringUp_53 {R : zP} {x0 x1 x2 x3 x4 x5 x6 x7 : Option zV} {st : List zV} {M : zM} {a b : Int} : uX7_bringUp R 53 [x0, x1, x2, x3, x4, x5, x6, x7] (.inl b :: .inl a :: st) M ↔ uX7_bringUp R 54 [x0, x1, x2, x3, x4, x5, x6, x7] (.inl (zand a b) :: st) M := zU_step dX7_bringUp_53 (Or.inl rfl)
theorem dX7_bringUp_54 : decode cX7_bringUp 54 = .ok (.ifCond .eq 21, 3) := by decide +kernel
theorem rX7_bringUp_54 {R : zP} {x0 x1 x2 x3 x4 x5 x6 x7 : Option zV} {st : List zV} {M : zM} {a : Int} : uX7_bringUp R 54 [x0, x1, x2, x3, x4, x5, x6, x7] (.inl a :: st) M ↔ (zIR a ∧ if a = 0 then uX7_bringUp R 75 [x0, x1, x2, x3, x4, x5, x6, x7] st M else uX7_bringUp R 57 [x0, x1, x2, x3, x4, x5, x6, x7] st M) := Iff.trans (zU_step dX7_bringUp_54 (Or.inl rfl)) ⟨fun h => ⟨h.1.1, (zite (c := a = 0)).mpr h.2⟩, fun h => ⟨⟨h.1, by decide⟩, (zite (c := a = 0)).mp h.2⟩⟩
theorem dX7_bringUp_57 : decode cX7_bringUp 57 = .ok (.aload_n 0, 1) := by decide +kernel
theorem rX7_bringUp_57 {R : zP} {x1 x2 x3 x4 x5 x6 x7 : Option zV} {st : List zV} {M : zM} {a : Nat} : uX7_bringUp R 57 [some (.inr (.inr a)), x1, x2, x3, x4, x5, x6, x7] st M ↔ uX7_bringUp R 58 [some (.inr (.inr a)), x1, x2, x3, x4, x5, x6, x7] (.inr (.inr a) :: st) M := zU_step dX7_bringUp_57 (Or.inl rfl)
theorem dX7_bringUp_58 : decode cX7_bringUp 58 = .ok (.getfield 55, 3) := by decide +kernel
theorem rX7_bringUp_58 {R : zP} {x0 x1 x2 x3 x4 x5 x6 x7 : Option zV} {st : List zV} {M : zM} {r : Nat} : uX7_bringUp R 58 [x0, x1, x2, x3, x4, x5, x6, x7] (.inr (.inr r) :: st) M ↔ zgetx fX7 55 r M (fun v => uX7_bringUp R 61 [x0, x1, x2, x3, x4, x5, x6, x7] (v :: st) M) := zU_step dX7_bringUp_58 (Or.inl rfl)
theorem dX7_bringUp_61 : decode cX7_bringUp 61 = .ok (.aload_n 0, 1) := by decide +kernel
theorem rX7_bringUp_61 {R : zP} {x1 x2 x3 x4 x5 x6 x7 : Option zV} {st : List zV} {M : zM} {a : Nat} : uX7_bringUp R 61 [some (.inr (.inr a)), x1, x2, x3, x4, x5, x6, x7] st M ↔ uX7_bringUp R 62 [some (.inr (.inr a)), x1, x2, x3, x4, x5, x6, x7] (.inr (.inr a) :: st) M := zU_step dX7_bringUp_61 (Or.inl rfl)
theorem dX7_bringUp_62 : decode cX7_bringUp 62 = .ok (.getfield 22, 3) := by decide +kernel
theorem rX7_bringUp_62 {R : zP} {x0 x1 x2 x3 x4 x5 x6 x7 : Option zV} {st : List zV} {M : zM} {r : Nat} : uX7_bringUp R 62 [x0, x1, x2, x3, x4, x5, x6, x7] (.inr (.inr r) :: st) M ↔ zgetx fX7 22 r M (fun v => uX7_bringUp R 65 [x0, x1, x2, x3, x4, x5, x6, x7] (v :: st) M) := zU_step dX7_bringUp_62 (Or.inl rfl)
theorem dX7_bringUp_65 : decode cX7_bringUp 65 = .ok (.aload_n 1, 1) := by decide +kernel
theorem rX7_bringUp_65 {R : zP} {x0 x2 x3 x4 x5 x6 x7 : Option zV} {st : List zV} {M : zM} {a : Nat} : uX7_bringUp R 65 [x0, some (.inr (.inr a)), x2, x3, x4, x5, x6, x7] st M ↔ uX7_bringUp R 66 [x0, some (.inr (.inr a)), x2, x3, x4, x5, x6, x7] (.inr (.inr a) :: st) M := zU_step dX7_bringUp_65 (Or.inl rfl)
theorem dX7_bringUp_66 : decode cX7_bringUp 66 = .ok (.getfield 363, 3) := by decide +kernel
theorem rX7_bringUp_66 {R : zP} {x0 x1 x2 x3 x4 x5 x6 x7 : Option zV} {st : List zV} {M : zM} {r : Nat} : uX7_bringUp R 66 [x0, x1, x2, x3, x4, x5, x6, x7] (.inr (.inr r) :: st) M ↔ zgetx fX7 363 r M (fun v => uX7_bringUp R 69 [x0, x1, x2, x3, x4, x5, x6, x7] (v :: st) M) := zU_step dX7_bringUp_66 (Or.inl rfl)
theorem dX7_bringUp_69 : decode cX7_bringUp 69 = .ok (.iload 7, 2) := by decide +kernel
theorem rX7_bringUp_69 {R : zP} {x0 x1 x2 x3 x4 x5 x6 : Option zV} {st : List zV} {M : zM} {a : Int} : uX7_bringUp R 69 [x0, x1, x2, x3, x4, x5, x6, some (.inl a)] st M ↔ uX7_bringUp R 71 [x0, x1, x2, x3, x4, x5, x6, some (.inl a)] (.inl a :: st) M := zU_step dX7_bringUp_69 (Or.inl rfl)
theorem dX7_bringUp_71 : decode cX7_bringUp 71 = .ok (.iaload, 1) := by decide +kernel
theorem rX7_bringUp_71 {R : zP} {x0 x1 x2 x3 x4 x5 x6 x7 : Option zV} {st : List zV} {M : zM} {i : Int} {r : Nat} : uX7_bringUp R 71 [x0, x1, x2, x3, x4, x5, x6, x7] (.inl i :: .inr (.inr r) :: st) M ↔ zread fX7 0 r M i (fun v => uX7_bringUp R 72 [x0, x1, x2, x3, x4, x5, x6, x7] (.inl v :: st) M) := zU_step dX7_bringUp_71 (Or.inl rfl)
theorem dX7_bringUp_72 : decode cX7_bringUp 72 = .ok (.invokevirtual 365, 3) := by decide +kernel
theorem rX7_bringUp_72 {R : zP} {x0 x1 x2 x3 x4 x5 x6 x7 : Option zV} {st : List zV} {M : zM} {a0 a1 a2 : zV} : uX7_bringUp R 72 [x0, x1, x2, x3, x4, x5, x6, x7] (a2 :: a1 :: a0 :: st) M ↔ (st.length ≤ 4 ∧ zcn (zv 3 tX3_drink) [a0, a1, a2] M (fun M => uX7_bringUp R 75 [x0, x1, x2, x3, x4, x5, x6, x7] st M)) := Iff.trans (zU_step dX7_bringUp_72 (Or.inl rfl)) ⟨fun h => ⟨h.2.1, zcn_of h.2.2⟩, fun h => ⟨rfl, h.1, zcn_to h.2⟩⟩
theorem dX7_bringUp_75 : decode cX7_bringUp 75 = .ok (.iinc 6 1, 3) := by decide +kernel
theorem rX7_bringUp_75 {R : zP} {x0 x1 x2 x3 x4 x7 : Option zV} {st : List zV} {M : zM} {a : Int} {y : Int} : uX7_bringUp R 75 [x0, x1, x2, x3, x4, some (.inl y), some (.inl a), x7] st M ↔ uX7_bringUp R 78 [x0, x1, x2, x3, x4, some (.inl y), some (.inl (a + (1))), x7] st M := Iff.trans (zU_step dX7_bringUp_75 (Or.inl rfl)) ⟨fun h => h.2, fun h => ⟨show 6 < 8 by decide, h⟩⟩
theorem rX7_bringUp_75z {R : zP} {x0 x1 x2 x3 x4 x5 x7 : Option zV} {st : List zV} {M : zM} {a : Int} : uX7_bringUp R 75 [x0, x1, x2, x3, x4, x5, some (.inl a), x7] st M ↔ uX7_bringUp R 78 [x0, x1, x2, x3, x4, zkeep x5, some (.inl (a + (1))), x7] st M := Iff.trans (zU_step dX7_bringUp_75 (Or.inl rfl)) ⟨fun h => h.2, fun h => ⟨show 6 < 8 by decide, h⟩⟩
theorem dX7_bringUp_78 : decode cX7_bringUp 78 = .ok (.goto (-75), 3) := by decide +kernel
theorem rX7_bringUp_78 {R : zP} {x0 x1 x2 x3 x4 x5 x6 x7 : Option zV} {st : List zV} {M : zM} : uX7_bringUp R 78 [x0, x1, x2, x3, x4, x5, x6, x7] st M ↔ uX7_bringUp R 3 [x0, x1, x2, x3, x4, x5, x6, x7] st M := Iff.trans (zU_step dX7_bringUp_78 (Or.inl rfl)) ⟨fun h => h.2, fun h => ⟨by decide, h⟩⟩
theorem dX7_bringUp_81 : decode cX7_bringUp 81 = .ok (.aload_n 1, 1) := by decide +kernel
theorem rX7_bringUp_81 {R : zP} {x0 x2 x3 x4 x5 x6 x7 : Option zV} {st : List zV} {M : zM} {a : Nat} : uX7_bringUp R 81 [x0, some (.inr (.inr a)), x2, x3, x4, x5, x6, x7] st M ↔ uX7_bringUp R 82 [x0, some (.inr (.inr a)), x2, x3, x4, x5, x6, x7] (.inr (.inr a) :: st) M := zU_step dX7_bringUp_81 (Or.inl rfl)
theorem dX7_bringUp_82 : decode cX7_bringUp 82 = .ok (.getfield 234, 3) := by decide +kernel
theorem rX7_bringUp_82 {R : zP} {x0 x1 x2 x3 x4 x5 x6 x7 : Option zV} {st : List zV} {M : zM} {r : Nat} : uX7_bringUp R 82 [x0, x1, x2, x3, x4, x5, x6, x7] (.inr (.inr r) :: st) M ↔ zgetx fX7 234 r M (fun v => uX7_bringUp R 85 [x0, x1, x2, x3, x4, x5, x6, x7] (v :: st) M) := zU_step dX7_bringUp_82 (Or.inl rfl)
theorem dX7_bringUp_85 : decode cX7_bringUp 85 = .ok (.ireturn, 1) := by decide +kernel
theorem rX7_bringUp_85 {R : zP} {x0 x1 x2 x3 x4 x5 x6 x7 : Option zV} {M : zM} {a : Int} : uX7_bringUp R 85 [x0, x1, x2, x3, x4, x5, x6, x7] [.inl a] M ↔ R (some (.inl a)) M := Iff.trans (zU_step dX7_bringUp_85 (Or.inl rfl)) ⟨fun h => h.2.2, fun h => ⟨rfl, Or.inl rfl, h⟩⟩
theorem eX7_bringUp {R : zP} {M : zM} {a0 : Nat} {p0 : Nat} {p1 : Int} {p2 : Int} {p3 : Int} {p4 : Int} : tX7_bringUp [.inr (.inr a0), .inr (.inr p0), .inl p1, .inl p2, .inl p3, .inl p4] M R ↔ uX7_bringUp R 0 [some (.inr (.inr a0)), some (.inr (.inr p0)), some (.inl p1), some (.inl p2), some (.inl p3), some (.inl p4), none, none] [] M := ⟨fun h => h.2, fun h => ⟨show 6 ≤ 8 by decide, h⟩⟩
def uX7_raise (R : zP) : zK := zU fX7 vX7_raise cX7_raise R
theorem dX7_raise_0 : decode cX7_raise 0 = .ok (.aload_n 0, 1) := by decide +kernel
theorem rX7_raise_0 {R : zP} {x1 x2 x3 x4 : Option zV} {st : List zV} {M : zM} {a : Nat} : uX7_raise R 0 [some (.inr (.inr a)), x1, x2, x3, x4] st M ↔ uX7_raise R 1 [some (.inr (.inr a)), x1, x2, x3, x4] (.inr (.inr a) :: st) M := zU_step dX7_raise_0 (Or.inl rfl)
theorem dX7_raise_1 : decode cX7_raise 1 = .ok (.getfield 55, 3) := by decide +kernel
theorem rX7_raise_1 {R : zP} {x0 x1 x2 x3 x4 : Option zV} {st : List zV} {M : zM} {r : Nat} : uX7_raise R 1 [x0, x1, x2, x3, x4] (.inr (.inr r) :: st) M ↔ zgetx fX7 55 r M (fun v => uX7_raise R 4 [x0, x1, x2, x3, x4] (v :: st) M) := zU_step dX7_raise_1 (Or.inl rfl)
theorem dX7_raise_4 : decode cX7_raise 4 = .ok (.aload_n 0, 1) := by decide +kernel
theorem rX7_raise_4 {R : zP} {x1 x2 x3 x4 : Option zV} {st : List zV} {M : zM} {a : Nat} : uX7_raise R 4 [some (.inr (.inr a)), x1, x2, x3, x4] st M ↔ uX7_raise R 5 [some (.inr (.inr a)), x1, x2, x3, x4] (.inr (.inr a) :: st) M := zU_step dX7_raise_4 (Or.inl rfl)
theorem dX7_raise_5 : decode cX7_raise 5 = .ok (.getfield 14, 3) := by decide +kernel
theorem rX7_raise_5 {R : zP} {x0 x1 x2 x3 x4 : Option zV} {st : List zV} {M : zM} {r : Nat} : uX7_raise R 5 [x0, x1, x2, x3, x4] (.inr (.inr r) :: st) M ↔ zgetx fX7 14 r M (fun v => uX7_raise R 8 [x0, x1, x2, x3, x4] (v :: st) M) := zU_step dX7_raise_5 (Or.inl rfl)
theorem dX7_raise_8 : decode cX7_raise 8 = .ok (.iload_n 2, 1) := by decide +kernel
theorem rX7_raise_8 {R : zP} {x0 x1 x3 x4 : Option zV} {st : List zV} {M : zM} {a : Int} : uX7_raise R 8 [x0, x1, some (.inl a), x3, x4] st M ↔ uX7_raise R 9 [x0, x1, some (.inl a), x3, x4] (.inl a :: st) M := zU_step dX7_raise_8 (Or.inl rfl)
theorem dX7_raise_9 : decode cX7_raise 9 = .ok (.invokevirtual 238, 3) := by decide +kernel
theorem rX7_raise_9 {R : zP} {x0 x1 x2 x3 x4 : Option zV} {st : List zV} {M : zM} {a0 a1 a2 : zV} : uX7_raise R 9 [x0, x1, x2, x3, x4] (a2 :: a1 :: a0 :: st) M ↔ (st.length ≤ 4 ∧ zcn (zv 3 tX3_enter) [a0, a1, a2] M (fun M => uX7_raise R 12 [x0, x1, x2, x3, x4] st M)) := Iff.trans (zU_step dX7_raise_9 (Or.inl rfl)) ⟨fun h => ⟨h.2.1, zcn_of h.2.2⟩, fun h => ⟨rfl, h.1, zcn_to h.2⟩⟩
theorem dX7_raise_12 : decode cX7_raise 12 = .ok (.aload_n 0, 1) := by decide +kernel
theorem rX7_raise_12 {R : zP} {x1 x2 x3 x4 : Option zV} {st : List zV} {M : zM} {a : Nat} : uX7_raise R 12 [some (.inr (.inr a)), x1, x2, x3, x4] st M ↔ uX7_raise R 13 [some (.inr (.inr a)), x1, x2, x3, x4] (.inr (.inr a) :: st) M := zU_step dX7_raise_12 (Or.inl rfl)
theorem dX7_raise_13 : decode cX7_raise 13 = .ok (.aload_n 1, 1) := by decide +kernel
theorem rX7_raise_13 {R : zP} {x0 x2 x3 x4 : Option zV} {st : List zV} {M : zM} {a : Nat} : uX7_raise R 13 [x0, some (.inr (.inr a)), x2, x3, x4] st M ↔ uX7_raise R 14 [x0, some (.inr (.inr a)), x2, x3, x4] (.inr (.inr a) :: st) M := zU_step dX7_raise_13 (Or.inl rfl)
theorem dX7_raise_14 : decode cX7_raise 14 = .ok (.iload_n 2, 1) := by decide +kernel
theorem rX7_raise_14 {R : zP} {x0 x1 x3 x4 : Option zV} {st : List zV} {M : zM} {a : Int} : uX7_raise R 14 [x0, x1, some (.inl a), x3, x4] st M ↔ uX7_raise R 15 [x0, x1, some (.inl a), x3, x4] (.inl a :: st) M := zU_step dX7_raise_14 (Or.inl rfl)
theorem dX7_raise_15 : decode cX7_raise 15 = .ok (.iconst 0, 1) := by decide +kernel
theorem rX7_raise_15 {R : zP} {x0 x1 x2 x3 x4 : Option zV} {st : List zV} {M : zM} : uX7_raise R 15 [x0, x1, x2, x3, x4] st M ↔ uX7_raise R 16 [x0, x1, x2, x3, x4] (.inl (0) :: st) M := zU_step dX7_raise_15 (Or.inl rfl)
theorem dX7_raise_16 : decode cX7_raise 16 = .ok (.iload_n 3, 1) := by decide +kernel
theorem rX7_raise_16 {R : zP} {x0 x1 x2 x4 : Option zV} {st : List zV} {M : zM} {a : Int} : uX7_raise R 16 [x0, x1, x2, some (.inl a), x4] st M ↔ uX7_raise R 17 [x0, x1, x2, some (.inl a), x4] (.inl a :: st) M := zU_step dX7_raise_16 (Or.inl rfl)
theorem dX7_raise_17 : decode cX7_raise 17 = .ok (.iload 4, 2) := by decide +kernel
theorem rX7_raise_17 {R : zP} {x0 x1 x2 x3 : Option zV} {st : List zV} {M : zM} {a : Int} : uX7_raise R 17 [x0, x1, x2, x3, some (.inl a)] st M ↔ uX7_raise R 19 [x0, x1, x2, x3, some (.inl a)] (.inl a :: st) M := zU_step dX7_raise_17 (Or.inl rfl)
theorem dX7_raise_19 : decode cX7_raise 19 = .ok (.invokevirtual 368, 3) := by decide +kernel
theorem rX7_raise_19 {R : zP} {x0 x1 x2 x3 x4 : Option zV} {st : List zV} {M : zM} {a0 a1 a2 a3 a4 a5 : zV} : uX7_raise R 19 [x0, x1, x2, x3, x4] (a5 :: a4 :: a3 :: a2 :: a1 :: a0 :: st) M ↔ (st.length ≤ 4 ∧ zcv (zv 7 tX7_bringUp) [a0, a1, a2, a3, a4, a5] M (fun v M => uX7_raise R 22 [x0, x1, x2, x3, x4] (v :: st) M)) := Iff.trans (zU_step dX7_raise_19 (Or.inl rfl)) ⟨fun h => ⟨h.2.1, zcv_of h.2.2⟩, fun h => ⟨rfl, h.1, zcv_to h.2⟩⟩
theorem dX7_raise_22 : decode cX7_raise 22 = .ok (.pop, 1) := by decide +kernel
theorem rX7_raise_22 {R : zP} {x0 x1 x2 x3 x4 : Option zV} {st : List zV} {M : zM} {a : Int} : uX7_raise R 22 [x0, x1, x2, x3, x4] (.inl a :: st) M ↔ uX7_raise R 23 [x0, x1, x2, x3, x4] st M := zU_step dX7_raise_22 (Or.inl rfl)
theorem dX7_raise_23 : decode cX7_raise 23 = .ok (.return_, 1) := by decide +kernel
theorem rX7_raise_23 {R : zP} {x0 x1 x2 x3 x4 : Option zV} {M : zM} : uX7_raise R 23 [x0, x1, x2, x3, x4] [] M ↔ R none M := Iff.trans (zU_step dX7_raise_23 (Or.inl rfl)) ⟨fun h => h.2.2, fun h => ⟨rfl, rfl, h⟩⟩
theorem eX7_raise {R : zP} {M : zM} {a0 : Nat} {p0 : Nat} {p1 : Int} {p2 : Int} {p3 : Int} : tX7_raise [.inr (.inr a0), .inr (.inr p0), .inl p1, .inl p2, .inl p3] M R ↔ uX7_raise R 0 [some (.inr (.inr a0)), some (.inr (.inr p0)), some (.inl p1), some (.inl p2), some (.inl p3)] [] M := ⟨fun h => h.2, fun h => ⟨show 5 ≤ 5 by decide, h⟩⟩
def uX7_bit (R : zP) : zK := zU fX7 vX7_bit cX7_bit R
theorem dX7_bit_0 : decode cX7_bit 0 = .ok (.iload_n 0, 1) := by decide +kernel
theorem rX7_bit_0 {R : zP} {st : List zV} {M : zM} {a : Int} : uX7_bit R 0 [some (.inl a)] st M ↔ uX7_bit R 1 [some (.inl a)] (.inl a :: st) M := zU_step dX7_bit_0 (Or.inl rfl)
theorem dX7_bit_1 : decode cX7_bit 1 = .ok (.ifCond .eq 7, 3) := by decide +kernel
theorem rX7_bit_1 {R : zP} {x0 : Option zV} {st : List zV} {M : zM} {a : Int} : uX7_bit R 1 [x0] (.inl a :: st) M ↔ (zIR a ∧ if a = 0 then uX7_bit R 8 [x0] st M else uX7_bit R 4 [x0] st M) := Iff.trans (zU_step dX7_bit_1 (Or.inl rfl)) ⟨fun h => ⟨h.1.1, (zite (c := a = 0)).mpr h.2⟩, fun h => ⟨⟨h.1, by decide⟩, (zite (c := a = 0)).mp h.2⟩⟩
theorem dX7_bit_4 : decode cX7_bit 4 = .ok (.iconst 1, 1) := by decide +kernel
theorem rX7_bit_4 {R : zP} {x0 : Option zV} {st : List zV} {M : zM} : uX7_bit R 4 [x0] st M ↔ uX7_bit R 5 [x0] (.inl (1) :: st) M := zU_step dX7_bit_4 (Or.inl rfl)
theorem dX7_bit_5 : decode cX7_bit 5 = .ok (.goto 4, 3) := by decide +kernel
theorem rX7_bit_5 {R : zP} {x0 : Option zV} {st : List zV} {M : zM} : uX7_bit R 5 [x0] st M ↔ uX7_bit R 9 [x0] st M := Iff.trans (zU_step dX7_bit_5 (Or.inl rfl)) ⟨fun h => h.2, fun h => ⟨by decide, h⟩⟩
theorem dX7_bit_8 : decode cX7_bit 8 = .ok (.iconst 0, 1) := by decide +kernel
theorem rX7_bit_8 {R : zP} {x0 : Option zV} {st : List zV} {M : zM} : uX7_bit R 8 [x0] st M ↔ uX7_bit R 9 [x0] (.inl (0) :: st) M := zU_step dX7_bit_8 (Or.inl rfl)
theorem dX7_bit_9 : decode cX7_bit 9 = .ok (.ireturn, 1) := by decide +kernel
theorem rX7_bit_9 {R : zP} {x0 : Option zV} {M : zM} {a : Int} : uX7_bit R 9 [x0] [.inl a] M ↔ R (some (.inl a)) M := Iff.trans (zU_step dX7_bit_9 (Or.inl rfl)) ⟨fun h => h.2.2, fun h => ⟨rfl, Or.inl rfl, h⟩⟩
theorem eX7_bit {R : zP} {M : zM} {p0 : Int} : tX7_bit [.inl p0] M R ↔ uX7_bit R 0 [some (.inl p0)] [] M := ⟨fun h => h.2, fun h => ⟨show 1 ≤ 1 by decide, h⟩⟩
def uX7_at (R : zP) : zK := zU fX7 vX7_at cX7_at R
theorem dX7_at_0 : decode cX7_at 0 = .ok (.iload_n 1, 1) := by decide +kernel
theorem rX7_at_0 {R : zP} {x0 x2 x3 x4 : Option zV} {st : List zV} {M : zM} {a : Int} : uX7_at R 0 [x0, some (.inl a), x2, x3, x4] st M ↔ uX7_at R 1 [x0, some (.inl a), x2, x3, x4] (.inl a :: st) M := zU_step dX7_at_0 (Or.inl rfl)
theorem dX7_at_1 : decode cX7_at 1 = .ok (.bipush 20, 2) := by decide +kernel
theorem rX7_at_1 {R : zP} {x0 x1 x2 x3 x4 : Option zV} {st : List zV} {M : zM} : uX7_at R 1 [x0, x1, x2, x3, x4] st M ↔ uX7_at R 3 [x0, x1, x2, x3, x4] (.inl (20) :: st) M := Iff.trans (zU_step dX7_at_1 (Or.inl rfl)) ⟨fun h => h.2, fun h => ⟨by decide, h⟩⟩
theorem dX7_at_3 : decode cX7_at 3 = .ok (.invokestatic 94, 3) := by decide +kernel
theorem rX7_at_3 {R : zP} {x0 x1 x2 x3 x4 : Option zV} {st : List zV} {M : zM} {a0 a1 : zV} : uX7_at R 3 [x0, x1, x2, x3, x4] (a1 :: a0 :: st) M ↔ (st.length ≤ 4 ∧ zcv tX7_outside [a0, a1] M (fun v M => uX7_at R 6 [x0, x1, x2, x3, x4] (v :: st) M)) := Iff.trans (zU_step dX7_at_3 (Or.inl rfl)) ⟨fun h => ⟨h.2.1, zcv_of h.2.2⟩, fun h => ⟨rfl, h.1, zcv_to h.2⟩⟩
theorem dX7_at_6 : decode cX7_at 6 = .ok (.ifCond .ne 34, 3) := by decide +kernel
theorem rX7_at_6 {R : zP} {x0 x1 x2 x3 x4 : Option zV} {st : List zV} {M : zM} {a : Int} : uX7_at R 6 [x0, x1, x2, x3, x4] (.inl a :: st) M ↔ (zIR a ∧ if a ≠ 0 then uX7_at R 40 [x0, x1, x2, x3, x4] st M else uX7_at R 9 [x0, x1, x2, x3, x4] st M) := Iff.trans (zU_step dX7_at_6 (Or.inl rfl)) ⟨fun h => ⟨h.1.1, (zite (c := a ≠ 0)).mpr h.2⟩, fun h => ⟨⟨h.1, by decide⟩, (zite (c := a ≠ 0)).mp h.2⟩⟩
theorem dX7_at_9 : decode cX7_at 9 = .ok (.iload_n 2, 1) := by decide +kernel
theorem rX7_at_9 {R : zP} {x0 x1 x3 x4 : Option zV} {st : List zV} {M : zM} {a : Int} : uX7_at R 9 [x0, x1, some (.inl a), x3, x4] st M ↔ uX7_at R 10 [x0, x1, some (.inl a), x3, x4] (.inl a :: st) M := zU_step dX7_at_9 (Or.inl rfl)
theorem dX7_at_10 : decode cX7_at 10 = .ok (.aload_n 0, 1) := by decide +kernel
theorem rX7_at_10 {R : zP} {x1 x2 x3 x4 : Option zV} {st : List zV} {M : zM} {a : Nat} : uX7_at R 10 [some (.inr (.inr a)), x1, x2, x3, x4] st M ↔ uX7_at R 11 [some (.inr (.inr a)), x1, x2, x3, x4] (.inr (.inr a) :: st) M := zU_step dX7_at_10 (Or.inl rfl)
theorem dX7_at_11 : decode cX7_at 11 = .ok (.getfield 14, 3) := by decide +kernel
theorem rX7_at_11 {R : zP} {x0 x1 x2 x3 x4 : Option zV} {st : List zV} {M : zM} {r : Nat} : uX7_at R 11 [x0, x1, x2, x3, x4] (.inr (.inr r) :: st) M ↔ zgetx fX7 14 r M (fun v => uX7_at R 14 [x0, x1, x2, x3, x4] (v :: st) M) := zU_step dX7_at_11 (Or.inl rfl)
theorem dX7_at_14 : decode cX7_at 14 = .ok (.getfield 116, 3) := by decide +kernel
theorem rX7_at_14 {R : zP} {x0 x1 x2 x3 x4 : Option zV} {st : List zV} {M : zM} {r : Nat} : uX7_at R 14 [x0, x1, x2, x3, x4] (.inr (.inr r) :: st) M ↔ zgetx fX7 116 r M (fun v => uX7_at R 17 [x0, x1, x2, x3, x4] (v :: st) M) := zU_step dX7_at_14 (Or.inl rfl)
theorem dX7_at_17 : decode cX7_at 17 = .ok (.invokestatic 94, 3) := by decide +kernel
theorem rX7_at_17 {R : zP} {x0 x1 x2 x3 x4 : Option zV} {st : List zV} {M : zM} {a0 a1 : zV} : uX7_at R 17 [x0, x1, x2, x3, x4] (a1 :: a0 :: st) M ↔ (st.length ≤ 4 ∧ zcv tX7_outside [a0, a1] M (fun v M => uX7_at R 20 [x0, x1, x2, x3, x4] (v :: st) M)) := Iff.trans (zU_step dX7_at_17 (Or.inl rfl)) ⟨fun h => ⟨h.2.1, zcv_of h.2.2⟩, fun h => ⟨rfl, h.1, zcv_to h.2⟩⟩
theorem dX7_at_20 : decode cX7_at 20 = .ok (.ifCond .ne 20, 3) := by decide +kernel
theorem rX7_at_20 {R : zP} {x0 x1 x2 x3 x4 : Option zV} {st : List zV} {M : zM} {a : Int} : uX7_at R 20 [x0, x1, x2, x3, x4] (.inl a :: st) M ↔ (zIR a ∧ if a ≠ 0 then uX7_at R 40 [x0, x1, x2, x3, x4] st M else uX7_at R 23 [x0, x1, x2, x3, x4] st M) := Iff.trans (zU_step dX7_at_20 (Or.inl rfl)) ⟨fun h => ⟨h.1.1, (zite (c := a ≠ 0)).mpr h.2⟩, fun h => ⟨⟨h.1, by decide⟩, (zite (c := a ≠ 0)).mp h.2⟩⟩
theorem dX7_at_23 : decode cX7_at 23 = .ok (.iload_n 3, 1) := by decide +kernel
theorem rX7_at_23 {R : zP} {x0 x1 x2 x4 : Option zV} {st : List zV} {M : zM} {a : Int} : uX7_at R 23 [x0, x1, x2, some (.inl a), x4] st M ↔ uX7_at R 24 [x0, x1, x2, some (.inl a), x4] (.inl a :: st) M := zU_step dX7_at_23 (Or.inl rfl)
theorem dX7_at_24 : decode cX7_at 24 = .ok (.iconst 4, 1) := by decide +kernel
theorem rX7_at_24 {R : zP} {x0 x1 x2 x3 x4 : Option zV} {st : List zV} {M : zM} : uX7_at R 24 [x0, x1, x2, x3, x4] st M ↔ uX7_at R 25 [x0, x1, x2, x3, x4] (.inl (4) :: st) M := zU_step dX7_at_24 (Or.inl rfl)
theorem dX7_at_25 : decode cX7_at 25 = .ok (.invokestatic 94, 3) := by decide +kernel
theorem rX7_at_25 {R : zP} {x0 x1 x2 x3 x4 : Option zV} {st : List zV} {M : zM} {a0 a1 : zV} : uX7_at R 25 [x0, x1, x2, x3, x4] (a1 :: a0 :: st) M ↔ (st.length ≤ 4 ∧ zcv tX7_outside [a0, a1] M (fun v M => uX7_at R 28 [x0, x1, x2, x3, x4] (v :: st) M)) := Iff.trans (zU_step dX7_at_25 (Or.inl rfl)) ⟨fun h => ⟨h.2.1, zcv_of h.2.2⟩, fun h => ⟨rfl, h.1, zcv_to h.2⟩⟩
theorem dX7_at_28 : decode cX7_at 28 = .ok (.ifCond .ne 12, 3) := by decide +kernel
theorem rX7_at_28 {R : zP} {x0 x1 x2 x3 x4 : Option zV} {st : List zV} {M : zM} {a : Int} : uX7_at R 28 [x0, x1, x2, x3, x4] (.inl a :: st) M ↔ (zIR a ∧ if a ≠ 0 then uX7_at R 40 [x0, x1, x2, x3, x4] st M else uX7_at R 31 [x0, x1, x2, x3, x4] st M) := Iff.trans (zU_step dX7_at_28 (Or.inl rfl)) ⟨fun h => ⟨h.1.1, (zite (c := a ≠ 0)).mpr h.2⟩, fun h => ⟨⟨h.1, by decide⟩, (zite (c := a ≠ 0)).mp h.2⟩⟩
theorem dX7_at_31 : decode cX7_at 31 = .ok (.iload 4, 2) := by decide +kernel
theorem rX7_at_31 {R : zP} {x0 x1 x2 x3 : Option zV} {st : List zV} {M : zM} {a : Int} : uX7_at R 31 [x0, x1, x2, x3, some (.inl a)] st M ↔ uX7_at R 33 [x0, x1, x2, x3, some (.inl a)] (.inl a :: st) M := zU_step dX7_at_31 (Or.inl rfl)
theorem dX7_at_33 : decode cX7_at 33 = .ok (.iconst 4, 1) := by decide +kernel
theorem rX7_at_33 {R : zP} {x0 x1 x2 x3 x4 : Option zV} {st : List zV} {M : zM} : uX7_at R 33 [x0, x1, x2, x3, x4] st M ↔ uX7_at R 34 [x0, x1, x2, x3, x4] (.inl (4) :: st) M := zU_step dX7_at_33 (Or.inl rfl)
theorem dX7_at_34 : decode cX7_at 34 = .ok (.invokestatic 94, 3) := by decide +kernel
theorem rX7_at_34 {R : zP} {x0 x1 x2 x3 x4 : Option zV} {st : List zV} {M : zM} {a0 a1 : zV} : uX7_at R 34 [x0, x1, x2, x3, x4] (a1 :: a0 :: st) M ↔ (st.length ≤ 4 ∧ zcv tX7_outside [a0, a1] M (fun v M => uX7_at R 37 [x0, x1, x2, x3, x4] (v :: st) M)) := Iff.trans (zU_step dX7_at_34 (Or.inl rfl)) ⟨fun h => ⟨h.2.1, zcv_of h.2.2⟩, fun h => ⟨rfl, h.1, zcv_to h.2⟩⟩
theorem dX7_at_37 : decode cX7_at 37 = .ok (.ifCond .eq 6, 3) := by decide +kernel
theorem rX7_at_37 {R : zP} {x0 x1 x2 x3 x4 : Option zV} {st : List zV} {M : zM} {a : Int} : uX7_at R 37 [x0, x1, x2, x3, x4] (.inl a :: st) M ↔ (zIR a ∧ if a = 0 then uX7_at R 43 [x0, x1, x2, x3, x4] st M else uX7_at R 40 [x0, x1, x2, x3, x4] st M) := Iff.trans (zU_step dX7_at_37 (Or.inl rfl)) ⟨fun h => ⟨h.1.1, (zite (c := a = 0)).mpr h.2⟩, fun h => ⟨⟨h.1, by decide⟩, (zite (c := a = 0)).mp h.2⟩⟩
theorem dX7_at_40 : decode cX7_at 40 = .ok (.bipush (-2), 2) := by decide +kernel
theorem rX7_at_40 {R : zP} {x0 x1 x2 x3 x4 : Option zV} {st : List zV} {M : zM} : uX7_at R 40 [x0, x1, x2, x3, x4] st M ↔ uX7_at R 42 [x0, x1, x2, x3, x4] (.inl (-2) :: st) M := Iff.trans (zU_step dX7_at_40 (Or.inl rfl)) ⟨fun h => h.2, fun h => ⟨by decide, h⟩⟩
theorem dX7_at_42 : decode cX7_at 42 = .ok (.ireturn, 1) := by decide +kernel
theorem rX7_at_42 {R : zP} {x0 x1 x2 x3 x4 : Option zV} {M : zM} {a : Int} : uX7_at R 42 [x0, x1, x2, x3, x4] [.inl a] M ↔ R (some (.inl a)) M := Iff.trans (zU_step dX7_at_42 (Or.inl rfl)) ⟨fun h => h.2.2, fun h => ⟨rfl, Or.inl rfl, h⟩⟩
theorem dX7_at_43 : decode cX7_at 43 = .ok (.aload_n 0, 1) := by decide +kernel
theorem rX7_at_43 {R : zP} {x1 x2 x3 x4 : Option zV} {st : List zV} {M : zM} {a : Nat} : uX7_at R 43 [some (.inr (.inr a)), x1, x2, x3, x4] st M ↔ uX7_at R 44 [some (.inr (.inr a)), x1, x2, x3, x4] (.inr (.inr a) :: st) M := zU_step dX7_at_43 (Or.inl rfl)
theorem dX7_at_44 : decode cX7_at 44 = .ok (.aload_n 0, 1) := by decide +kernel
theorem rX7_at_44 {R : zP} {x1 x2 x3 x4 : Option zV} {st : List zV} {M : zM} {a : Nat} : uX7_at R 44 [some (.inr (.inr a)), x1, x2, x3, x4] st M ↔ uX7_at R 45 [some (.inr (.inr a)), x1, x2, x3, x4] (.inr (.inr a) :: st) M := zU_step dX7_at_44 (Or.inl rfl)
theorem dX7_at_45 : decode cX7_at 45 = .ok (.getfield 28, 3) := by decide +kernel
theorem rX7_at_45 {R : zP} {x0 x1 x2 x3 x4 : Option zV} {st : List zV} {M : zM} {r : Nat} : uX7_at R 45 [x0, x1, x2, x3, x4] (.inr (.inr r) :: st) M ↔ zgetx fX7 28 r M (fun v => uX7_at R 48 [x0, x1, x2, x3, x4] (v :: st) M) := zU_step dX7_at_45 (Or.inl rfl)
theorem dX7_at_48 : decode cX7_at 48 = .ok (.iload_n 2, 1) := by decide +kernel
theorem rX7_at_48 {R : zP} {x0 x1 x3 x4 : Option zV} {st : List zV} {M : zM} {a : Int} : uX7_at R 48 [x0, x1, some (.inl a), x3, x4] st M ↔ uX7_at R 49 [x0, x1, some (.inl a), x3, x4] (.inl a :: st) M := zU_step dX7_at_48 (Or.inl rfl)
theorem dX7_at_49 : decode cX7_at 49 = .ok (.iload_n 1, 1) := by decide +kernel
theorem rX7_at_49 {R : zP} {x0 x2 x3 x4 : Option zV} {st : List zV} {M : zM} {a : Int} : uX7_at R 49 [x0, some (.inl a), x2, x3, x4] st M ↔ uX7_at R 50 [x0, some (.inl a), x2, x3, x4] (.inl a :: st) M := zU_step dX7_at_49 (Or.inl rfl)
theorem dX7_at_50 : decode cX7_at 50 = .ok (.sipush 255, 3) := by decide +kernel
theorem rX7_at_50 {R : zP} {x0 x1 x2 x3 x4 : Option zV} {st : List zV} {M : zM} : uX7_at R 50 [x0, x1, x2, x3, x4] st M ↔ uX7_at R 53 [x0, x1, x2, x3, x4] (.inl (255) :: st) M := Iff.trans (zU_step dX7_at_50 (Or.inl rfl)) ⟨fun h => h.2, fun h => ⟨by decide, h⟩⟩
theorem dX7_at_53 : decode cX7_at 53 = .ok (.invokevirtual 142, 3) := by decide +kernel
theorem rX7_at_53 {R : zP} {x0 x1 x2 x3 x4 : Option zV} {st : List zV} {M : zM} {a0 a1 a2 a3 a4 : zV} : uX7_at R 53 [x0, x1, x2, x3, x4] (a4 :: a3 :: a2 :: a1 :: a0 :: st) M ↔ (st.length ≤ 4 ∧ zcn (zv 7 tX7_raise) [a0, a1, a2, a3, a4] M (fun M => uX7_at R 56 [x0, x1, x2, x3, x4] st M)) := Iff.trans (zU_step dX7_at_53 (Or.inl rfl)) ⟨fun h => ⟨h.2.1, zcn_of h.2.2⟩, fun h => ⟨rfl, h.1, zcn_to h.2⟩⟩
theorem dX7_at_56 : decode cX7_at 56 = .ok (.iload 4, 2) := by decide +kernel
theorem rX7_at_56 {R : zP} {x0 x1 x2 x3 : Option zV} {st : List zV} {M : zM} {a : Int} : uX7_at R 56 [x0, x1, x2, x3, some (.inl a)] st M ↔ uX7_at R 58 [x0, x1, x2, x3, some (.inl a)] (.inl a :: st) M := zU_step dX7_at_56 (Or.inl rfl)
theorem dX7_at_58 : decode cX7_at 58 = .ok (.tableswitch 56 0 2 #[26, 36, 46], 26) := by decide +kernel
theorem rX7_at_58 {R : zP} {x0 x1 x2 x3 x4 : Option zV} {st : List zV} {M : zM} {a : Int} : uX7_at R 58 [x0, x1, x2, x3, x4] (.inl a :: st) M ↔ (zIR a ∧ (a = 0 → uX7_at R 84 [x0, x1, x2, x3, x4] st M) ∧ (a = 1 → uX7_at R 94 [x0, x1, x2, x3, x4] st M) ∧ (a = 2 → uX7_at R 104 [x0, x1, x2, x3, x4] st M) ∧ ((a < 0 ∨ 2 < a) → uX7_at R 114 [x0, x1, x2, x3, x4] st M)) := by
  refine Iff.trans (zU_step dX7_at_58 (Or.inr rfl)) ?_
  constructor
  · intro h
    refine ⟨h.1, fun e => by subst e; exact h.2.2, fun e => by subst e; exact h.2.2, fun e => by subst e; exact h.2.2, fun e => ?_⟩
    have h2 := h.2
    simp only [zsw, if_pos e, zopt] at h2
    exact h2.2
  · intro h
    refine ⟨h.1, ?_⟩
    by_cases e : a < 0 ∨ 2 < a
    · simp only [zsw, if_pos e, zopt]
      exact ⟨by decide, h.2.2.2.2 e⟩
    · have e2 : a = 0 ∨ a = 1 ∨ a = 2 := by omega
      rcases e2 with e2 | e2 | e2
      · subst e2
        exact ⟨by decide, h.2.1 rfl⟩
      · subst e2
        exact ⟨by decide, h.2.2.1 rfl⟩
      · subst e2
        exact ⟨by decide, h.2.2.2.1 rfl⟩
theorem dX7_at_84 : decode cX7_at 84 = .ok (.aload_n 0, 1) := by decide +kernel
theorem rX7_at_84 {R : zP} {x1 x2 x3 x4 : Option zV} {st : List zV} {M : zM} {a : Nat} : uX7_at R 84 [some (.inr (.inr a)), x1, x2, x3, x4] st M ↔ uX7_at R 85 [some (.inr (.inr a)), x1, x2, x3, x4] (.inr (.inr a) :: st) M := zU_step dX7_at_84 (Or.inl rfl)
theorem dX7_at_85 : decode cX7_at 85 = .ok (.getfield 55, 3) := by decide +kernel
theorem rX7_at_85 {R : zP} {x0 x1 x2 x3 x4 : Option zV} {st : List zV} {M : zM} {r : Nat} : uX7_at R 85 [x0, x1, x2, x3, x4] (.inr (.inr r) :: st) M ↔ zgetx fX7 55 r M (fun v => uX7_at R 88 [x0, x1, x2, x3, x4] (v :: st) M) := zU_step dX7_at_85 (Or.inl rfl)
theorem dX7_at_88 : decode cX7_at 88 = .ok (.getfield 146, 3) := by decide +kernel
theorem rX7_at_88 {R : zP} {x0 x1 x2 x3 x4 : Option zV} {st : List zV} {M : zM} {r : Nat} : uX7_at R 88 [x0, x1, x2, x3, x4] (.inr (.inr r) :: st) M ↔ zgetx fX7 146 r M (fun v => uX7_at R 91 [x0, x1, x2, x3, x4] (v :: st) M) := zU_step dX7_at_88 (Or.inl rfl)
theorem dX7_at_91 : decode cX7_at 91 = .ok (.iload_n 3, 1) := by decide +kernel
theorem rX7_at_91 {R : zP} {x0 x1 x2 x4 : Option zV} {st : List zV} {M : zM} {a : Int} : uX7_at R 91 [x0, x1, x2, some (.inl a), x4] st M ↔ uX7_at R 92 [x0, x1, x2, some (.inl a), x4] (.inl a :: st) M := zU_step dX7_at_91 (Or.inl rfl)
theorem dX7_at_92 : decode cX7_at 92 = .ok (.iaload, 1) := by decide +kernel
theorem rX7_at_92 {R : zP} {x0 x1 x2 x3 x4 : Option zV} {st : List zV} {M : zM} {i : Int} {r : Nat} : uX7_at R 92 [x0, x1, x2, x3, x4] (.inl i :: .inr (.inr r) :: st) M ↔ zread fX7 0 r M i (fun v => uX7_at R 93 [x0, x1, x2, x3, x4] (.inl v :: st) M) := zU_step dX7_at_92 (Or.inl rfl)
theorem dX7_at_93 : decode cX7_at 93 = .ok (.ireturn, 1) := by decide +kernel
theorem rX7_at_93 {R : zP} {x0 x1 x2 x3 x4 : Option zV} {M : zM} {a : Int} : uX7_at R 93 [x0, x1, x2, x3, x4] [.inl a] M ↔ R (some (.inl a)) M := Iff.trans (zU_step dX7_at_93 (Or.inl rfl)) ⟨fun h => h.2.2, fun h => ⟨rfl, Or.inl rfl, h⟩⟩
theorem dX7_at_94 : decode cX7_at 94 = .ok (.aload_n 0, 1) := by decide +kernel
theorem rX7_at_94 {R : zP} {x1 x2 x3 x4 : Option zV} {st : List zV} {M : zM} {a : Nat} : uX7_at R 94 [some (.inr (.inr a)), x1, x2, x3, x4] st M ↔ uX7_at R 95 [some (.inr (.inr a)), x1, x2, x3, x4] (.inr (.inr a) :: st) M := zU_step dX7_at_94 (Or.inl rfl)
theorem dX7_at_95 : decode cX7_at 95 = .ok (.getfield 55, 3) := by decide +kernel
theorem rX7_at_95 {R : zP} {x0 x1 x2 x3 x4 : Option zV} {st : List zV} {M : zM} {r : Nat} : uX7_at R 95 [x0, x1, x2, x3, x4] (.inr (.inr r) :: st) M ↔ zgetx fX7 55 r M (fun v => uX7_at R 98 [x0, x1, x2, x3, x4] (v :: st) M) := zU_step dX7_at_95 (Or.inl rfl)
theorem dX7_at_98 : decode cX7_at 98 = .ok (.getfield 149, 3) := by decide +kernel
theorem rX7_at_98 {R : zP} {x0 x1 x2 x3 x4 : Option zV} {st : List zV} {M : zM} {r : Nat} : uX7_at R 98 [x0, x1, x2, x3, x4] (.inr (.inr r) :: st) M ↔ zgetx fX7 149 r M (fun v => uX7_at R 101 [x0, x1, x2, x3, x4] (v :: st) M) := zU_step dX7_at_98 (Or.inl rfl)
theorem dX7_at_101 : decode cX7_at 101 = .ok (.iload_n 3, 1) := by decide +kernel
theorem rX7_at_101 {R : zP} {x0 x1 x2 x4 : Option zV} {st : List zV} {M : zM} {a : Int} : uX7_at R 101 [x0, x1, x2, some (.inl a), x4] st M ↔ uX7_at R 102 [x0, x1, x2, some (.inl a), x4] (.inl a :: st) M := zU_step dX7_at_101 (Or.inl rfl)
theorem dX7_at_102 : decode cX7_at 102 = .ok (.iaload, 1) := by decide +kernel
theorem rX7_at_102 {R : zP} {x0 x1 x2 x3 x4 : Option zV} {st : List zV} {M : zM} {i : Int} {r : Nat} : uX7_at R 102 [x0, x1, x2, x3, x4] (.inl i :: .inr (.inr r) :: st) M ↔ zread fX7 0 r M i (fun v => uX7_at R 103 [x0, x1, x2, x3, x4] (.inl v :: st) M) := zU_step dX7_at_102 (Or.inl rfl)
theorem dX7_at_103 : decode cX7_at 103 = .ok (.ireturn, 1) := by decide +kernel
theorem rX7_at_103 {R : zP} {x0 x1 x2 x3 x4 : Option zV} {M : zM} {a : Int} : uX7_at R 103 [x0, x1, x2, x3, x4] [.inl a] M ↔ R (some (.inl a)) M := Iff.trans (zU_step dX7_at_103 (Or.inl rfl)) ⟨fun h => h.2.2, fun h => ⟨rfl, Or.inl rfl, h⟩⟩
theorem dX7_at_104 : decode cX7_at 104 = .ok (.aload_n 0, 1) := by decide +kernel
theorem rX7_at_104 {R : zP} {x1 x2 x3 x4 : Option zV} {st : List zV} {M : zM} {a : Nat} : uX7_at R 104 [some (.inr (.inr a)), x1, x2, x3, x4] st M ↔ uX7_at R 105 [some (.inr (.inr a)), x1, x2, x3, x4] (.inr (.inr a) :: st) M := zU_step dX7_at_104 (Or.inl rfl)
theorem dX7_at_105 : decode cX7_at 105 = .ok (.getfield 55, 3) := by decide +kernel
theorem rX7_at_105 {R : zP} {x0 x1 x2 x3 x4 : Option zV} {st : List zV} {M : zM} {r : Nat} : uX7_at R 105 [x0, x1, x2, x3, x4] (.inr (.inr r) :: st) M ↔ zgetx fX7 55 r M (fun v => uX7_at R 108 [x0, x1, x2, x3, x4] (v :: st) M) := zU_step dX7_at_105 (Or.inl rfl)
theorem dX7_at_108 : decode cX7_at 108 = .ok (.getfield 152, 3) := by decide +kernel
theorem rX7_at_108 {R : zP} {x0 x1 x2 x3 x4 : Option zV} {st : List zV} {M : zM} {r : Nat} : uX7_at R 108 [x0, x1, x2, x3, x4] (.inr (.inr r) :: st) M ↔ zgetx fX7 152 r M (fun v => uX7_at R 111 [x0, x1, x2, x3, x4] (v :: st) M) := zU_step dX7_at_108 (Or.inl rfl)
theorem dX7_at_111 : decode cX7_at 111 = .ok (.iload_n 3, 1) := by decide +kernel
theorem rX7_at_111 {R : zP} {x0 x1 x2 x4 : Option zV} {st : List zV} {M : zM} {a : Int} : uX7_at R 111 [x0, x1, x2, some (.inl a), x4] st M ↔ uX7_at R 112 [x0, x1, x2, some (.inl a), x4] (.inl a :: st) M := zU_step dX7_at_111 (Or.inl rfl)
theorem dX7_at_112 : decode cX7_at 112 = .ok (.iaload, 1) := by decide +kernel
theorem rX7_at_112 {R : zP} {x0 x1 x2 x3 x4 : Option zV} {st : List zV} {M : zM} {i : Int} {r : Nat} : uX7_at R 112 [x0, x1, x2, x3, x4] (.inl i :: .inr (.inr r) :: st) M ↔ zread fX7 0 r M i (fun v => uX7_at R 113 [x0, x1, x2, x3, x4] (.inl v :: st) M) := zU_step dX7_at_112 (Or.inl rfl)
theorem dX7_at_113 : decode cX7_at 113 = .ok (.ireturn, 1) := by decide +kernel
theorem rX7_at_113 {R : zP} {x0 x1 x2 x3 x4 : Option zV} {M : zM} {a : Int} : uX7_at R 113 [x0, x1, x2, x3, x4] [.inl a] M ↔ R (some (.inl a)) M := Iff.trans (zU_step dX7_at_113 (Or.inl rfl)) ⟨fun h => h.2.2, fun h => ⟨rfl, Or.inl rfl, h⟩⟩
theorem dX7_at_114 : decode cX7_at 114 = .ok (.aload_n 0, 1) := by decide +kernel
theorem rX7_at_114 {R : zP} {x1 x2 x3 x4 : Option zV} {st : List zV} {M : zM} {a : Nat} : uX7_at R 114 [some (.inr (.inr a)), x1, x2, x3, x4] st M ↔ uX7_at R 115 [some (.inr (.inr a)), x1, x2, x3, x4] (.inr (.inr a) :: st) M := zU_step dX7_at_114 (Or.inl rfl)
theorem dX7_at_115 : decode cX7_at 115 = .ok (.getfield 55, 3) := by decide +kernel
theorem rX7_at_115 {R : zP} {x0 x1 x2 x3 x4 : Option zV} {st : List zV} {M : zM} {r : Nat} : uX7_at R 115 [x0, x1, x2, x3, x4] (.inr (.inr r) :: st) M ↔ zgetx fX7 55 r M (fun v => uX7_at R 118 [x0, x1, x2, x3, x4] (v :: st) M) := zU_step dX7_at_115 (Or.inl rfl)
theorem dX7_at_118 : decode cX7_at 118 = .ok (.getfield 146, 3) := by decide +kernel
theorem rX7_at_118 {R : zP} {x0 x1 x2 x3 x4 : Option zV} {st : List zV} {M : zM} {r : Nat} : uX7_at R 118 [x0, x1, x2, x3, x4] (.inr (.inr r) :: st) M ↔ zgetx fX7 146 r M (fun v => uX7_at R 121 [x0, x1, x2, x3, x4] (v :: st) M) := zU_step dX7_at_118 (Or.inl rfl)
theorem dX7_at_121 : decode cX7_at 121 = .ok (.iload_n 3, 1) := by decide +kernel
theorem rX7_at_121 {R : zP} {x0 x1 x2 x4 : Option zV} {st : List zV} {M : zM} {a : Int} : uX7_at R 121 [x0, x1, x2, some (.inl a), x4] st M ↔ uX7_at R 122 [x0, x1, x2, some (.inl a), x4] (.inl a :: st) M := zU_step dX7_at_121 (Or.inl rfl)
theorem dX7_at_122 : decode cX7_at 122 = .ok (.iaload, 1) := by decide +kernel
theorem rX7_at_122 {R : zP} {x0 x1 x2 x3 x4 : Option zV} {st : List zV} {M : zM} {i : Int} {r : Nat} : uX7_at R 122 [x0, x1, x2, x3, x4] (.inl i :: .inr (.inr r) :: st) M ↔ zread fX7 0 r M i (fun v => uX7_at R 123 [x0, x1, x2, x3, x4] (.inl v :: st) M) := zU_step dX7_at_122 (Or.inl rfl)
theorem dX7_at_123 : decode cX7_at 123 = .ok (.iconst 5, 1) := by decide +kernel
theorem rX7_at_123 {R : zP} {x0 x1 x2 x3 x4 : Option zV} {st : List zV} {M : zM} : uX7_at R 123 [x0, x1, x2, x3, x4] st M ↔ uX7_at R 124 [x0, x1, x2, x3, x4] (.inl (5) :: st) M := zU_step dX7_at_123 (Or.inl rfl)
theorem dX7_at_124 : decode cX7_at 124 = .ok (.if_icmp .lt 7, 3) := by decide +kernel
theorem rX7_at_124 {R : zP} {x0 x1 x2 x3 x4 : Option zV} {st : List zV} {M : zM} {a b : Int} : uX7_at R 124 [x0, x1, x2, x3, x4] (.inl b :: .inl a :: st) M ↔ ((zIR a ∧ zIR b) ∧ if a < b then uX7_at R 131 [x0, x1, x2, x3, x4] st M else uX7_at R 127 [x0, x1, x2, x3, x4] st M) := Iff.trans (zU_step dX7_at_124 (Or.inl rfl)) ⟨fun h => ⟨⟨h.1.1, h.1.2.1⟩, (zite (c := a < b)).mpr h.2⟩, fun h => ⟨⟨h.1.1, h.1.2, by decide⟩, (zite (c := a < b)).mp h.2⟩⟩
theorem dX7_at_127 : decode cX7_at 127 = .ok (.iconst 1, 1) := by decide +kernel
theorem rX7_at_127 {R : zP} {x0 x1 x2 x3 x4 : Option zV} {st : List zV} {M : zM} : uX7_at R 127 [x0, x1, x2, x3, x4] st M ↔ uX7_at R 128 [x0, x1, x2, x3, x4] (.inl (1) :: st) M := zU_step dX7_at_127 (Or.inl rfl)
theorem dX7_at_128 : decode cX7_at 128 = .ok (.goto 4, 3) := by decide +kernel
theorem rX7_at_128 {R : zP} {x0 x1 x2 x3 x4 : Option zV} {st : List zV} {M : zM} : uX7_at R 128 [x0, x1, x2, x3, x4] st M ↔ uX7_at R 132 [x0, x1, x2, x3, x4] st M := Iff.trans (zU_step dX7_at_128 (Or.inl rfl)) ⟨fun h => h.2, fun h => ⟨by decide, h⟩⟩
theorem dX7_at_131 : decode cX7_at 131 = .ok (.iconst 0, 1) := by decide +kernel
theorem rX7_at_131 {R : zP} {x0 x1 x2 x3 x4 : Option zV} {st : List zV} {M : zM} : uX7_at R 131 [x0, x1, x2, x3, x4] st M ↔ uX7_at R 132 [x0, x1, x2, x3, x4] (.inl (0) :: st) M := zU_step dX7_at_131 (Or.inl rfl)
theorem dX7_at_132 : decode cX7_at 132 = .ok (.invokestatic 155, 3) := by decide +kernel
theorem rX7_at_132 {R : zP} {x0 x1 x2 x3 x4 : Option zV} {st : List zV} {M : zM} {a0 : zV} : uX7_at R 132 [x0, x1, x2, x3, x4] (a0 :: st) M ↔ (st.length ≤ 4 ∧ zcv tX7_bit [a0] M (fun v M => uX7_at R 135 [x0, x1, x2, x3, x4] (v :: st) M)) := Iff.trans (zU_step dX7_at_132 (Or.inl rfl)) ⟨fun h => ⟨h.2.1, zcv_of h.2.2⟩, fun h => ⟨rfl, h.1, zcv_to h.2⟩⟩
theorem dX7_at_135 : decode cX7_at 135 = .ok (.ireturn, 1) := by decide +kernel
theorem rX7_at_135 {R : zP} {x0 x1 x2 x3 x4 : Option zV} {M : zM} {a : Int} : uX7_at R 135 [x0, x1, x2, x3, x4] [.inl a] M ↔ R (some (.inl a)) M := Iff.trans (zU_step dX7_at_135 (Or.inl rfl)) ⟨fun h => h.2.2, fun h => ⟨rfl, Or.inl rfl, h⟩⟩
theorem eX7_at {R : zP} {M : zM} {a0 : Nat} {p0 : Int} {p1 : Int} {p2 : Int} {p3 : Int} : tX7_at [.inr (.inr a0), .inl p0, .inl p1, .inl p2, .inl p3] M R ↔ uX7_at R 0 [some (.inr (.inr a0)), some (.inl p0), some (.inl p1), some (.inl p2), some (.inl p3)] [] M := ⟨fun h => h.2, fun h => ⟨show 5 ≤ 5 by decide, h⟩⟩
def uX7_able (R : zP) : zK := zU fX7 vX7_able cX7_able R
theorem dX7_able_0 : decode cX7_able 0 = .ok (.iload_n 1, 1) := by decide +kernel
theorem rX7_able_0 {R : zP} {x0 x2 x3 : Option zV} {st : List zV} {M : zM} {a : Int} : uX7_able R 0 [x0, some (.inl a), x2, x3] st M ↔ uX7_able R 1 [x0, some (.inl a), x2, x3] (.inl a :: st) M := zU_step dX7_able_0 (Or.inl rfl)
theorem dX7_able_1 : decode cX7_able 1 = .ok (.bipush 20, 2) := by decide +kernel
theorem rX7_able_1 {R : zP} {x0 x1 x2 x3 : Option zV} {st : List zV} {M : zM} : uX7_able R 1 [x0, x1, x2, x3] st M ↔ uX7_able R 3 [x0, x1, x2, x3] (.inl (20) :: st) M := Iff.trans (zU_step dX7_able_1 (Or.inl rfl)) ⟨fun h => h.2, fun h => ⟨by decide, h⟩⟩
theorem dX7_able_3 : decode cX7_able 3 = .ok (.invokestatic 94, 3) := by decide +kernel
theorem rX7_able_3 {R : zP} {x0 x1 x2 x3 : Option zV} {st : List zV} {M : zM} {a0 a1 : zV} : uX7_able R 3 [x0, x1, x2, x3] (a1 :: a0 :: st) M ↔ (st.length ≤ 4 ∧ zcv tX7_outside [a0, a1] M (fun v M => uX7_able R 6 [x0, x1, x2, x3] (v :: st) M)) := Iff.trans (zU_step dX7_able_3 (Or.inl rfl)) ⟨fun h => ⟨h.2.1, zcv_of h.2.2⟩, fun h => ⟨rfl, h.1, zcv_to h.2⟩⟩
theorem dX7_able_6 : decode cX7_able 6 = .ok (.ifCond .ne 25, 3) := by decide +kernel
theorem rX7_able_6 {R : zP} {x0 x1 x2 x3 : Option zV} {st : List zV} {M : zM} {a : Int} : uX7_able R 6 [x0, x1, x2, x3] (.inl a :: st) M ↔ (zIR a ∧ if a ≠ 0 then uX7_able R 31 [x0, x1, x2, x3] st M else uX7_able R 9 [x0, x1, x2, x3] st M) := Iff.trans (zU_step dX7_able_6 (Or.inl rfl)) ⟨fun h => ⟨h.1.1, (zite (c := a ≠ 0)).mpr h.2⟩, fun h => ⟨⟨h.1, by decide⟩, (zite (c := a ≠ 0)).mp h.2⟩⟩
theorem dX7_able_9 : decode cX7_able 9 = .ok (.iload_n 2, 1) := by decide +kernel
theorem rX7_able_9 {R : zP} {x0 x1 x3 : Option zV} {st : List zV} {M : zM} {a : Int} : uX7_able R 9 [x0, x1, some (.inl a), x3] st M ↔ uX7_able R 10 [x0, x1, some (.inl a), x3] (.inl a :: st) M := zU_step dX7_able_9 (Or.inl rfl)
theorem dX7_able_10 : decode cX7_able 10 = .ok (.aload_n 0, 1) := by decide +kernel
theorem rX7_able_10 {R : zP} {x1 x2 x3 : Option zV} {st : List zV} {M : zM} {a : Nat} : uX7_able R 10 [some (.inr (.inr a)), x1, x2, x3] st M ↔ uX7_able R 11 [some (.inr (.inr a)), x1, x2, x3] (.inr (.inr a) :: st) M := zU_step dX7_able_10 (Or.inl rfl)
theorem dX7_able_11 : decode cX7_able 11 = .ok (.getfield 14, 3) := by decide +kernel
theorem rX7_able_11 {R : zP} {x0 x1 x2 x3 : Option zV} {st : List zV} {M : zM} {r : Nat} : uX7_able R 11 [x0, x1, x2, x3] (.inr (.inr r) :: st) M ↔ zgetx fX7 14 r M (fun v => uX7_able R 14 [x0, x1, x2, x3] (v :: st) M) := zU_step dX7_able_11 (Or.inl rfl)
theorem dX7_able_14 : decode cX7_able 14 = .ok (.getfield 116, 3) := by decide +kernel
theorem rX7_able_14 {R : zP} {x0 x1 x2 x3 : Option zV} {st : List zV} {M : zM} {r : Nat} : uX7_able R 14 [x0, x1, x2, x3] (.inr (.inr r) :: st) M ↔ zgetx fX7 116 r M (fun v => uX7_able R 17 [x0, x1, x2, x3] (v :: st) M) := zU_step dX7_able_14 (Or.inl rfl)
theorem dX7_able_17 : decode cX7_able 17 = .ok (.invokestatic 94, 3) := by decide +kernel
theorem rX7_able_17 {R : zP} {x0 x1 x2 x3 : Option zV} {st : List zV} {M : zM} {a0 a1 : zV} : uX7_able R 17 [x0, x1, x2, x3] (a1 :: a0 :: st) M ↔ (st.length ≤ 4 ∧ zcv tX7_outside [a0, a1] M (fun v M => uX7_able R 20 [x0, x1, x2, x3] (v :: st) M)) := Iff.trans (zU_step dX7_able_17 (Or.inl rfl)) ⟨fun h => ⟨h.2.1, zcv_of h.2.2⟩, fun h => ⟨rfl, h.1, zcv_to h.2⟩⟩
theorem dX7_able_20 : decode cX7_able 20 = .ok (.ifCond .ne 11, 3) := by decide +kernel
theorem rX7_able_20 {R : zP} {x0 x1 x2 x3 : Option zV} {st : List zV} {M : zM} {a : Int} : uX7_able R 20 [x0, x1, x2, x3] (.inl a :: st) M ↔ (zIR a ∧ if a ≠ 0 then uX7_able R 31 [x0, x1, x2, x3] st M else uX7_able R 23 [x0, x1, x2, x3] st M) := Iff.trans (zU_step dX7_able_20 (Or.inl rfl)) ⟨fun h => ⟨h.1.1, (zite (c := a ≠ 0)).mpr h.2⟩, fun h => ⟨⟨h.1, by decide⟩, (zite (c := a ≠ 0)).mp h.2⟩⟩
theorem dX7_able_23 : decode cX7_able 23 = .ok (.iload_n 3, 1) := by decide +kernel
theorem rX7_able_23 {R : zP} {x0 x1 x2 : Option zV} {st : List zV} {M : zM} {a : Int} : uX7_able R 23 [x0, x1, x2, some (.inl a)] st M ↔ uX7_able R 24 [x0, x1, x2, some (.inl a)] (.inl a :: st) M := zU_step dX7_able_23 (Or.inl rfl)
theorem dX7_able_24 : decode cX7_able 24 = .ok (.iconst 3, 1) := by decide +kernel
theorem rX7_able_24 {R : zP} {x0 x1 x2 x3 : Option zV} {st : List zV} {M : zM} : uX7_able R 24 [x0, x1, x2, x3] st M ↔ uX7_able R 25 [x0, x1, x2, x3] (.inl (3) :: st) M := zU_step dX7_able_24 (Or.inl rfl)
theorem dX7_able_25 : decode cX7_able 25 = .ok (.invokestatic 94, 3) := by decide +kernel
theorem rX7_able_25 {R : zP} {x0 x1 x2 x3 : Option zV} {st : List zV} {M : zM} {a0 a1 : zV} : uX7_able R 25 [x0, x1, x2, x3] (a1 :: a0 :: st) M ↔ (st.length ≤ 4 ∧ zcv tX7_outside [a0, a1] M (fun v M => uX7_able R 28 [x0, x1, x2, x3] (v :: st) M)) := Iff.trans (zU_step dX7_able_25 (Or.inl rfl)) ⟨fun h => ⟨h.2.1, zcv_of h.2.2⟩, fun h => ⟨rfl, h.1, zcv_to h.2⟩⟩
theorem dX7_able_28 : decode cX7_able 28 = .ok (.ifCond .eq 6, 3) := by decide +kernel
theorem rX7_able_28 {R : zP} {x0 x1 x2 x3 : Option zV} {st : List zV} {M : zM} {a : Int} : uX7_able R 28 [x0, x1, x2, x3] (.inl a :: st) M ↔ (zIR a ∧ if a = 0 then uX7_able R 34 [x0, x1, x2, x3] st M else uX7_able R 31 [x0, x1, x2, x3] st M) := Iff.trans (zU_step dX7_able_28 (Or.inl rfl)) ⟨fun h => ⟨h.1.1, (zite (c := a = 0)).mpr h.2⟩, fun h => ⟨⟨h.1, by decide⟩, (zite (c := a = 0)).mp h.2⟩⟩
theorem dX7_able_31 : decode cX7_able 31 = .ok (.bipush (-2), 2) := by decide +kernel
theorem rX7_able_31 {R : zP} {x0 x1 x2 x3 : Option zV} {st : List zV} {M : zM} : uX7_able R 31 [x0, x1, x2, x3] st M ↔ uX7_able R 33 [x0, x1, x2, x3] (.inl (-2) :: st) M := Iff.trans (zU_step dX7_able_31 (Or.inl rfl)) ⟨fun h => h.2, fun h => ⟨by decide, h⟩⟩
theorem dX7_able_33 : decode cX7_able 33 = .ok (.ireturn, 1) := by decide +kernel
theorem rX7_able_33 {R : zP} {x0 x1 x2 x3 : Option zV} {M : zM} {a : Int} : uX7_able R 33 [x0, x1, x2, x3] [.inl a] M ↔ R (some (.inl a)) M := Iff.trans (zU_step dX7_able_33 (Or.inl rfl)) ⟨fun h => h.2.2, fun h => ⟨rfl, Or.inl rfl, h⟩⟩
theorem dX7_able_34 : decode cX7_able 34 = .ok (.aload_n 0, 1) := by decide +kernel
theorem rX7_able_34 {R : zP} {x1 x2 x3 : Option zV} {st : List zV} {M : zM} {a : Nat} : uX7_able R 34 [some (.inr (.inr a)), x1, x2, x3] st M ↔ uX7_able R 35 [some (.inr (.inr a)), x1, x2, x3] (.inr (.inr a) :: st) M := zU_step dX7_able_34 (Or.inl rfl)
theorem dX7_able_35 : decode cX7_able 35 = .ok (.aload_n 0, 1) := by decide +kernel
theorem rX7_able_35 {R : zP} {x1 x2 x3 : Option zV} {st : List zV} {M : zM} {a : Nat} : uX7_able R 35 [some (.inr (.inr a)), x1, x2, x3] st M ↔ uX7_able R 36 [some (.inr (.inr a)), x1, x2, x3] (.inr (.inr a) :: st) M := zU_step dX7_able_35 (Or.inl rfl)
theorem dX7_able_36 : decode cX7_able 36 = .ok (.getfield 28, 3) := by decide +kernel
theorem rX7_able_36 {R : zP} {x0 x1 x2 x3 : Option zV} {st : List zV} {M : zM} {r : Nat} : uX7_able R 36 [x0, x1, x2, x3] (.inr (.inr r) :: st) M ↔ zgetx fX7 28 r M (fun v => uX7_able R 39 [x0, x1, x2, x3] (v :: st) M) := zU_step dX7_able_36 (Or.inl rfl)
theorem dX7_able_39 : decode cX7_able 39 = .ok (.iload_n 2, 1) := by decide +kernel
theorem rX7_able_39 {R : zP} {x0 x1 x3 : Option zV} {st : List zV} {M : zM} {a : Int} : uX7_able R 39 [x0, x1, some (.inl a), x3] st M ↔ uX7_able R 40 [x0, x1, some (.inl a), x3] (.inl a :: st) M := zU_step dX7_able_39 (Or.inl rfl)
theorem dX7_able_40 : decode cX7_able 40 = .ok (.iload_n 1, 1) := by decide +kernel
theorem rX7_able_40 {R : zP} {x0 x2 x3 : Option zV} {st : List zV} {M : zM} {a : Int} : uX7_able R 40 [x0, some (.inl a), x2, x3] st M ↔ uX7_able R 41 [x0, some (.inl a), x2, x3] (.inl a :: st) M := zU_step dX7_able_40 (Or.inl rfl)
theorem dX7_able_41 : decode cX7_able 41 = .ok (.sipush 255, 3) := by decide +kernel
theorem rX7_able_41 {R : zP} {x0 x1 x2 x3 : Option zV} {st : List zV} {M : zM} : uX7_able R 41 [x0, x1, x2, x3] st M ↔ uX7_able R 44 [x0, x1, x2, x3] (.inl (255) :: st) M := Iff.trans (zU_step dX7_able_41 (Or.inl rfl)) ⟨fun h => h.2, fun h => ⟨by decide, h⟩⟩
theorem dX7_able_44 : decode cX7_able 44 = .ok (.invokevirtual 142, 3) := by decide +kernel
theorem rX7_able_44 {R : zP} {x0 x1 x2 x3 : Option zV} {st : List zV} {M : zM} {a0 a1 a2 a3 a4 : zV} : uX7_able R 44 [x0, x1, x2, x3] (a4 :: a3 :: a2 :: a1 :: a0 :: st) M ↔ (st.length ≤ 4 ∧ zcn (zv 7 tX7_raise) [a0, a1, a2, a3, a4] M (fun M => uX7_able R 47 [x0, x1, x2, x3] st M)) := Iff.trans (zU_step dX7_able_44 (Or.inl rfl)) ⟨fun h => ⟨h.2.1, zcn_of h.2.2⟩, fun h => ⟨rfl, h.1, zcn_to h.2⟩⟩
theorem dX7_able_47 : decode cX7_able 47 = .ok (.iload_n 3, 1) := by decide +kernel
theorem rX7_able_47 {R : zP} {x0 x1 x2 : Option zV} {st : List zV} {M : zM} {a : Int} : uX7_able R 47 [x0, x1, x2, some (.inl a)] st M ↔ uX7_able R 48 [x0, x1, x2, some (.inl a)] (.inl a :: st) M := zU_step dX7_able_47 (Or.inl rfl)
theorem dX7_able_48 : decode cX7_able 48 = .ok (.lookupswitch 44 #[(0, 28), (1, 36)], 28) := by decide +kernel
theorem rX7_able_48 {R : zP} {x0 x1 x2 x3 : Option zV} {st : List zV} {M : zM} {a : Int} : uX7_able R 48 [x0, x1, x2, x3] (.inl a :: st) M ↔ (zIR a ∧ (a = 0 → uX7_able R 76 [x0, x1, x2, x3] st M) ∧ (a = 1 → uX7_able R 84 [x0, x1, x2, x3] st M) ∧ ((a ≠ 0 ∧ a ≠ 1) → uX7_able R 92 [x0, x1, x2, x3] st M)) := by
  refine Iff.trans (zU_step dX7_able_48 (Or.inr rfl)) ?_
  constructor
  · intro h
    refine ⟨h.1, fun e => by subst e; exact h.2.2.2, fun e => by subst e; exact h.2.2.2, fun e => ?_⟩
    have h2 := h.2.2.2
    have e3 : Op.lookupswitch.offset [(0, 28), (1, 36)] 44 a = 44 := by simp [Op.lookupswitch.offset, e]; try omega
    simp only [e3] at h2
    exact h2
  · intro h
    refine ⟨h.1, by decide, ?_⟩
    by_cases e : a ≠ 0 ∧ a ≠ 1
    · have e3 : Op.lookupswitch.offset [(0, 28), (1, 36)] 44 a = 44 := by simp [Op.lookupswitch.offset, e]; try omega
      simp only [e3]
      exact ⟨by decide, h.2.2.2 e⟩
    · have e2 : a = 0 ∨ a = 1 := by omega
      rcases e2 with e2 | e2
      · subst e2
        exact ⟨by decide, h.2.1 rfl⟩
      · subst e2
        exact ⟨by decide, h.2.2.1 rfl⟩
theorem dX7_able_76 : decode cX7_able 76 = .ok (.aload_n 0, 1) := by decide +kernel
theorem rX7_able_76 {R : zP} {x1 x2 x3 : Option zV} {st : List zV} {M : zM} {a : Nat} : uX7_able R 76 [some (.inr (.inr a)), x1, x2, x3] st M ↔ uX7_able R 77 [some (.inr (.inr a)), x1, x2, x3] (.inr (.inr a) :: st) M := zU_step dX7_able_76 (Or.inl rfl)
theorem dX7_able_77 : decode cX7_able 77 = .ok (.getfield 55, 3) := by decide +kernel
theorem rX7_able_77 {R : zP} {x0 x1 x2 x3 : Option zV} {st : List zV} {M : zM} {r : Nat} : uX7_able R 77 [x0, x1, x2, x3] (.inr (.inr r) :: st) M ↔ zgetx fX7 55 r M (fun v => uX7_able R 80 [x0, x1, x2, x3] (v :: st) M) := zU_step dX7_able_77 (Or.inl rfl)
theorem dX7_able_80 : decode cX7_able 80 = .ok (.getfield 159, 3) := by decide +kernel
theorem rX7_able_80 {R : zP} {x0 x1 x2 x3 : Option zV} {st : List zV} {M : zM} {r : Nat} : uX7_able R 80 [x0, x1, x2, x3] (.inr (.inr r) :: st) M ↔ zgetx fX7 159 r M (fun v => uX7_able R 83 [x0, x1, x2, x3] (v :: st) M) := zU_step dX7_able_80 (Or.inl rfl)
theorem dX7_able_83 : decode cX7_able 83 = .ok (.ireturn, 1) := by decide +kernel
theorem rX7_able_83 {R : zP} {x0 x1 x2 x3 : Option zV} {M : zM} {a : Int} : uX7_able R 83 [x0, x1, x2, x3] [.inl a] M ↔ R (some (.inl a)) M := Iff.trans (zU_step dX7_able_83 (Or.inl rfl)) ⟨fun h => h.2.2, fun h => ⟨rfl, Or.inl rfl, h⟩⟩
theorem dX7_able_84 : decode cX7_able 84 = .ok (.aload_n 0, 1) := by decide +kernel
theorem rX7_able_84 {R : zP} {x1 x2 x3 : Option zV} {st : List zV} {M : zM} {a : Nat} : uX7_able R 84 [some (.inr (.inr a)), x1, x2, x3] st M ↔ uX7_able R 85 [some (.inr (.inr a)), x1, x2, x3] (.inr (.inr a) :: st) M := zU_step dX7_able_84 (Or.inl rfl)
theorem dX7_able_85 : decode cX7_able 85 = .ok (.getfield 55, 3) := by decide +kernel
theorem rX7_able_85 {R : zP} {x0 x1 x2 x3 : Option zV} {st : List zV} {M : zM} {r : Nat} : uX7_able R 85 [x0, x1, x2, x3] (.inr (.inr r) :: st) M ↔ zgetx fX7 55 r M (fun v => uX7_able R 88 [x0, x1, x2, x3] (v :: st) M) := zU_step dX7_able_85 (Or.inl rfl)
theorem dX7_able_88 : decode cX7_able 88 = .ok (.getfield 162, 3) := by decide +kernel
theorem rX7_able_88 {R : zP} {x0 x1 x2 x3 : Option zV} {st : List zV} {M : zM} {r : Nat} : uX7_able R 88 [x0, x1, x2, x3] (.inr (.inr r) :: st) M ↔ zgetx fX7 162 r M (fun v => uX7_able R 91 [x0, x1, x2, x3] (v :: st) M) := zU_step dX7_able_88 (Or.inl rfl)
theorem dX7_able_91 : decode cX7_able 91 = .ok (.ireturn, 1) := by decide +kernel
theorem rX7_able_91 {R : zP} {x0 x1 x2 x3 : Option zV} {M : zM} {a : Int} : uX7_able R 91 [x0, x1, x2, x3] [.inl a] M ↔ R (some (.inl a)) M := Iff.trans (zU_step dX7_able_91 (Or.inl rfl)) ⟨fun h => h.2.2, fun h => ⟨rfl, Or.inl rfl, h⟩⟩
theorem dX7_able_92 : decode cX7_able 92 = .ok (.aload_n 0, 1) := by decide +kernel
theorem rX7_able_92 {R : zP} {x1 x2 x3 : Option zV} {st : List zV} {M : zM} {a : Nat} : uX7_able R 92 [some (.inr (.inr a)), x1, x2, x3] st M ↔ uX7_able R 93 [some (.inr (.inr a)), x1, x2, x3] (.inr (.inr a) :: st) M := zU_step dX7_able_92 (Or.inl rfl)
theorem dX7_able_93 : decode cX7_able 93 = .ok (.getfield 55, 3) := by decide +kernel
theorem rX7_able_93 {R : zP} {x0 x1 x2 x3 : Option zV} {st : List zV} {M : zM} {r : Nat} : uX7_able R 93 [x0, x1, x2, x3] (.inr (.inr r) :: st) M ↔ zgetx fX7 55 r M (fun v => uX7_able R 96 [x0, x1, x2, x3] (v :: st) M) := zU_step dX7_able_93 (Or.inl rfl)
theorem dX7_able_96 : decode cX7_able 96 = .ok (.aload_n 0, 1) := by decide +kernel
theorem rX7_able_96 {R : zP} {x1 x2 x3 : Option zV} {st : List zV} {M : zM} {a : Nat} : uX7_able R 96 [some (.inr (.inr a)), x1, x2, x3] st M ↔ uX7_able R 97 [some (.inr (.inr a)), x1, x2, x3] (.inr (.inr a) :: st) M := zU_step dX7_able_96 (Or.inl rfl)
theorem dX7_able_97 : decode cX7_able 97 = .ok (.getfield 14, 3) := by decide +kernel
theorem rX7_able_97 {R : zP} {x0 x1 x2 x3 : Option zV} {st : List zV} {M : zM} {r : Nat} : uX7_able R 97 [x0, x1, x2, x3] (.inr (.inr r) :: st) M ↔ zgetx fX7 14 r M (fun v => uX7_able R 100 [x0, x1, x2, x3] (v :: st) M) := zU_step dX7_able_97 (Or.inl rfl)
theorem dX7_able_100 : decode cX7_able 100 = .ok (.iload_n 2, 1) := by decide +kernel
theorem rX7_able_100 {R : zP} {x0 x1 x3 : Option zV} {st : List zV} {M : zM} {a : Int} : uX7_able R 100 [x0, x1, some (.inl a), x3] st M ↔ uX7_able R 101 [x0, x1, some (.inl a), x3] (.inl a :: st) M := zU_step dX7_able_100 (Or.inl rfl)
theorem dX7_able_101 : decode cX7_able 101 = .ok (.invokevirtual 165, 3) := by decide +kernel
theorem rX7_able_101 {R : zP} {x0 x1 x2 x3 : Option zV} {st : List zV} {M : zM} {a0 a1 a2 : zV} : uX7_able R 101 [x0, x1, x2, x3] (a2 :: a1 :: a0 :: st) M ↔ (st.length ≤ 4 ∧ zcv (zv 3 tX3_knows) [a0, a1, a2] M (fun v M => uX7_able R 104 [x0, x1, x2, x3] (v :: st) M)) := Iff.trans (zU_step dX7_able_101 (Or.inl rfl)) ⟨fun h => ⟨h.2.1, zcv_of h.2.2⟩, fun h => ⟨rfl, h.1, zcv_to h.2⟩⟩
theorem dX7_able_104 : decode cX7_able 104 = .ok (.invokestatic 155, 3) := by decide +kernel
theorem rX7_able_104 {R : zP} {x0 x1 x2 x3 : Option zV} {st : List zV} {M : zM} {a0 : zV} : uX7_able R 104 [x0, x1, x2, x3] (a0 :: st) M ↔ (st.length ≤ 4 ∧ zcv tX7_bit [a0] M (fun v M => uX7_able R 107 [x0, x1, x2, x3] (v :: st) M)) := Iff.trans (zU_step dX7_able_104 (Or.inl rfl)) ⟨fun h => ⟨h.2.1, zcv_of h.2.2⟩, fun h => ⟨rfl, h.1, zcv_to h.2⟩⟩
theorem dX7_able_107 : decode cX7_able 107 = .ok (.ireturn, 1) := by decide +kernel
theorem rX7_able_107 {R : zP} {x0 x1 x2 x3 : Option zV} {M : zM} {a : Int} : uX7_able R 107 [x0, x1, x2, x3] [.inl a] M ↔ R (some (.inl a)) M := Iff.trans (zU_step dX7_able_107 (Or.inl rfl)) ⟨fun h => h.2.2, fun h => ⟨rfl, Or.inl rfl, h⟩⟩
theorem eX7_able {R : zP} {M : zM} {a0 : Nat} {p0 : Int} {p1 : Int} {p2 : Int} : tX7_able [.inr (.inr a0), .inl p0, .inl p1, .inl p2] M R ↔ uX7_able R 0 [some (.inr (.inr a0)), some (.inl p0), some (.inl p1), some (.inl p2)] [] M := ⟨fun h => h.2, fun h => ⟨show 4 ≤ 4 by decide, h⟩⟩
def uX7_ayes (R : zP) : zK := zU fX7 vX7_ayes cX7_ayes R
theorem dX7_ayes_0 : decode cX7_ayes 0 = .ok (.iconst 0, 1) := by decide +kernel
theorem rX7_ayes_0 {R : zP} {x0 x1 x2 x3 x4 : Option zV} {st : List zV} {M : zM} : uX7_ayes R 0 [x0, x1, x2, x3, x4] st M ↔ uX7_ayes R 1 [x0, x1, x2, x3, x4] (.inl (0) :: st) M := zU_step dX7_ayes_0 (Or.inl rfl)
theorem dX7_ayes_1 : decode cX7_ayes 1 = .ok (.istore_n 3, 1) := by decide +kernel
theorem rX7_ayes_1 {R : zP} {x0 x1 x3 x4 : Option zV} {st : List zV} {M : zM} {a : Int} {y : Int} : uX7_ayes R 1 [x0, x1, some (.inl y), x3, x4] (.inl a :: st) M ↔ uX7_ayes R 2 [x0, x1, some (.inl y), some (.inl a), x4] st M := Iff.trans (zU_step dX7_ayes_1 (Or.inl rfl)) ⟨fun h => h.2, fun h => ⟨show 3 < 5 by decide, h⟩⟩
theorem rX7_ayes_1z {R : zP} {x0 x1 x2 x3 x4 : Option zV} {st : List zV} {M : zM} {a : Int} : uX7_ayes R 1 [x0, x1, x2, x3, x4] (.inl a :: st) M ↔ uX7_ayes R 2 [x0, x1, zkeep x2, some (.inl a), x4] st M := Iff.trans (zU_step dX7_ayes_1 (Or.inl rfl)) ⟨fun h => h.2, fun h => ⟨show 3 < 5 by decide, h⟩⟩
theorem dX7_ayes_2 : decode cX7_ayes 2 = .ok (.iconst 0, 1) := by decide +kernel
theorem rX7_ayes_2 {R : zP} {x0 x1 x2 x3 x4 : Option zV} {st : List zV} {M : zM} : uX7_ayes R 2 [x0, x1, x2, x3, x4] st M ↔ uX7_ayes R 3 [x0, x1, x2, x3, x4] (.inl (0) :: st) M := zU_step dX7_ayes_2 (Or.inl rfl)
theorem dX7_ayes_3 : decode cX7_ayes 3 = .ok (.istore 4, 2) := by decide +kernel
theorem rX7_ayes_3 {R : zP} {x0 x1 x2 x4 : Option zV} {st : List zV} {M : zM} {a : Int} {y : Int} : uX7_ayes R 3 [x0, x1, x2, some (.inl y), x4] (.inl a :: st) M ↔ uX7_ayes R 5 [x0, x1, x2, some (.inl y), some (.inl a)] st M := Iff.trans (zU_step dX7_ayes_3 (Or.inl rfl)) ⟨fun h => h.2, fun h => ⟨show 4 < 5 by decide, h⟩⟩
theorem rX7_ayes_3z {R : zP} {x0 x1 x2 x3 x4 : Option zV} {st : List zV} {M : zM} {a : Int} : uX7_ayes R 3 [x0, x1, x2, x3, x4] (.inl a :: st) M ↔ uX7_ayes R 5 [x0, x1, x2, zkeep x3, some (.inl a)] st M := Iff.trans (zU_step dX7_ayes_3 (Or.inl rfl)) ⟨fun h => h.2, fun h => ⟨show 4 < 5 by decide, h⟩⟩
theorem dX7_ayes_5 : decode cX7_ayes 5 = .ok (.iload 4, 2) := by decide +kernel
theorem rX7_ayes_5 {R : zP} {x0 x1 x2 x3 : Option zV} {st : List zV} {M : zM} {a : Int} : uX7_ayes R 5 [x0, x1, x2, x3, some (.inl a)] st M ↔ uX7_ayes R 7 [x0, x1, x2, x3, some (.inl a)] (.inl a :: st) M := zU_step dX7_ayes_5 (Or.inl rfl)
theorem dX7_ayes_7 : decode cX7_ayes 7 = .ok (.aload_n 0, 1) := by decide +kernel
theorem rX7_ayes_7 {R : zP} {x1 x2 x3 x4 : Option zV} {st : List zV} {M : zM} {a : Nat} : uX7_ayes R 7 [some (.inr (.inr a)), x1, x2, x3, x4] st M ↔ uX7_ayes R 8 [some (.inr (.inr a)), x1, x2, x3, x4] (.inr (.inr a) :: st) M := zU_step dX7_ayes_7 (Or.inl rfl)
theorem dX7_ayes_8 : decode cX7_ayes 8 = .ok (.getfield 14, 3) := by decide +kernel
theorem rX7_ayes_8 {R : zP} {x0 x1 x2 x3 x4 : Option zV} {st : List zV} {M : zM} {r : Nat} : uX7_ayes R 8 [x0, x1, x2, x3, x4] (.inr (.inr r) :: st) M ↔ zgetx fX7 14 r M (fun v => uX7_ayes R 11 [x0, x1, x2, x3, x4] (v :: st) M) := zU_step dX7_ayes_8 (Or.inl rfl)
theorem dX7_ayes_11 : decode cX7_ayes 11 = .ok (.getfield 116, 3) := by decide +kernel
theorem rX7_ayes_11 {R : zP} {x0 x1 x2 x3 x4 : Option zV} {st : List zV} {M : zM} {r : Nat} : uX7_ayes R 11 [x0, x1, x2, x3, x4] (.inr (.inr r) :: st) M ↔ zgetx fX7 116 r M (fun v => uX7_ayes R 14 [x0, x1, x2, x3, x4] (v :: st) M) := zU_step dX7_ayes_11 (Or.inl rfl)
theorem dX7_ayes_14 : decode cX7_ayes 14 = .ok (.if_icmp .ge 50, 3) := by decide +kernel
theorem rX7_ayes_14 {R : zP} {x0 x1 x2 x3 x4 : Option zV} {st : List zV} {M : zM} {a b : Int} : uX7_ayes R 14 [x0, x1, x2, x3, x4] (.inl b :: .inl a :: st) M ↔ ((zIR a ∧ zIR b) ∧ if b ≤ a then uX7_ayes R 64 [x0, x1, x2, x3, x4] st M else uX7_ayes R 17 [x0, x1, x2, x3, x4] st M) := Iff.trans (zU_step dX7_ayes_14 (Or.inl rfl)) ⟨fun h => ⟨⟨h.1.1, h.1.2.1⟩, (zite (c := b ≤ a)).mpr h.2⟩, fun h => ⟨⟨h.1.1, h.1.2, by decide⟩, (zite (c := b ≤ a)).mp h.2⟩⟩
theorem dX7_ayes_17 : decode cX7_ayes 17 = .ok (.aload_n 0, 1) := by decide +kernel
theorem rX7_ayes_17 {R : zP} {x1 x2 x3 x4 : Option zV} {st : List zV} {M : zM} {a : Nat} : uX7_ayes R 17 [some (.inr (.inr a)), x1, x2, x3, x4] st M ↔ uX7_ayes R 18 [some (.inr (.inr a)), x1, x2, x3, x4] (.inr (.inr a) :: st) M := zU_step dX7_ayes_17 (Or.inl rfl)
theorem dX7_ayes_18 : decode cX7_ayes 18 = .ok (.aload_n 0, 1) := by decide +kernel
theorem rX7_ayes_18 {R : zP} {x1 x2 x3 x4 : Option zV} {st : List zV} {M : zM} {a : Nat} : uX7_ayes R 18 [some (.inr (.inr a)), x1, x2, x3, x4] st M ↔ uX7_ayes R 19 [some (.inr (.inr a)), x1, x2, x3, x4] (.inr (.inr a) :: st) M := zU_step dX7_ayes_18 (Or.inl rfl)
theorem dX7_ayes_19 : decode cX7_ayes 19 = .ok (.getfield 28, 3) := by decide +kernel
theorem rX7_ayes_19 {R : zP} {x0 x1 x2 x3 x4 : Option zV} {st : List zV} {M : zM} {r : Nat} : uX7_ayes R 19 [x0, x1, x2, x3, x4] (.inr (.inr r) :: st) M ↔ zgetx fX7 28 r M (fun v => uX7_ayes R 22 [x0, x1, x2, x3, x4] (v :: st) M) := zU_step dX7_ayes_19 (Or.inl rfl)
theorem dX7_ayes_22 : decode cX7_ayes 22 = .ok (.iload 4, 2) := by decide +kernel
theorem rX7_ayes_22 {R : zP} {x0 x1 x2 x3 : Option zV} {st : List zV} {M : zM} {a : Int} : uX7_ayes R 22 [x0, x1, x2, x3, some (.inl a)] st M ↔ uX7_ayes R 24 [x0, x1, x2, x3, some (.inl a)] (.inl a :: st) M := zU_step dX7_ayes_22 (Or.inl rfl)
theorem dX7_ayes_24 : decode cX7_ayes 24 = .ok (.iload_n 1, 1) := by decide +kernel
theorem rX7_ayes_24 {R : zP} {x0 x2 x3 x4 : Option zV} {st : List zV} {M : zM} {a : Int} : uX7_ayes R 24 [x0, some (.inl a), x2, x3, x4] st M ↔ uX7_ayes R 25 [x0, some (.inl a), x2, x3, x4] (.inl a :: st) M := zU_step dX7_ayes_24 (Or.inl rfl)
theorem dX7_ayes_25 : decode cX7_ayes 25 = .ok (.sipush 255, 3) := by decide +kernel
theorem rX7_ayes_25 {R : zP} {x0 x1 x2 x3 x4 : Option zV} {st : List zV} {M : zM} : uX7_ayes R 25 [x0, x1, x2, x3, x4] st M ↔ uX7_ayes R 28 [x0, x1, x2, x3, x4] (.inl (255) :: st) M := Iff.trans (zU_step dX7_ayes_25 (Or.inl rfl)) ⟨fun h => h.2, fun h => ⟨by decide, h⟩⟩
theorem dX7_ayes_28 : decode cX7_ayes 28 = .ok (.invokevirtual 142, 3) := by decide +kernel
theorem rX7_ayes_28 {R : zP} {x0 x1 x2 x3 x4 : Option zV} {st : List zV} {M : zM} {a0 a1 a2 a3 a4 : zV} : uX7_ayes R 28 [x0, x1, x2, x3, x4] (a4 :: a3 :: a2 :: a1 :: a0 :: st) M ↔ (st.length ≤ 4 ∧ zcn (zv 7 tX7_raise) [a0, a1, a2, a3, a4] M (fun M => uX7_ayes R 31 [x0, x1, x2, x3, x4] st M)) := Iff.trans (zU_step dX7_ayes_28 (Or.inl rfl)) ⟨fun h => ⟨h.2.1, zcn_of h.2.2⟩, fun h => ⟨rfl, h.1, zcn_to h.2⟩⟩
theorem dX7_ayes_31 : decode cX7_ayes 31 = .ok (.iload_n 3, 1) := by decide +kernel
theorem rX7_ayes_31 {R : zP} {x0 x1 x2 x4 : Option zV} {st : List zV} {M : zM} {a : Int} : uX7_ayes R 31 [x0, x1, x2, some (.inl a), x4] st M ↔ uX7_ayes R 32 [x0, x1, x2, some (.inl a), x4] (.inl a :: st) M := zU_step dX7_ayes_31 (Or.inl rfl)
theorem dX7_ayes_32 : decode cX7_ayes 32 = .ok (.aload_n 0, 1) := by decide +kernel
theorem rX7_ayes_32 {R : zP} {x1 x2 x3 x4 : Option zV} {st : List zV} {M : zM} {a : Nat} : uX7_ayes R 32 [some (.inr (.inr a)), x1, x2, x3, x4] st M ↔ uX7_ayes R 33 [some (.inr (.inr a)), x1, x2, x3, x4] (.inr (.inr a) :: st) M := zU_step dX7_ayes_32 (Or.inl rfl)
theorem dX7_ayes_33 : decode cX7_ayes 33 = .ok (.getfield 55, 3) := by decide +kernel
theorem rX7_ayes_33 {R : zP} {x0 x1 x2 x3 x4 : Option zV} {st : List zV} {M : zM} {r : Nat} : uX7_ayes R 33 [x0, x1, x2, x3, x4] (.inr (.inr r) :: st) M ↔ zgetx fX7 55 r M (fun v => uX7_ayes R 36 [x0, x1, x2, x3, x4] (v :: st) M) := zU_step dX7_ayes_33 (Or.inl rfl)
theorem dX7_ayes_36 : decode cX7_ayes 36 = .ok (.getfield 146, 3) := by decide +kernel
theorem rX7_ayes_36 {R : zP} {x0 x1 x2 x3 x4 : Option zV} {st : List zV} {M : zM} {r : Nat} : uX7_ayes R 36 [x0, x1, x2, x3, x4] (.inr (.inr r) :: st) M ↔ zgetx fX7 146 r M (fun v => uX7_ayes R 39 [x0, x1, x2, x3, x4] (v :: st) M) := zU_step dX7_ayes_36 (Or.inl rfl)
theorem dX7_ayes_39 : decode cX7_ayes 39 = .ok (.iload_n 2, 1) := by decide +kernel
theorem rX7_ayes_39 {R : zP} {x0 x1 x3 x4 : Option zV} {st : List zV} {M : zM} {a : Int} : uX7_ayes R 39 [x0, x1, some (.inl a), x3, x4] st M ↔ uX7_ayes R 40 [x0, x1, some (.inl a), x3, x4] (.inl a :: st) M := zU_step dX7_ayes_39 (Or.inl rfl)
theorem dX7_ayes_40 : decode cX7_ayes 40 = .ok (.iaload, 1) := by decide +kernel
theorem rX7_ayes_40 {R : zP} {x0 x1 x2 x3 x4 : Option zV} {st : List zV} {M : zM} {i : Int} {r : Nat} : uX7_ayes R 40 [x0, x1, x2, x3, x4] (.inl i :: .inr (.inr r) :: st) M ↔ zread fX7 0 r M i (fun v => uX7_ayes R 41 [x0, x1, x2, x3, x4] (.inl v :: st) M) := zU_step dX7_ayes_40 (Or.inl rfl)
theorem dX7_ayes_41 : decode cX7_ayes 41 = .ok (.iconst 5, 1) := by decide +kernel
theorem rX7_ayes_41 {R : zP} {x0 x1 x2 x3 x4 : Option zV} {st : List zV} {M : zM} : uX7_ayes R 41 [x0, x1, x2, x3, x4] st M ↔ uX7_ayes R 42 [x0, x1, x2, x3, x4] (.inl (5) :: st) M := zU_step dX7_ayes_41 (Or.inl rfl)
theorem dX7_ayes_42 : decode cX7_ayes 42 = .ok (.if_icmp .lt 7, 3) := by decide +kernel
theorem rX7_ayes_42 {R : zP} {x0 x1 x2 x3 x4 : Option zV} {st : List zV} {M : zM} {a b : Int} : uX7_ayes R 42 [x0, x1, x2, x3, x4] (.inl b :: .inl a :: st) M ↔ ((zIR a ∧ zIR b) ∧ if a < b then uX7_ayes R 49 [x0, x1, x2, x3, x4] st M else uX7_ayes R 45 [x0, x1, x2, x3, x4] st M) := Iff.trans (zU_step dX7_ayes_42 (Or.inl rfl)) ⟨fun h => ⟨⟨h.1.1, h.1.2.1⟩, (zite (c := a < b)).mpr h.2⟩, fun h => ⟨⟨h.1.1, h.1.2, by decide⟩, (zite (c := a < b)).mp h.2⟩⟩
theorem dX7_ayes_45 : decode cX7_ayes 45 = .ok (.iconst 1, 1) := by decide +kernel
theorem rX7_ayes_45 {R : zP} {x0 x1 x2 x3 x4 : Option zV} {st : List zV} {M : zM} : uX7_ayes R 45 [x0, x1, x2, x3, x4] st M ↔ uX7_ayes R 46 [x0, x1, x2, x3, x4] (.inl (1) :: st) M := zU_step dX7_ayes_45 (Or.inl rfl)
theorem dX7_ayes_46 : decode cX7_ayes 46 = .ok (.goto 4, 3) := by decide +kernel
theorem rX7_ayes_46 {R : zP} {x0 x1 x2 x3 x4 : Option zV} {st : List zV} {M : zM} : uX7_ayes R 46 [x0, x1, x2, x3, x4] st M ↔ uX7_ayes R 50 [x0, x1, x2, x3, x4] st M := Iff.trans (zU_step dX7_ayes_46 (Or.inl rfl)) ⟨fun h => h.2, fun h => ⟨by decide, h⟩⟩
theorem dX7_ayes_49 : decode cX7_ayes 49 = .ok (.iconst 0, 1) := by decide +kernel
theorem rX7_ayes_49 {R : zP} {x0 x1 x2 x3 x4 : Option zV} {st : List zV} {M : zM} : uX7_ayes R 49 [x0, x1, x2, x3, x4] st M ↔ uX7_ayes R 50 [x0, x1, x2, x3, x4] (.inl (0) :: st) M := zU_step dX7_ayes_49 (Or.inl rfl)
theorem dX7_ayes_50 : decode cX7_ayes 50 = .ok (.invokestatic 155, 3) := by decide +kernel
theorem rX7_ayes_50 {R : zP} {x0 x1 x2 x3 x4 : Option zV} {st : List zV} {M : zM} {a0 : zV} : uX7_ayes R 50 [x0, x1, x2, x3, x4] (a0 :: st) M ↔ (st.length ≤ 4 ∧ zcv tX7_bit [a0] M (fun v M => uX7_ayes R 53 [x0, x1, x2, x3, x4] (v :: st) M)) := Iff.trans (zU_step dX7_ayes_50 (Or.inl rfl)) ⟨fun h => ⟨h.2.1, zcv_of h.2.2⟩, fun h => ⟨rfl, h.1, zcv_to h.2⟩⟩
theorem dX7_ayes_53 : decode cX7_ayes 53 = .ok (.iload 4, 2) := by decide +kernel
theorem rX7_ayes_53 {R : zP} {x0 x1 x2 x3 : Option zV} {st : List zV} {M : zM} {a : Int} : uX7_ayes R 53 [x0, x1, x2, x3, some (.inl a)] st M ↔ uX7_ayes R 55 [x0, x1, x2, x3, some (.inl a)] (.inl a :: st) M := zU_step dX7_ayes_53 (Or.inl rfl)
theorem dX7_ayes_55 : decode cX7_ayes 55 = .ok (.ishl, 1) := by decide +kernel
theorem rX7_ayes_55 {R : zP} {x0 x1 x2 x3 x4 : Option zV} {st : List zV} {M : zM} {a b : Int} : uX7_ayes R 55 [x0, x1, x2, x3, x4] (.inl b :: .inl a :: st) M ↔ uX7_ayes R 56 [x0, x1, x2, x3, x4] (.inl (zshl a b) :: st) M := zU_step dX7_ayes_55 (Or.inl rfl)
theorem dX7_ayes_56 : decode cX7_ayes 56 = .ok (.ior, 1) := by decide +kernel
theorem rX7_ayes_56 {R : zP} {x0 x1 x2 x3 x4 : Option zV} {st : List zV} {M : zM} {a b : Int} : uX7_ayes R 56 [x0, x1, x2, x3, x4] (.inl b :: .inl a :: st) M ↔ uX7_ayes R 57 [x0, x1, x2, x3, x4] (.inl (zor a b) :: st) M := zU_step dX7_ayes_56 (Or.inl rfl)
theorem dX7_ayes_57 : decode cX7_ayes 57 = .ok (.istore_n 3, 1) := by decide +kernel
theorem rX7_ayes_57 {R : zP} {x0 x1 x3 x4 : Option zV} {st : List zV} {M : zM} {a : Int} {y : Int} : uX7_ayes R 57 [x0, x1, some (.inl y), x3, x4] (.inl a :: st) M ↔ uX7_ayes R 58 [x0, x1, some (.inl y), some (.inl a), x4] st M := Iff.trans (zU_step dX7_ayes_57 (Or.inl rfl)) ⟨fun h => h.2, fun h => ⟨show 3 < 5 by decide, h⟩⟩
theorem rX7_ayes_57z {R : zP} {x0 x1 x2 x3 x4 : Option zV} {st : List zV} {M : zM} {a : Int} : uX7_ayes R 57 [x0, x1, x2, x3, x4] (.inl a :: st) M ↔ uX7_ayes R 58 [x0, x1, zkeep x2, some (.inl a), x4] st M := Iff.trans (zU_step dX7_ayes_57 (Or.inl rfl)) ⟨fun h => h.2, fun h => ⟨show 3 < 5 by decide, h⟩⟩
theorem dX7_ayes_58 : decode cX7_ayes 58 = .ok (.iinc 4 1, 3) := by decide +kernel
theorem rX7_ayes_58 {R : zP} {x0 x1 x2 : Option zV} {st : List zV} {M : zM} {a : Int} {y : Int} : uX7_ayes R 58 [x0, x1, x2, some (.inl y), some (.inl a)] st M ↔ uX7_ayes R 61 [x0, x1, x2, some (.inl y), some (.inl (a + (1)))] st M := Iff.trans (zU_step dX7_ayes_58 (Or.inl rfl)) ⟨fun h => h.2, fun h => ⟨show 4 < 5 by decide, h⟩⟩
theorem rX7_ayes_58z {R : zP} {x0 x1 x2 x3 : Option zV} {st : List zV} {M : zM} {a : Int} : uX7_ayes R 58 [x0, x1, x2, x3, some (.inl a)] st M ↔ uX7_ayes R 61 [x0, x1, x2, zkeep x3, some (.inl (a + (1)))] st M := Iff.trans (zU_step dX7_ayes_58 (Or.inl rfl)) ⟨fun h => h.2, fun h => ⟨show 4 < 5 by decide, h⟩⟩
theorem dX7_ayes_61 : decode cX7_ayes 61 = .ok (.goto (-56), 3) := by decide +kernel
theorem rX7_ayes_61 {R : zP} {x0 x1 x2 x3 x4 : Option zV} {st : List zV} {M : zM} : uX7_ayes R 61 [x0, x1, x2, x3, x4] st M ↔ uX7_ayes R 5 [x0, x1, x2, x3, x4] st M := Iff.trans (zU_step dX7_ayes_61 (Or.inl rfl)) ⟨fun h => h.2, fun h => ⟨by decide, h⟩⟩
theorem dX7_ayes_64 : decode cX7_ayes 64 = .ok (.iload_n 3, 1) := by decide +kernel
theorem rX7_ayes_64 {R : zP} {x0 x1 x2 x4 : Option zV} {st : List zV} {M : zM} {a : Int} : uX7_ayes R 64 [x0, x1, x2, some (.inl a), x4] st M ↔ uX7_ayes R 65 [x0, x1, x2, some (.inl a), x4] (.inl a :: st) M := zU_step dX7_ayes_64 (Or.inl rfl)
theorem dX7_ayes_65 : decode cX7_ayes 65 = .ok (.ireturn, 1) := by decide +kernel
theorem rX7_ayes_65 {R : zP} {x0 x1 x2 x3 x4 : Option zV} {M : zM} {a : Int} : uX7_ayes R 65 [x0, x1, x2, x3, x4] [.inl a] M ↔ R (some (.inl a)) M := Iff.trans (zU_step dX7_ayes_65 (Or.inl rfl)) ⟨fun h => h.2.2, fun h => ⟨rfl, Or.inl rfl, h⟩⟩
theorem eX7_ayes {R : zP} {M : zM} {a0 : Nat} {p0 : Int} {p1 : Int} : tX7_ayes [.inr (.inr a0), .inl p0, .inl p1] M R ↔ uX7_ayes R 0 [some (.inr (.inr a0)), some (.inl p0), some (.inl p1), none, none] [] M := ⟨fun h => h.2, fun h => ⟨show 3 ≤ 5 by decide, h⟩⟩
def uJ6_bitCount_0f7a4 (R : zP) : zK := zU fJ6 vJ6_bitCount_0f7a4 cJ6_bitCount_0f7a4 R
theorem dJ6_bitCount_0f7a4_0 : decode cJ6_bitCount_0f7a4 0 = .ok (.iload_n 0, 1) := by decide +kernel
theorem rJ6_bitCount_0f7a4_0 {R : zP} {st : List zV} {M : zM} {a : Int} : uJ6_bitCount_0f7a4 R 0 [some (.inl a)] st M ↔ uJ6_bitCount_0f7a4 R 1 [some (.inl a)] (.inl a :: st) M := zU_step dJ6_bitCount_0f7a4_0 (Or.inl rfl)
theorem dJ6_bitCount_0f7a4_1 : decode cJ6_bitCount_0f7a4 1 = .ok (.iload_n 0, 1) := by decide +kernel
theorem rJ6_bitCount_0f7a4_1 {R : zP} {st : List zV} {M : zM} {a : Int} : uJ6_bitCount_0f7a4 R 1 [some (.inl a)] st M ↔ uJ6_bitCount_0f7a4 R 2 [some (.inl a)] (.inl a :: st) M := zU_step dJ6_bitCount_0f7a4_1 (Or.inl rfl)
theorem dJ6_bitCount_0f7a4_2 : decode cJ6_bitCount_0f7a4 2 = .ok (.iconst 1, 1) := by decide +kernel
theorem rJ6_bitCount_0f7a4_2 {R : zP} {x0 : Option zV} {st : List zV} {M : zM} : uJ6_bitCount_0f7a4 R 2 [x0] st M ↔ uJ6_bitCount_0f7a4 R 3 [x0] (.inl (1) :: st) M := zU_step dJ6_bitCount_0f7a4_2 (Or.inl rfl)
theorem dJ6_bitCount_0f7a4_3 : decode cJ6_bitCount_0f7a4 3 = .ok (.iushr, 1) := by decide +kernel
theorem rJ6_bitCount_0f7a4_3 {R : zP} {x0 : Option zV} {st : List zV} {M : zM} {a b : Int} : uJ6_bitCount_0f7a4 R 3 [x0] (.inl b :: .inl a :: st) M ↔ uJ6_bitCount_0f7a4 R 4 [x0] (.inl (zushr a b) :: st) M := zU_step dJ6_bitCount_0f7a4_3 (Or.inl rfl)
theorem dJ6_bitCount_0f7a4_4 : decode cJ6_bitCount_0f7a4 4 = .ok (.ldc_w 265, 3) := by decide +kernel
theorem rJ6_bitCount_0f7a4_4 {R : zP} {x0 : Option zV} {st : List zV} {M : zM} : uJ6_bitCount_0f7a4 R 4 [x0] st M ↔ uJ6_bitCount_0f7a4 R 7 [x0] (.inl (1431655765) :: st) M := zU_step dJ6_bitCount_0f7a4_4 (Or.inl rfl)
theorem dJ6_bitCount_0f7a4_7 : decode cJ6_bitCount_0f7a4 7 = .ok (.iand, 1) := by decide +kernel
theorem rJ6_bitCount_0f7a4_7 {R : zP} {x0 : Option zV} {st : List zV} {M : zM} {a b : Int} : uJ6_bitCount_0f7a4 R 7 [x0] (.inl b :: .inl a :: st) M ↔ uJ6_bitCount_0f7a4 R 8 [x0] (.inl (zand a b) :: st) M := zU_step dJ6_bitCount_0f7a4_7 (Or.inl rfl)
theorem dJ6_bitCount_0f7a4_8 : decode cJ6_bitCount_0f7a4 8 = .ok (.isub, 1) := by decide +kernel
theorem rJ6_bitCount_0f7a4_8 {R : zP} {x0 : Option zV} {st : List zV} {M : zM} {a b : Int} : uJ6_bitCount_0f7a4 R 8 [x0] (.inl b :: .inl a :: st) M ↔ uJ6_bitCount_0f7a4 R 9 [x0] (.inl (a - b) :: st) M := zU_step dJ6_bitCount_0f7a4_8 (Or.inl rfl)
theorem dJ6_bitCount_0f7a4_9 : decode cJ6_bitCount_0f7a4 9 = .ok (.istore_n 0, 1) := by decide +kernel
theorem rJ6_bitCount_0f7a4_9 {R : zP} {x0 : Option zV} {st : List zV} {M : zM} {a : Int} : uJ6_bitCount_0f7a4 R 9 [x0] (.inl a :: st) M ↔ uJ6_bitCount_0f7a4 R 10 [some (.inl a)] st M := Iff.trans (zU_step dJ6_bitCount_0f7a4_9 (Or.inl rfl)) ⟨fun h => h.2, fun h => ⟨show 0 < 1 by decide, h⟩⟩
theorem dJ6_bitCount_0f7a4_10 : decode cJ6_bitCount_0f7a4 10 = .ok (.iload_n 0, 1) := by decide +kernel
theorem rJ6_bitCount_0f7a4_10 {R : zP} {st : List zV} {M : zM} {a : Int} : uJ6_bitCount_0f7a4 R 10 [some (.inl a)] st M ↔ uJ6_bitCount_0f7a4 R 11 [some (.inl a)] (.inl a :: st) M := zU_step dJ6_bitCount_0f7a4_10 (Or.inl rfl)
theorem dJ6_bitCount_0f7a4_11 : decode cJ6_bitCount_0f7a4 11 = .ok (.ldc_w 266, 3) := by decide +kernel
theorem rJ6_bitCount_0f7a4_11 {R : zP} {x0 : Option zV} {st : List zV} {M : zM} : uJ6_bitCount_0f7a4 R 11 [x0] st M ↔ uJ6_bitCount_0f7a4 R 14 [x0] (.inl (858993459) :: st) M := zU_step dJ6_bitCount_0f7a4_11 (Or.inl rfl)
theorem dJ6_bitCount_0f7a4_14 : decode cJ6_bitCount_0f7a4 14 = .ok (.iand, 1) := by decide +kernel
theorem rJ6_bitCount_0f7a4_14 {R : zP} {x0 : Option zV} {st : List zV} {M : zM} {a b : Int} : uJ6_bitCount_0f7a4 R 14 [x0] (.inl b :: .inl a :: st) M ↔ uJ6_bitCount_0f7a4 R 15 [x0] (.inl (zand a b) :: st) M := zU_step dJ6_bitCount_0f7a4_14 (Or.inl rfl)
theorem dJ6_bitCount_0f7a4_15 : decode cJ6_bitCount_0f7a4 15 = .ok (.iload_n 0, 1) := by decide +kernel
theorem rJ6_bitCount_0f7a4_15 {R : zP} {st : List zV} {M : zM} {a : Int} : uJ6_bitCount_0f7a4 R 15 [some (.inl a)] st M ↔ uJ6_bitCount_0f7a4 R 16 [some (.inl a)] (.inl a :: st) M := zU_step dJ6_bitCount_0f7a4_15 (Or.inl rfl)
theorem dJ6_bitCount_0f7a4_16 : decode cJ6_bitCount_0f7a4 16 = .ok (.iconst 2, 1) := by decide +kernel
theorem rJ6_bitCount_0f7a4_16 {R : zP} {x0 : Option zV} {st : List zV} {M : zM} : uJ6_bitCount_0f7a4 R 16 [x0] st M ↔ uJ6_bitCount_0f7a4 R 17 [x0] (.inl (2) :: st) M := zU_step dJ6_bitCount_0f7a4_16 (Or.inl rfl)
theorem dJ6_bitCount_0f7a4_17 : decode cJ6_bitCount_0f7a4 17 = .ok (.iushr, 1) := by decide +kernel
theorem rJ6_bitCount_0f7a4_17 {R : zP} {x0 : Option zV} {st : List zV} {M : zM} {a b : Int} : uJ6_bitCount_0f7a4 R 17 [x0] (.inl b :: .inl a :: st) M ↔ uJ6_bitCount_0f7a4 R 18 [x0] (.inl (zushr a b) :: st) M := zU_step dJ6_bitCount_0f7a4_17 (Or.inl rfl)
theorem dJ6_bitCount_0f7a4_18 : decode cJ6_bitCount_0f7a4 18 = .ok (.ldc_w 266, 3) := by decide +kernel
theorem rJ6_bitCount_0f7a4_18 {R : zP} {x0 : Option zV} {st : List zV} {M : zM} : uJ6_bitCount_0f7a4 R 18 [x0] st M ↔ uJ6_bitCount_0f7a4 R 21 [x0] (.inl (858993459) :: st) M := zU_step dJ6_bitCount_0f7a4_18 (Or.inl rfl)
theorem dJ6_bitCount_0f7a4_21 : decode cJ6_bitCount_0f7a4 21 = .ok (.iand, 1) := by decide +kernel
theorem rJ6_bitCount_0f7a4_21 {R : zP} {x0 : Option zV} {st : List zV} {M : zM} {a b : Int} : uJ6_bitCount_0f7a4 R 21 [x0] (.inl b :: .inl a :: st) M ↔ uJ6_bitCount_0f7a4 R 22 [x0] (.inl (zand a b) :: st) M := zU_step dJ6_bitCount_0f7a4_21 (Or.inl rfl)
theorem dJ6_bitCount_0f7a4_22 : decode cJ6_bitCount_0f7a4 22 = .ok (.iadd, 1) := by decide +kernel
theorem rJ6_bitCount_0f7a4_22 {R : zP} {x0 : Option zV} {st : List zV} {M : zM} {a b : Int} : uJ6_bitCount_0f7a4 R 22 [x0] (.inl b :: .inl a :: st) M ↔ uJ6_bitCount_0f7a4 R 23 [x0] (.inl (a + b) :: st) M := zU_step dJ6_bitCount_0f7a4_22 (Or.inl rfl)
theorem dJ6_bitCount_0f7a4_23 : decode cJ6_bitCount_0f7a4 23 = .ok (.istore_n 0, 1) := by decide +kernel
theorem rJ6_bitCount_0f7a4_23 {R : zP} {x0 : Option zV} {st : List zV} {M : zM} {a : Int} : uJ6_bitCount_0f7a4 R 23 [x0] (.inl a :: st) M ↔ uJ6_bitCount_0f7a4 R 24 [some (.inl a)] st M := Iff.trans (zU_step dJ6_bitCount_0f7a4_23 (Or.inl rfl)) ⟨fun h => h.2, fun h => ⟨show 0 < 1 by decide, h⟩⟩
theorem dJ6_bitCount_0f7a4_24 : decode cJ6_bitCount_0f7a4 24 = .ok (.iload_n 0, 1) := by decide +kernel
theorem rJ6_bitCount_0f7a4_24 {R : zP} {st : List zV} {M : zM} {a : Int} : uJ6_bitCount_0f7a4 R 24 [some (.inl a)] st M ↔ uJ6_bitCount_0f7a4 R 25 [some (.inl a)] (.inl a :: st) M := zU_step dJ6_bitCount_0f7a4_24 (Or.inl rfl)
theorem dJ6_bitCount_0f7a4_25 : decode cJ6_bitCount_0f7a4 25 = .ok (.iload_n 0, 1) := by decide +kernel
theorem rJ6_bitCount_0f7a4_25 {R : zP} {st : List zV} {M : zM} {a : Int} : uJ6_bitCount_0f7a4 R 25 [some (.inl a)] st M ↔ uJ6_bitCount_0f7a4 R 26 [some (.inl a)] (.inl a :: st) M := zU_step dJ6_bitCount_0f7a4_25 (Or.inl rfl)
theorem dJ6_bitCount_0f7a4_26 : decode cJ6_bitCount_0f7a4 26 = .ok (.iconst 4, 1) := by decide +kernel
theorem rJ6_bitCount_0f7a4_26 {R : zP} {x0 : Option zV} {st : List zV} {M : zM} : uJ6_bitCount_0f7a4 R 26 [x0] st M ↔ uJ6_bitCount_0f7a4 R 27 [x0] (.inl (4) :: st) M := zU_step dJ6_bitCount_0f7a4_26 (Or.inl rfl)
theorem dJ6_bitCount_0f7a4_27 : decode cJ6_bitCount_0f7a4 27 = .ok (.iushr, 1) := by decide +kernel
theorem rJ6_bitCount_0f7a4_27 {R : zP} {x0 : Option zV} {st : List zV} {M : zM} {a b : Int} : uJ6_bitCount_0f7a4 R 27 [x0] (.inl b :: .inl a :: st) M ↔ uJ6_bitCount_0f7a4 R 28 [x0] (.inl (zushr a b) :: st) M := zU_step dJ6_bitCount_0f7a4_27 (Or.inl rfl)
theorem dJ6_bitCount_0f7a4_28 : decode cJ6_bitCount_0f7a4 28 = .ok (.iadd, 1) := by decide +kernel
theorem rJ6_bitCount_0f7a4_28 {R : zP} {x0 : Option zV} {st : List zV} {M : zM} {a b : Int} : uJ6_bitCount_0f7a4 R 28 [x0] (.inl b :: .inl a :: st) M ↔ uJ6_bitCount_0f7a4 R 29 [x0] (.inl (a + b) :: st) M := zU_step dJ6_bitCount_0f7a4_28 (Or.inl rfl)
theorem dJ6_bitCount_0f7a4_29 : decode cJ6_bitCount_0f7a4 29 = .ok (.ldc_w 267, 3) := by decide +kernel
theorem rJ6_bitCount_0f7a4_29 {R : zP} {x0 : Option zV} {st : List zV} {M : zM} : uJ6_bitCount_0f7a4 R 29 [x0] st M ↔ uJ6_bitCount_0f7a4 R 32 [x0] (.inl (252645135) :: st) M := zU_step dJ6_bitCount_0f7a4_29 (Or.inl rfl)
theorem dJ6_bitCount_0f7a4_32 : decode cJ6_bitCount_0f7a4 32 = .ok (.iand, 1) := by decide +kernel
theorem rJ6_bitCount_0f7a4_32 {R : zP} {x0 : Option zV} {st : List zV} {M : zM} {a b : Int} : uJ6_bitCount_0f7a4 R 32 [x0] (.inl b :: .inl a :: st) M ↔ uJ6_bitCount_0f7a4 R 33 [x0] (.inl (zand a b) :: st) M := zU_step dJ6_bitCount_0f7a4_32 (Or.inl rfl)
theorem dJ6_bitCount_0f7a4_33 : decode cJ6_bitCount_0f7a4 33 = .ok (.istore_n 0, 1) := by decide +kernel
theorem rJ6_bitCount_0f7a4_33 {R : zP} {x0 : Option zV} {st : List zV} {M : zM} {a : Int} : uJ6_bitCount_0f7a4 R 33 [x0] (.inl a :: st) M ↔ uJ6_bitCount_0f7a4 R 34 [some (.inl a)] st M := Iff.trans (zU_step dJ6_bitCount_0f7a4_33 (Or.inl rfl)) ⟨fun h => h.2, fun h => ⟨show 0 < 1 by decide, h⟩⟩
theorem dJ6_bitCount_0f7a4_34 : decode cJ6_bitCount_0f7a4 34 = .ok (.iload_n 0, 1) := by decide +kernel
theorem rJ6_bitCount_0f7a4_34 {R : zP} {st : List zV} {M : zM} {a : Int} : uJ6_bitCount_0f7a4 R 34 [some (.inl a)] st M ↔ uJ6_bitCount_0f7a4 R 35 [some (.inl a)] (.inl a :: st) M := zU_step dJ6_bitCount_0f7a4_34 (Or.inl rfl)
theorem dJ6_bitCount_0f7a4_35 : decode cJ6_bitCount_0f7a4 35 = .ok (.iload_n 0, 1) := by decide +kernel
theorem rJ6_bitCount_0f7a4_35 {R : zP} {st : List zV} {M : zM} {a : Int} : uJ6_bitCount_0f7a4 R 35 [some (.inl a)] st M ↔ uJ6_bitCount_0f7a4 R 36 [some (.inl a)] (.inl a :: st) M := zU_step dJ6_bitCount_0f7a4_35 (Or.inl rfl)
theorem dJ6_bitCount_0f7a4_36 : decode cJ6_bitCount_0f7a4 36 = .ok (.bipush 8, 2) := by decide +kernel
theorem rJ6_bitCount_0f7a4_36 {R : zP} {x0 : Option zV} {st : List zV} {M : zM} : uJ6_bitCount_0f7a4 R 36 [x0] st M ↔ uJ6_bitCount_0f7a4 R 38 [x0] (.inl (8) :: st) M := Iff.trans (zU_step dJ6_bitCount_0f7a4_36 (Or.inl rfl)) ⟨fun h => h.2, fun h => ⟨by decide, h⟩⟩
theorem dJ6_bitCount_0f7a4_38 : decode cJ6_bitCount_0f7a4 38 = .ok (.iushr, 1) := by decide +kernel
theorem rJ6_bitCount_0f7a4_38 {R : zP} {x0 : Option zV} {st : List zV} {M : zM} {a b : Int} : uJ6_bitCount_0f7a4 R 38 [x0] (.inl b :: .inl a :: st) M ↔ uJ6_bitCount_0f7a4 R 39 [x0] (.inl (zushr a b) :: st) M := zU_step dJ6_bitCount_0f7a4_38 (Or.inl rfl)
theorem dJ6_bitCount_0f7a4_39 : decode cJ6_bitCount_0f7a4 39 = .ok (.iadd, 1) := by decide +kernel
theorem rJ6_bitCount_0f7a4_39 {R : zP} {x0 : Option zV} {st : List zV} {M : zM} {a b : Int} : uJ6_bitCount_0f7a4 R 39 [x0] (.inl b :: .inl a :: st) M ↔ uJ6_bitCount_0f7a4 R 40 [x0] (.inl (a + b) :: st) M := zU_step dJ6_bitCount_0f7a4_39 (Or.inl rfl)
theorem dJ6_bitCount_0f7a4_40 : decode cJ6_bitCount_0f7a4 40 = .ok (.istore_n 0, 1) := by decide +kernel
theorem rJ6_bitCount_0f7a4_40 {R : zP} {x0 : Option zV} {st : List zV} {M : zM} {a : Int} : uJ6_bitCount_0f7a4 R 40 [x0] (.inl a :: st) M ↔ uJ6_bitCount_0f7a4 R 41 [some (.inl a)] st M := Iff.trans (zU_step dJ6_bitCount_0f7a4_40 (Or.inl rfl)) ⟨fun h => h.2, fun h => ⟨show 0 < 1 by decide, h⟩⟩
theorem dJ6_bitCount_0f7a4_41 : decode cJ6_bitCount_0f7a4 41 = .ok (.iload_n 0, 1) := by decide +kernel
theorem rJ6_bitCount_0f7a4_41 {R : zP} {st : List zV} {M : zM} {a : Int} : uJ6_bitCount_0f7a4 R 41 [some (.inl a)] st M ↔ uJ6_bitCount_0f7a4 R 42 [some (.inl a)] (.inl a :: st) M := zU_step dJ6_bitCount_0f7a4_41 (Or.inl rfl)
theorem dJ6_bitCount_0f7a4_42 : decode cJ6_bitCount_0f7a4 42 = .ok (.iload_n 0, 1) := by decide +kernel
theorem rJ6_bitCount_0f7a4_42 {R : zP} {st : List zV} {M : zM} {a : Int} : uJ6_bitCount_0f7a4 R 42 [some (.inl a)] st M ↔ uJ6_bitCount_0f7a4 R 43 [some (.inl a)] (.inl a :: st) M := zU_step dJ6_bitCount_0f7a4_42 (Or.inl rfl)
theorem dJ6_bitCount_0f7a4_43 : decode cJ6_bitCount_0f7a4 43 = .ok (.bipush 16, 2) := by decide +kernel
theorem rJ6_bitCount_0f7a4_43 {R : zP} {x0 : Option zV} {st : List zV} {M : zM} : uJ6_bitCount_0f7a4 R 43 [x0] st M ↔ uJ6_bitCount_0f7a4 R 45 [x0] (.inl (16) :: st) M := Iff.trans (zU_step dJ6_bitCount_0f7a4_43 (Or.inl rfl)) ⟨fun h => h.2, fun h => ⟨by decide, h⟩⟩
theorem dJ6_bitCount_0f7a4_45 : decode cJ6_bitCount_0f7a4 45 = .ok (.iushr, 1) := by decide +kernel
theorem rJ6_bitCount_0f7a4_45 {R : zP} {x0 : Option zV} {st : List zV} {M : zM} {a b : Int} : uJ6_bitCount_0f7a4 R 45 [x0] (.inl b :: .inl a :: st) M ↔ uJ6_bitCount_0f7a4 R 46 [x0] (.inl (zushr a b) :: st) M := zU_step dJ6_bitCount_0f7a4_45 (Or.inl rfl)
theorem dJ6_bitCount_0f7a4_46 : decode cJ6_bitCount_0f7a4 46 = .ok (.iadd, 1) := by decide +kernel
theorem rJ6_bitCount_0f7a4_46 {R : zP} {x0 : Option zV} {st : List zV} {M : zM} {a b : Int} : uJ6_bitCount_0f7a4 R 46 [x0] (.inl b :: .inl a :: st) M ↔ uJ6_bitCount_0f7a4 R 47 [x0] (.inl (a + b) :: st) M := zU_step dJ6_bitCount_0f7a4_46 (Or.inl rfl)
theorem dJ6_bitCount_0f7a4_47 : decode cJ6_bitCount_0f7a4 47 = .ok (.istore_n 0, 1) := by decide +kernel
theorem rJ6_bitCount_0f7a4_47 {R : zP} {x0 : Option zV} {st : List zV} {M : zM} {a : Int} : uJ6_bitCount_0f7a4 R 47 [x0] (.inl a :: st) M ↔ uJ6_bitCount_0f7a4 R 48 [some (.inl a)] st M := Iff.trans (zU_step dJ6_bitCount_0f7a4_47 (Or.inl rfl)) ⟨fun h => h.2, fun h => ⟨show 0 < 1 by decide, h⟩⟩
theorem dJ6_bitCount_0f7a4_48 : decode cJ6_bitCount_0f7a4 48 = .ok (.iload_n 0, 1) := by decide +kernel
theorem rJ6_bitCount_0f7a4_48 {R : zP} {st : List zV} {M : zM} {a : Int} : uJ6_bitCount_0f7a4 R 48 [some (.inl a)] st M ↔ uJ6_bitCount_0f7a4 R 49 [some (.inl a)] (.inl a :: st) M := zU_step dJ6_bitCount_0f7a4_48 (Or.inl rfl)
theorem dJ6_bitCount_0f7a4_49 : decode cJ6_bitCount_0f7a4 49 = .ok (.bipush 63, 2) := by decide +kernel
theorem rJ6_bitCount_0f7a4_49 {R : zP} {x0 : Option zV} {st : List zV} {M : zM} : uJ6_bitCount_0f7a4 R 49 [x0] st M ↔ uJ6_bitCount_0f7a4 R 51 [x0] (.inl (63) :: st) M := Iff.trans (zU_step dJ6_bitCount_0f7a4_49 (Or.inl rfl)) ⟨fun h => h.2, fun h => ⟨by decide, h⟩⟩
theorem dJ6_bitCount_0f7a4_51 : decode cJ6_bitCount_0f7a4 51 = .ok (.iand, 1) := by decide +kernel
theorem rJ6_bitCount_0f7a4_51 {R : zP} {x0 : Option zV} {st : List zV} {M : zM} {a b : Int} : uJ6_bitCount_0f7a4 R 51 [x0] (.inl b :: .inl a :: st) M ↔ uJ6_bitCount_0f7a4 R 52 [x0] (.inl (zand a b) :: st) M := zU_step dJ6_bitCount_0f7a4_51 (Or.inl rfl)
theorem dJ6_bitCount_0f7a4_52 : decode cJ6_bitCount_0f7a4 52 = .ok (.ireturn, 1) := by decide +kernel
theorem rJ6_bitCount_0f7a4_52 {R : zP} {x0 : Option zV} {M : zM} {a : Int} : uJ6_bitCount_0f7a4 R 52 [x0] [.inl a] M ↔ R (some (.inl a)) M := Iff.trans (zU_step dJ6_bitCount_0f7a4_52 (Or.inl rfl)) ⟨fun h => h.2.2, fun h => ⟨rfl, Or.inl rfl, h⟩⟩
theorem eJ6_bitCount_0f7a4 {R : zP} {M : zM} {p0 : Int} : tJ6_bitCount_0f7a4 [.inl p0] M R ↔ uJ6_bitCount_0f7a4 R 0 [some (.inl p0)] [] M := ⟨fun h => h.2, fun h => ⟨show 1 ≤ 1 by decide, h⟩⟩
def uX7_haveIt (R : zP) : zK := zU fX7 vX7_haveIt cX7_haveIt R
theorem dX7_haveIt_0 : decode cX7_haveIt 0 = .ok (.iconst 2, 1) := by decide +kernel
theorem rX7_haveIt_0 {R : zP} {x0 x1 : Option zV} {st : List zV} {M : zM} : uX7_haveIt R 0 [x0, x1] st M ↔ uX7_haveIt R 1 [x0, x1] (.inl (2) :: st) M := zU_step dX7_haveIt_0 (Or.inl rfl)
theorem dX7_haveIt_1 : decode cX7_haveIt 1 = .ok (.iload_n 1, 1) := by decide +kernel
theorem rX7_haveIt_1 {R : zP} {x0 : Option zV} {st : List zV} {M : zM} {a : Int} : uX7_haveIt R 1 [x0, some (.inl a)] st M ↔ uX7_haveIt R 2 [x0, some (.inl a)] (.inl a :: st) M := zU_step dX7_haveIt_1 (Or.inl rfl)
theorem dX7_haveIt_2 : decode cX7_haveIt 2 = .ok (.invokestatic 173, 3) := by decide +kernel
theorem rX7_haveIt_2 {R : zP} {x0 x1 : Option zV} {st : List zV} {M : zM} {a0 : zV} : uX7_haveIt R 2 [x0, x1] (a0 :: st) M ↔ (st.length ≤ 4 ∧ zcv tJ6_bitCount_0f7a4 [a0] M (fun v M => uX7_haveIt R 5 [x0, x1] (v :: st) M)) := Iff.trans (zU_step dX7_haveIt_2 (Or.inl rfl)) ⟨fun h => ⟨h.2.1, zcv_of h.2.2⟩, fun h => ⟨rfl, h.1, zcv_to h.2⟩⟩
theorem dX7_haveIt_5 : decode cX7_haveIt 5 = .ok (.imul, 1) := by decide +kernel
theorem rX7_haveIt_5 {R : zP} {x0 x1 : Option zV} {st : List zV} {M : zM} {a b : Int} : uX7_haveIt R 5 [x0, x1] (.inl b :: .inl a :: st) M ↔ uX7_haveIt R 6 [x0, x1] (.inl (a * b) :: st) M := zU_step dX7_haveIt_5 (Or.inl rfl)
theorem dX7_haveIt_6 : decode cX7_haveIt 6 = .ok (.aload_n 0, 1) := by decide +kernel
theorem rX7_haveIt_6 {R : zP} {x1 : Option zV} {st : List zV} {M : zM} {a : Nat} : uX7_haveIt R 6 [some (.inr (.inr a)), x1] st M ↔ uX7_haveIt R 7 [some (.inr (.inr a)), x1] (.inr (.inr a) :: st) M := zU_step dX7_haveIt_6 (Or.inl rfl)
theorem dX7_haveIt_7 : decode cX7_haveIt 7 = .ok (.getfield 14, 3) := by decide +kernel
theorem rX7_haveIt_7 {R : zP} {x0 x1 : Option zV} {st : List zV} {M : zM} {r : Nat} : uX7_haveIt R 7 [x0, x1] (.inr (.inr r) :: st) M ↔ zgetx fX7 14 r M (fun v => uX7_haveIt R 10 [x0, x1] (v :: st) M) := zU_step dX7_haveIt_7 (Or.inl rfl)
theorem dX7_haveIt_10 : decode cX7_haveIt 10 = .ok (.getfield 116, 3) := by decide +kernel
theorem rX7_haveIt_10 {R : zP} {x0 x1 : Option zV} {st : List zV} {M : zM} {r : Nat} : uX7_haveIt R 10 [x0, x1] (.inr (.inr r) :: st) M ↔ zgetx fX7 116 r M (fun v => uX7_haveIt R 13 [x0, x1] (v :: st) M) := zU_step dX7_haveIt_10 (Or.inl rfl)
theorem dX7_haveIt_13 : decode cX7_haveIt 13 = .ok (.if_icmp .le 7, 3) := by decide +kernel
theorem rX7_haveIt_13 {R : zP} {x0 x1 : Option zV} {st : List zV} {M : zM} {a b : Int} : uX7_haveIt R 13 [x0, x1] (.inl b :: .inl a :: st) M ↔ ((zIR a ∧ zIR b) ∧ if a ≤ b then uX7_haveIt R 20 [x0, x1] st M else uX7_haveIt R 16 [x0, x1] st M) := Iff.trans (zU_step dX7_haveIt_13 (Or.inl rfl)) ⟨fun h => ⟨⟨h.1.1, h.1.2.1⟩, (zite (c := a ≤ b)).mpr h.2⟩, fun h => ⟨⟨h.1.1, h.1.2, by decide⟩, (zite (c := a ≤ b)).mp h.2⟩⟩
theorem dX7_haveIt_16 : decode cX7_haveIt 16 = .ok (.iconst 1, 1) := by decide +kernel
theorem rX7_haveIt_16 {R : zP} {x0 x1 : Option zV} {st : List zV} {M : zM} : uX7_haveIt R 16 [x0, x1] st M ↔ uX7_haveIt R 17 [x0, x1] (.inl (1) :: st) M := zU_step dX7_haveIt_16 (Or.inl rfl)
theorem dX7_haveIt_17 : decode cX7_haveIt 17 = .ok (.goto 4, 3) := by decide +kernel
theorem rX7_haveIt_17 {R : zP} {x0 x1 : Option zV} {st : List zV} {M : zM} : uX7_haveIt R 17 [x0, x1] st M ↔ uX7_haveIt R 21 [x0, x1] st M := Iff.trans (zU_step dX7_haveIt_17 (Or.inl rfl)) ⟨fun h => h.2, fun h => ⟨by decide, h⟩⟩
theorem dX7_haveIt_20 : decode cX7_haveIt 20 = .ok (.iconst 0, 1) := by decide +kernel
theorem rX7_haveIt_20 {R : zP} {x0 x1 : Option zV} {st : List zV} {M : zM} : uX7_haveIt R 20 [x0, x1] st M ↔ uX7_haveIt R 21 [x0, x1] (.inl (0) :: st) M := zU_step dX7_haveIt_20 (Or.inl rfl)
theorem dX7_haveIt_21 : decode cX7_haveIt 21 = .ok (.ireturn, 1) := by decide +kernel
theorem rX7_haveIt_21 {R : zP} {x0 x1 : Option zV} {M : zM} {a : Int} : uX7_haveIt R 21 [x0, x1] [.inl a] M ↔ ((a = 0 ∨ a = 1) ∧ R (some (.inl a)) M) := Iff.trans (zU_step dX7_haveIt_21 (Or.inl rfl)) ⟨fun h => ⟨zret2 rfl h.2.1, h.2.2⟩, fun h => ⟨rfl, Or.inr (Or.inl ⟨rfl, h.1⟩), h.2⟩⟩
theorem eX7_haveIt {R : zP} {M : zM} {a0 : Nat} {p0 : Int} : tX7_haveIt [.inr (.inr a0), .inl p0] M R ↔ uX7_haveIt R 0 [some (.inr (.inr a0)), some (.inl p0)] [] M := ⟨fun h => h.2, fun h => ⟨show 2 ≤ 2 by decide, h⟩⟩
def uX7_hinges (R : zP) : zK := zU fX7 vX7_hinges cX7_hinges R
theorem dX7_hinges_0 : decode cX7_hinges 0 = .ok (.iconst 0, 1) := by decide +kernel
theorem rX7_hinges_0 {R : zP} {x0 x1 x2 x3 : Option zV} {st : List zV} {M : zM} : uX7_hinges R 0 [x0, x1, x2, x3] st M ↔ uX7_hinges R 1 [x0, x1, x2, x3] (.inl (0) :: st) M := zU_step dX7_hinges_0 (Or.inl rfl)
theorem dX7_hinges_1 : decode cX7_hinges 1 = .ok (.istore_n 2, 1) := by decide +kernel
theorem rX7_hinges_1 {R : zP} {x0 x2 x3 : Option zV} {st : List zV} {M : zM} {a : Int} {y : Int} : uX7_hinges R 1 [x0, some (.inl y), x2, x3] (.inl a :: st) M ↔ uX7_hinges R 2 [x0, some (.inl y), some (.inl a), x3] st M := Iff.trans (zU_step dX7_hinges_1 (Or.inl rfl)) ⟨fun h => h.2, fun h => ⟨show 2 < 4 by decide, h⟩⟩
theorem rX7_hinges_1z {R : zP} {x0 x1 x2 x3 : Option zV} {st : List zV} {M : zM} {a : Int} : uX7_hinges R 1 [x0, x1, x2, x3] (.inl a :: st) M ↔ uX7_hinges R 2 [x0, zkeep x1, some (.inl a), x3] st M := Iff.trans (zU_step dX7_hinges_1 (Or.inl rfl)) ⟨fun h => h.2, fun h => ⟨show 2 < 4 by decide, h⟩⟩
theorem dX7_hinges_2 : decode cX7_hinges 2 = .ok (.iconst 0, 1) := by decide +kernel
theorem rX7_hinges_2 {R : zP} {x0 x1 x2 x3 : Option zV} {st : List zV} {M : zM} : uX7_hinges R 2 [x0, x1, x2, x3] st M ↔ uX7_hinges R 3 [x0, x1, x2, x3] (.inl (0) :: st) M := zU_step dX7_hinges_2 (Or.inl rfl)
theorem dX7_hinges_3 : decode cX7_hinges 3 = .ok (.istore_n 3, 1) := by decide +kernel
theorem rX7_hinges_3 {R : zP} {x0 x1 x3 : Option zV} {st : List zV} {M : zM} {a : Int} {y : Int} : uX7_hinges R 3 [x0, x1, some (.inl y), x3] (.inl a :: st) M ↔ uX7_hinges R 4 [x0, x1, some (.inl y), some (.inl a)] st M := Iff.trans (zU_step dX7_hinges_3 (Or.inl rfl)) ⟨fun h => h.2, fun h => ⟨show 3 < 4 by decide, h⟩⟩
theorem rX7_hinges_3z {R : zP} {x0 x1 x2 x3 : Option zV} {st : List zV} {M : zM} {a : Int} : uX7_hinges R 3 [x0, x1, x2, x3] (.inl a :: st) M ↔ uX7_hinges R 4 [x0, x1, zkeep x2, some (.inl a)] st M := Iff.trans (zU_step dX7_hinges_3 (Or.inl rfl)) ⟨fun h => h.2, fun h => ⟨show 3 < 4 by decide, h⟩⟩
theorem dX7_hinges_4 : decode cX7_hinges 4 = .ok (.iload_n 3, 1) := by decide +kernel
theorem rX7_hinges_4 {R : zP} {x0 x1 x2 : Option zV} {st : List zV} {M : zM} {a : Int} : uX7_hinges R 4 [x0, x1, x2, some (.inl a)] st M ↔ uX7_hinges R 5 [x0, x1, x2, some (.inl a)] (.inl a :: st) M := zU_step dX7_hinges_4 (Or.inl rfl)
theorem dX7_hinges_5 : decode cX7_hinges 5 = .ok (.aload_n 0, 1) := by decide +kernel
theorem rX7_hinges_5 {R : zP} {x1 x2 x3 : Option zV} {st : List zV} {M : zM} {a : Nat} : uX7_hinges R 5 [some (.inr (.inr a)), x1, x2, x3] st M ↔ uX7_hinges R 6 [some (.inr (.inr a)), x1, x2, x3] (.inr (.inr a) :: st) M := zU_step dX7_hinges_5 (Or.inl rfl)
theorem dX7_hinges_6 : decode cX7_hinges 6 = .ok (.getfield 14, 3) := by decide +kernel
theorem rX7_hinges_6 {R : zP} {x0 x1 x2 x3 : Option zV} {st : List zV} {M : zM} {r : Nat} : uX7_hinges R 6 [x0, x1, x2, x3] (.inr (.inr r) :: st) M ↔ zgetx fX7 14 r M (fun v => uX7_hinges R 9 [x0, x1, x2, x3] (v :: st) M) := zU_step dX7_hinges_6 (Or.inl rfl)
theorem dX7_hinges_9 : decode cX7_hinges 9 = .ok (.getfield 116, 3) := by decide +kernel
theorem rX7_hinges_9 {R : zP} {x0 x1 x2 x3 : Option zV} {st : List zV} {M : zM} {r : Nat} : uX7_hinges R 9 [x0, x1, x2, x3] (.inr (.inr r) :: st) M ↔ zgetx fX7 116 r M (fun v => uX7_hinges R 12 [x0, x1, x2, x3] (v :: st) M) := zU_step dX7_hinges_9 (Or.inl rfl)
theorem dX7_hinges_12 : decode cX7_hinges 12 = .ok (.if_icmp .ge 32, 3) := by decide +kernel
theorem rX7_hinges_12 {R : zP} {x0 x1 x2 x3 : Option zV} {st : List zV} {M : zM} {a b : Int} : uX7_hinges R 12 [x0, x1, x2, x3] (.inl b :: .inl a :: st) M ↔ ((zIR a ∧ zIR b) ∧ if b ≤ a then uX7_hinges R 44 [x0, x1, x2, x3] st M else uX7_hinges R 15 [x0, x1, x2, x3] st M) := Iff.trans (zU_step dX7_hinges_12 (Or.inl rfl)) ⟨fun h => ⟨⟨h.1.1, h.1.2.1⟩, (zite (c := b ≤ a)).mpr h.2⟩, fun h => ⟨⟨h.1.1, h.1.2, by decide⟩, (zite (c := b ≤ a)).mp h.2⟩⟩
theorem dX7_hinges_15 : decode cX7_hinges 15 = .ok (.aload_n 0, 1) := by decide +kernel
theorem rX7_hinges_15 {R : zP} {x1 x2 x3 : Option zV} {st : List zV} {M : zM} {a : Nat} : uX7_hinges R 15 [some (.inr (.inr a)), x1, x2, x3] st M ↔ uX7_hinges R 16 [some (.inr (.inr a)), x1, x2, x3] (.inr (.inr a) :: st) M := zU_step dX7_hinges_15 (Or.inl rfl)
theorem dX7_hinges_16 : decode cX7_hinges 16 = .ok (.iload_n 1, 1) := by decide +kernel
theorem rX7_hinges_16 {R : zP} {x0 x2 x3 : Option zV} {st : List zV} {M : zM} {a : Int} : uX7_hinges R 16 [x0, some (.inl a), x2, x3] st M ↔ uX7_hinges R 17 [x0, some (.inl a), x2, x3] (.inl a :: st) M := zU_step dX7_hinges_16 (Or.inl rfl)
theorem dX7_hinges_17 : decode cX7_hinges 17 = .ok (.invokevirtual 178, 3) := by decide +kernel
theorem rX7_hinges_17 {R : zP} {x0 x1 x2 x3 : Option zV} {st : List zV} {M : zM} {a0 a1 : zV} : uX7_hinges R 17 [x0, x1, x2, x3] (a1 :: a0 :: st) M ↔ (st.length ≤ 4 ∧ zcv (zv 7 tX7_haveIt) [a0, a1] M (fun v M => uX7_hinges R 20 [x0, x1, x2, x3] (v :: st) M)) := Iff.trans (zU_step dX7_hinges_17 (Or.inl rfl)) ⟨fun h => ⟨h.2.1, zcv_of h.2.2⟩, fun h => ⟨rfl, h.1, zcv_to h.2⟩⟩
theorem dX7_hinges_20 : decode cX7_hinges 20 = .ok (.aload_n 0, 1) := by decide +kernel
theorem rX7_hinges_20 {R : zP} {x1 x2 x3 : Option zV} {st : List zV} {M : zM} {a : Nat} : uX7_hinges R 20 [some (.inr (.inr a)), x1, x2, x3] st M ↔ uX7_hinges R 21 [some (.inr (.inr a)), x1, x2, x3] (.inr (.inr a) :: st) M := zU_step dX7_hinges_20 (Or.inl rfl)
theorem dX7_hinges_21 : decode cX7_hinges 21 = .ok (.iload_n 1, 1) := by decide +kernel
theorem rX7_hinges_21 {R : zP} {x0 x2 x3 : Option zV} {st : List zV} {M : zM} {a : Int} : uX7_hinges R 21 [x0, some (.inl a), x2, x3] st M ↔ uX7_hinges R 22 [x0, some (.inl a), x2, x3] (.inl a :: st) M := zU_step dX7_hinges_21 (Or.inl rfl)
theorem dX7_hinges_22 : decode cX7_hinges 22 = .ok (.iconst 1, 1) := by decide +kernel
theorem rX7_hinges_22 {R : zP} {x0 x1 x2 x3 : Option zV} {st : List zV} {M : zM} : uX7_hinges R 22 [x0, x1, x2, x3] st M ↔ uX7_hinges R 23 [x0, x1, x2, x3] (.inl (1) :: st) M := zU_step dX7_hinges_22 (Or.inl rfl)
theorem dX7_hinges_23 : decode cX7_hinges 23 = .ok (.iload_n 3, 1) := by decide +kernel
theorem rX7_hinges_23 {R : zP} {x0 x1 x2 : Option zV} {st : List zV} {M : zM} {a : Int} : uX7_hinges R 23 [x0, x1, x2, some (.inl a)] st M ↔ uX7_hinges R 24 [x0, x1, x2, some (.inl a)] (.inl a :: st) M := zU_step dX7_hinges_23 (Or.inl rfl)
theorem dX7_hinges_24 : decode cX7_hinges 24 = .ok (.ishl, 1) := by decide +kernel
theorem rX7_hinges_24 {R : zP} {x0 x1 x2 x3 : Option zV} {st : List zV} {M : zM} {a b : Int} : uX7_hinges R 24 [x0, x1, x2, x3] (.inl b :: .inl a :: st) M ↔ uX7_hinges R 25 [x0, x1, x2, x3] (.inl (zshl a b) :: st) M := zU_step dX7_hinges_24 (Or.inl rfl)
theorem dX7_hinges_25 : decode cX7_hinges 25 = .ok (.ixor, 1) := by decide +kernel
theorem rX7_hinges_25 {R : zP} {x0 x1 x2 x3 : Option zV} {st : List zV} {M : zM} {a b : Int} : uX7_hinges R 25 [x0, x1, x2, x3] (.inl b :: .inl a :: st) M ↔ uX7_hinges R 26 [x0, x1, x2, x3] (.inl (zxor a b) :: st) M := zU_step dX7_hinges_25 (Or.inl rfl)
theorem dX7_hinges_26 : decode cX7_hinges 26 = .ok (.invokevirtual 178, 3) := by decide +kernel
theorem rX7_hinges_26 {R : zP} {x0 x1 x2 x3 : Option zV} {st : List zV} {M : zM} {a0 a1 : zV} : uX7_hinges R 26 [x0, x1, x2, x3] (a1 :: a0 :: st) M ↔ (st.length ≤ 4 ∧ zcv (zv 7 tX7_haveIt) [a0, a1] M (fun v M => uX7_hinges R 29 [x0, x1, x2, x3] (v :: st) M)) := Iff.trans (zU_step dX7_hinges_26 (Or.inl rfl)) ⟨fun h => ⟨h.2.1, zcv_of h.2.2⟩, fun h => ⟨rfl, h.1, zcv_to h.2⟩⟩
theorem dX7_hinges_29 : decode cX7_hinges 29 = .ok (.if_icmp .eq 9, 3) := by decide +kernel
theorem rX7_hinges_29 {R : zP} {x0 x1 x2 x3 : Option zV} {st : List zV} {M : zM} {a b : Int} : uX7_hinges R 29 [x0, x1, x2, x3] (.inl b :: .inl a :: st) M ↔ ((zIR a ∧ zIR b) ∧ if a = b then uX7_hinges R 38 [x0, x1, x2, x3] st M else uX7_hinges R 32 [x0, x1, x2, x3] st M) := Iff.trans (zU_step dX7_hinges_29 (Or.inl rfl)) ⟨fun h => ⟨⟨h.1.1, h.1.2.1⟩, (zite (c := a = b)).mpr h.2⟩, fun h => ⟨⟨h.1.1, h.1.2, by decide⟩, (zite (c := a = b)).mp h.2⟩⟩
theorem dX7_hinges_32 : decode cX7_hinges 32 = .ok (.iload_n 2, 1) := by decide +kernel
theorem rX7_hinges_32 {R : zP} {x0 x1 x3 : Option zV} {st : List zV} {M : zM} {a : Int} : uX7_hinges R 32 [x0, x1, some (.inl a), x3] st M ↔ uX7_hinges R 33 [x0, x1, some (.inl a), x3] (.inl a :: st) M := zU_step dX7_hinges_32 (Or.inl rfl)
theorem dX7_hinges_33 : decode cX7_hinges 33 = .ok (.iconst 1, 1) := by decide +kernel
theorem rX7_hinges_33 {R : zP} {x0 x1 x2 x3 : Option zV} {st : List zV} {M : zM} : uX7_hinges R 33 [x0, x1, x2, x3] st M ↔ uX7_hinges R 34 [x0, x1, x2, x3] (.inl (1) :: st) M := zU_step dX7_hinges_33 (Or.inl rfl)
theorem dX7_hinges_34 : decode cX7_hinges 34 = .ok (.iload_n 3, 1) := by decide +kernel
theorem rX7_hinges_34 {R : zP} {x0 x1 x2 : Option zV} {st : List zV} {M : zM} {a : Int} : uX7_hinges R 34 [x0, x1, x2, some (.inl a)] st M ↔ uX7_hinges R 35 [x0, x1, x2, some (.inl a)] (.inl a :: st) M := zU_step dX7_hinges_34 (Or.inl rfl)
theorem dX7_hinges_35 : decode cX7_hinges 35 = .ok (.ishl, 1) := by decide +kernel
theorem rX7_hinges_35 {R : zP} {x0 x1 x2 x3 : Option zV} {st : List zV} {M : zM} {a b : Int} : uX7_hinges R 35 [x0, x1, x2, x3] (.inl b :: .inl a :: st) M ↔ uX7_hinges R 36 [x0, x1, x2, x3] (.inl (zshl a b) :: st) M := zU_step dX7_hinges_35 (Or.inl rfl)
theorem dX7_hinges_36 : decode cX7_hinges 36 = .ok (.ior, 1) := by decide +kernel
theorem rX7_hinges_36 {R : zP} {x0 x1 x2 x3 : Option zV} {st : List zV} {M : zM} {a b : Int} : uX7_hinges R 36 [x0, x1, x2, x3] (.inl b :: .inl a :: st) M ↔ uX7_hinges R 37 [x0, x1, x2, x3] (.inl (zor a b) :: st) M := zU_step dX7_hinges_36 (Or.inl rfl)
theorem dX7_hinges_37 : decode cX7_hinges 37 = .ok (.istore_n 2, 1) := by decide +kernel
theorem rX7_hinges_37 {R : zP} {x0 x2 x3 : Option zV} {st : List zV} {M : zM} {a : Int} {y : Int} : uX7_hinges R 37 [x0, some (.inl y), x2, x3] (.inl a :: st) M ↔ uX7_hinges R 38 [x0, some (.inl y), some (.inl a), x3] st M := Iff.trans (zU_step dX7_hinges_37 (Or.inl rfl)) ⟨fun h => h.2, fun h => ⟨show 2 < 4 by decide, h⟩⟩
theorem rX7_hinges_37z {R : zP} {x0 x1 x2 x3 : Option zV} {st : List zV} {M : zM} {a : Int} : uX7_hinges R 37 [x0, x1, x2, x3] (.inl a :: st) M ↔ uX7_hinges R 38 [x0, zkeep x1, some (.inl a), x3] st M := Iff.trans (zU_step dX7_hinges_37 (Or.inl rfl)) ⟨fun h => h.2, fun h => ⟨show 2 < 4 by decide, h⟩⟩
theorem dX7_hinges_38 : decode cX7_hinges 38 = .ok (.iinc 3 1, 3) := by decide +kernel
theorem rX7_hinges_38 {R : zP} {x0 x1 : Option zV} {st : List zV} {M : zM} {a : Int} {y : Int} : uX7_hinges R 38 [x0, x1, some (.inl y), some (.inl a)] st M ↔ uX7_hinges R 41 [x0, x1, some (.inl y), some (.inl (a + (1)))] st M := Iff.trans (zU_step dX7_hinges_38 (Or.inl rfl)) ⟨fun h => h.2, fun h => ⟨show 3 < 4 by decide, h⟩⟩
theorem rX7_hinges_38z {R : zP} {x0 x1 x2 : Option zV} {st : List zV} {M : zM} {a : Int} : uX7_hinges R 38 [x0, x1, x2, some (.inl a)] st M ↔ uX7_hinges R 41 [x0, x1, zkeep x2, some (.inl (a + (1)))] st M := Iff.trans (zU_step dX7_hinges_38 (Or.inl rfl)) ⟨fun h => h.2, fun h => ⟨show 3 < 4 by decide, h⟩⟩
theorem dX7_hinges_41 : decode cX7_hinges 41 = .ok (.goto (-37), 3) := by decide +kernel
theorem rX7_hinges_41 {R : zP} {x0 x1 x2 x3 : Option zV} {st : List zV} {M : zM} : uX7_hinges R 41 [x0, x1, x2, x3] st M ↔ uX7_hinges R 4 [x0, x1, x2, x3] st M := Iff.trans (zU_step dX7_hinges_41 (Or.inl rfl)) ⟨fun h => h.2, fun h => ⟨by decide, h⟩⟩
theorem dX7_hinges_44 : decode cX7_hinges 44 = .ok (.iload_n 2, 1) := by decide +kernel
theorem rX7_hinges_44 {R : zP} {x0 x1 x3 : Option zV} {st : List zV} {M : zM} {a : Int} : uX7_hinges R 44 [x0, x1, some (.inl a), x3] st M ↔ uX7_hinges R 45 [x0, x1, some (.inl a), x3] (.inl a :: st) M := zU_step dX7_hinges_44 (Or.inl rfl)
theorem dX7_hinges_45 : decode cX7_hinges 45 = .ok (.ireturn, 1) := by decide +kernel
theorem rX7_hinges_45 {R : zP} {x0 x1 x2 x3 : Option zV} {M : zM} {a : Int} : uX7_hinges R 45 [x0, x1, x2, x3] [.inl a] M ↔ R (some (.inl a)) M := Iff.trans (zU_step dX7_hinges_45 (Or.inl rfl)) ⟨fun h => h.2.2, fun h => ⟨rfl, Or.inl rfl, h⟩⟩
theorem eX7_hinges {R : zP} {M : zM} {a0 : Nat} {p0 : Int} : tX7_hinges [.inr (.inr a0), .inl p0] M R ↔ uX7_hinges R 0 [some (.inr (.inr a0)), some (.inl p0), none, none] [] M := ⟨fun h => h.2, fun h => ⟨show 2 ≤ 4 by decide, h⟩⟩
def uX7_house (R : zP) : zK := zU fX7 vX7_house cX7_house R
theorem dX7_house_0 : decode cX7_house 0 = .ok (.iload_n 1, 1) := by decide +kernel
theorem rX7_house_0 {R : zP} {x0 x2 x3 x4 : Option zV} {st : List zV} {M : zM} {a : Int} : uX7_house R 0 [x0, some (.inl a), x2, x3, x4] st M ↔ uX7_house R 1 [x0, some (.inl a), x2, x3, x4] (.inl a :: st) M := zU_step dX7_house_0 (Or.inl rfl)
theorem dX7_house_1 : decode cX7_house 1 = .ok (.bipush 20, 2) := by decide +kernel
theorem rX7_house_1 {R : zP} {x0 x1 x2 x3 x4 : Option zV} {st : List zV} {M : zM} : uX7_house R 1 [x0, x1, x2, x3, x4] st M ↔ uX7_house R 3 [x0, x1, x2, x3, x4] (.inl (20) :: st) M := Iff.trans (zU_step dX7_house_1 (Or.inl rfl)) ⟨fun h => h.2, fun h => ⟨by decide, h⟩⟩
theorem dX7_house_3 : decode cX7_house 3 = .ok (.invokestatic 94, 3) := by decide +kernel
theorem rX7_house_3 {R : zP} {x0 x1 x2 x3 x4 : Option zV} {st : List zV} {M : zM} {a0 a1 : zV} : uX7_house R 3 [x0, x1, x2, x3, x4] (a1 :: a0 :: st) M ↔ (st.length ≤ 4 ∧ zcv tX7_outside [a0, a1] M (fun v M => uX7_house R 6 [x0, x1, x2, x3, x4] (v :: st) M)) := Iff.trans (zU_step dX7_house_3 (Or.inl rfl)) ⟨fun h => ⟨h.2.1, zcv_of h.2.2⟩, fun h => ⟨rfl, h.1, zcv_to h.2⟩⟩
theorem dX7_house_6 : decode cX7_house 6 = .ok (.ifCond .ne 19, 3) := by decide +kernel
theorem rX7_house_6 {R : zP} {x0 x1 x2 x3 x4 : Option zV} {st : List zV} {M : zM} {a : Int} : uX7_house R 6 [x0, x1, x2, x3, x4] (.inl a :: st) M ↔ (zIR a ∧ if a ≠ 0 then uX7_house R 25 [x0, x1, x2, x3, x4] st M else uX7_house R 9 [x0, x1, x2, x3, x4] st M) := Iff.trans (zU_step dX7_house_6 (Or.inl rfl)) ⟨fun h => ⟨h.1.1, (zite (c := a ≠ 0)).mpr h.2⟩, fun h => ⟨⟨h.1, by decide⟩, (zite (c := a ≠ 0)).mp h.2⟩⟩
theorem dX7_house_9 : decode cX7_house 9 = .ok (.iload_n 2, 1) := by decide +kernel
theorem rX7_house_9 {R : zP} {x0 x1 x3 x4 : Option zV} {st : List zV} {M : zM} {a : Int} : uX7_house R 9 [x0, x1, some (.inl a), x3, x4] st M ↔ uX7_house R 10 [x0, x1, some (.inl a), x3, x4] (.inl a :: st) M := zU_step dX7_house_9 (Or.inl rfl)
theorem dX7_house_10 : decode cX7_house 10 = .ok (.iconst 4, 1) := by decide +kernel
theorem rX7_house_10 {R : zP} {x0 x1 x2 x3 x4 : Option zV} {st : List zV} {M : zM} : uX7_house R 10 [x0, x1, x2, x3, x4] st M ↔ uX7_house R 11 [x0, x1, x2, x3, x4] (.inl (4) :: st) M := zU_step dX7_house_10 (Or.inl rfl)
theorem dX7_house_11 : decode cX7_house 11 = .ok (.invokestatic 94, 3) := by decide +kernel
theorem rX7_house_11 {R : zP} {x0 x1 x2 x3 x4 : Option zV} {st : List zV} {M : zM} {a0 a1 : zV} : uX7_house R 11 [x0, x1, x2, x3, x4] (a1 :: a0 :: st) M ↔ (st.length ≤ 4 ∧ zcv tX7_outside [a0, a1] M (fun v M => uX7_house R 14 [x0, x1, x2, x3, x4] (v :: st) M)) := Iff.trans (zU_step dX7_house_11 (Or.inl rfl)) ⟨fun h => ⟨h.2.1, zcv_of h.2.2⟩, fun h => ⟨rfl, h.1, zcv_to h.2⟩⟩
theorem dX7_house_14 : decode cX7_house 14 = .ok (.ifCond .ne 11, 3) := by decide +kernel
theorem rX7_house_14 {R : zP} {x0 x1 x2 x3 x4 : Option zV} {st : List zV} {M : zM} {a : Int} : uX7_house R 14 [x0, x1, x2, x3, x4] (.inl a :: st) M ↔ (zIR a ∧ if a ≠ 0 then uX7_house R 25 [x0, x1, x2, x3, x4] st M else uX7_house R 17 [x0, x1, x2, x3, x4] st M) := Iff.trans (zU_step dX7_house_14 (Or.inl rfl)) ⟨fun h => ⟨h.1.1, (zite (c := a ≠ 0)).mpr h.2⟩, fun h => ⟨⟨h.1, by decide⟩, (zite (c := a ≠ 0)).mp h.2⟩⟩
theorem dX7_house_17 : decode cX7_house 17 = .ok (.iload_n 3, 1) := by decide +kernel
theorem rX7_house_17 {R : zP} {x0 x1 x2 x4 : Option zV} {st : List zV} {M : zM} {a : Int} : uX7_house R 17 [x0, x1, x2, some (.inl a), x4] st M ↔ uX7_house R 18 [x0, x1, x2, some (.inl a), x4] (.inl a :: st) M := zU_step dX7_house_17 (Or.inl rfl)
theorem dX7_house_18 : decode cX7_house 18 = .ok (.iconst 3, 1) := by decide +kernel
theorem rX7_house_18 {R : zP} {x0 x1 x2 x3 x4 : Option zV} {st : List zV} {M : zM} : uX7_house R 18 [x0, x1, x2, x3, x4] st M ↔ uX7_house R 19 [x0, x1, x2, x3, x4] (.inl (3) :: st) M := zU_step dX7_house_18 (Or.inl rfl)
theorem dX7_house_19 : decode cX7_house 19 = .ok (.invokestatic 94, 3) := by decide +kernel
theorem rX7_house_19 {R : zP} {x0 x1 x2 x3 x4 : Option zV} {st : List zV} {M : zM} {a0 a1 : zV} : uX7_house R 19 [x0, x1, x2, x3, x4] (a1 :: a0 :: st) M ↔ (st.length ≤ 4 ∧ zcv tX7_outside [a0, a1] M (fun v M => uX7_house R 22 [x0, x1, x2, x3, x4] (v :: st) M)) := Iff.trans (zU_step dX7_house_19 (Or.inl rfl)) ⟨fun h => ⟨h.2.1, zcv_of h.2.2⟩, fun h => ⟨rfl, h.1, zcv_to h.2⟩⟩
theorem dX7_house_22 : decode cX7_house 22 = .ok (.ifCond .eq 6, 3) := by decide +kernel
theorem rX7_house_22 {R : zP} {x0 x1 x2 x3 x4 : Option zV} {st : List zV} {M : zM} {a : Int} : uX7_house R 22 [x0, x1, x2, x3, x4] (.inl a :: st) M ↔ (zIR a ∧ if a = 0 then uX7_house R 28 [x0, x1, x2, x3, x4] st M else uX7_house R 25 [x0, x1, x2, x3, x4] st M) := Iff.trans (zU_step dX7_house_22 (Or.inl rfl)) ⟨fun h => ⟨h.1.1, (zite (c := a = 0)).mpr h.2⟩, fun h => ⟨⟨h.1, by decide⟩, (zite (c := a = 0)).mp h.2⟩⟩
theorem dX7_house_25 : decode cX7_house 25 = .ok (.bipush (-2), 2) := by decide +kernel
theorem rX7_house_25 {R : zP} {x0 x1 x2 x3 x4 : Option zV} {st : List zV} {M : zM} : uX7_house R 25 [x0, x1, x2, x3, x4] st M ↔ uX7_house R 27 [x0, x1, x2, x3, x4] (.inl (-2) :: st) M := Iff.trans (zU_step dX7_house_25 (Or.inl rfl)) ⟨fun h => h.2, fun h => ⟨by decide, h⟩⟩
theorem dX7_house_27 : decode cX7_house 27 = .ok (.ireturn, 1) := by decide +kernel
theorem rX7_house_27 {R : zP} {x0 x1 x2 x3 x4 : Option zV} {M : zM} {a : Int} : uX7_house R 27 [x0, x1, x2, x3, x4] [.inl a] M ↔ R (some (.inl a)) M := Iff.trans (zU_step dX7_house_27 (Or.inl rfl)) ⟨fun h => h.2.2, fun h => ⟨rfl, Or.inl rfl, h⟩⟩
theorem dX7_house_28 : decode cX7_house 28 = .ok (.aload_n 0, 1) := by decide +kernel
theorem rX7_house_28 {R : zP} {x1 x2 x3 x4 : Option zV} {st : List zV} {M : zM} {a : Nat} : uX7_house R 28 [some (.inr (.inr a)), x1, x2, x3, x4] st M ↔ uX7_house R 29 [some (.inr (.inr a)), x1, x2, x3, x4] (.inr (.inr a) :: st) M := zU_step dX7_house_28 (Or.inl rfl)
theorem dX7_house_29 : decode cX7_house 29 = .ok (.iload_n 1, 1) := by decide +kernel
theorem rX7_house_29 {R : zP} {x0 x2 x3 x4 : Option zV} {st : List zV} {M : zM} {a : Int} : uX7_house R 29 [x0, some (.inl a), x2, x3, x4] st M ↔ uX7_house R 30 [x0, some (.inl a), x2, x3, x4] (.inl a :: st) M := zU_step dX7_house_29 (Or.inl rfl)
theorem dX7_house_30 : decode cX7_house 30 = .ok (.iload_n 2, 1) := by decide +kernel
theorem rX7_house_30 {R : zP} {x0 x1 x3 x4 : Option zV} {st : List zV} {M : zM} {a : Int} : uX7_house R 30 [x0, x1, some (.inl a), x3, x4] st M ↔ uX7_house R 31 [x0, x1, some (.inl a), x3, x4] (.inl a :: st) M := zU_step dX7_house_30 (Or.inl rfl)
theorem dX7_house_31 : decode cX7_house 31 = .ok (.invokevirtual 169, 3) := by decide +kernel
theorem rX7_house_31 {R : zP} {x0 x1 x2 x3 x4 : Option zV} {st : List zV} {M : zM} {a0 a1 a2 : zV} : uX7_house R 31 [x0, x1, x2, x3, x4] (a2 :: a1 :: a0 :: st) M ↔ (st.length ≤ 4 ∧ zcv (zv 7 tX7_ayes) [a0, a1, a2] M (fun v M => uX7_house R 34 [x0, x1, x2, x3, x4] (v :: st) M)) := Iff.trans (zU_step dX7_house_31 (Or.inl rfl)) ⟨fun h => ⟨h.2.1, zcv_of h.2.2⟩, fun h => ⟨rfl, h.1, zcv_to h.2⟩⟩
theorem dX7_house_34 : decode cX7_house 34 = .ok (.istore 4, 2) := by decide +kernel
theorem rX7_house_34 {R : zP} {x0 x1 x2 x4 : Option zV} {st : List zV} {M : zM} {a : Int} {y : Int} : uX7_house R 34 [x0, x1, x2, some (.inl y), x4] (.inl a :: st) M ↔ uX7_house R 36 [x0, x1, x2, some (.inl y), some (.inl a)] st M := Iff.trans (zU_step dX7_house_34 (Or.inl rfl)) ⟨fun h => h.2, fun h => ⟨show 4 < 5 by decide, h⟩⟩
theorem rX7_house_34z {R : zP} {x0 x1 x2 x3 x4 : Option zV} {st : List zV} {M : zM} {a : Int} : uX7_house R 34 [x0, x1, x2, x3, x4] (.inl a :: st) M ↔ uX7_house R 36 [x0, x1, x2, zkeep x3, some (.inl a)] st M := Iff.trans (zU_step dX7_house_34 (Or.inl rfl)) ⟨fun h => h.2, fun h => ⟨show 4 < 5 by decide, h⟩⟩
theorem dX7_house_36 : decode cX7_house 36 = .ok (.iload_n 3, 1) := by decide +kernel
theorem rX7_house_36 {R : zP} {x0 x1 x2 x4 : Option zV} {st : List zV} {M : zM} {a : Int} : uX7_house R 36 [x0, x1, x2, some (.inl a), x4] st M ↔ uX7_house R 37 [x0, x1, x2, some (.inl a), x4] (.inl a :: st) M := zU_step dX7_house_36 (Or.inl rfl)
theorem dX7_house_37 : decode cX7_house 37 = .ok (.lookupswitch 43 #[(0, 27), (1, 33)], 27) := by decide +kernel
theorem rX7_house_37 {R : zP} {x0 x1 x2 x3 x4 : Option zV} {st : List zV} {M : zM} {a : Int} : uX7_house R 37 [x0, x1, x2, x3, x4] (.inl a :: st) M ↔ (zIR a ∧ (a = 0 → uX7_house R 64 [x0, x1, x2, x3, x4] st M) ∧ (a = 1 → uX7_house R 70 [x0, x1, x2, x3, x4] st M) ∧ ((a ≠ 0 ∧ a ≠ 1) → uX7_house R 80 [x0, x1, x2, x3, x4] st M)) := by
  refine Iff.trans (zU_step dX7_house_37 (Or.inr rfl)) ?_
  constructor
  · intro h
    refine ⟨h.1, fun e => by subst e; exact h.2.2.2, fun e => by subst e; exact h.2.2.2, fun e => ?_⟩
    have h2 := h.2.2.2
    have e3 : Op.lookupswitch.offset [(0, 27), (1, 33)] 43 a = 43 := by simp [Op.lookupswitch.offset, e]; try omega
    simp only [e3] at h2
    exact h2
  · intro h
    refine ⟨h.1, by decide, ?_⟩
    by_cases e : a ≠ 0 ∧ a ≠ 1
    · have e3 : Op.lookupswitch.offset [(0, 27), (1, 33)] 43 a = 43 := by simp [Op.lookupswitch.offset, e]; try omega
      simp only [e3]
      exact ⟨by decide, h.2.2.2 e⟩
    · have e2 : a = 0 ∨ a = 1 := by omega
      rcases e2 with e2 | e2
      · subst e2
        exact ⟨by decide, h.2.1 rfl⟩
      · subst e2
        exact ⟨by decide, h.2.2.1 rfl⟩
theorem dX7_house_64 : decode cX7_house 64 = .ok (.iload 4, 2) := by decide +kernel
theorem rX7_house_64 {R : zP} {x0 x1 x2 x3 : Option zV} {st : List zV} {M : zM} {a : Int} : uX7_house R 64 [x0, x1, x2, x3, some (.inl a)] st M ↔ uX7_house R 66 [x0, x1, x2, x3, some (.inl a)] (.inl a :: st) M := zU_step dX7_house_64 (Or.inl rfl)
theorem dX7_house_66 : decode cX7_house 66 = .ok (.invokestatic 173, 3) := by decide +kernel
theorem rX7_house_66 {R : zP} {x0 x1 x2 x3 x4 : Option zV} {st : List zV} {M : zM} {a0 : zV} : uX7_house R 66 [x0, x1, x2, x3, x4] (a0 :: st) M ↔ (st.length ≤ 4 ∧ zcv tJ6_bitCount_0f7a4 [a0] M (fun v M => uX7_house R 69 [x0, x1, x2, x3, x4] (v :: st) M)) := Iff.trans (zU_step dX7_house_66 (Or.inl rfl)) ⟨fun h => ⟨h.2.1, zcv_of h.2.2⟩, fun h => ⟨rfl, h.1, zcv_to h.2⟩⟩
theorem dX7_house_69 : decode cX7_house 69 = .ok (.ireturn, 1) := by decide +kernel
theorem rX7_house_69 {R : zP} {x0 x1 x2 x3 x4 : Option zV} {M : zM} {a : Int} : uX7_house R 69 [x0, x1, x2, x3, x4] [.inl a] M ↔ R (some (.inl a)) M := Iff.trans (zU_step dX7_house_69 (Or.inl rfl)) ⟨fun h => h.2.2, fun h => ⟨rfl, Or.inl rfl, h⟩⟩
theorem dX7_house_70 : decode cX7_house 70 = .ok (.aload_n 0, 1) := by decide +kernel
theorem rX7_house_70 {R : zP} {x1 x2 x3 x4 : Option zV} {st : List zV} {M : zM} {a : Nat} : uX7_house R 70 [some (.inr (.inr a)), x1, x2, x3, x4] st M ↔ uX7_house R 71 [some (.inr (.inr a)), x1, x2, x3, x4] (.inr (.inr a) :: st) M := zU_step dX7_house_70 (Or.inl rfl)
theorem dX7_house_71 : decode cX7_house 71 = .ok (.iload 4, 2) := by decide +kernel
theorem rX7_house_71 {R : zP} {x0 x1 x2 x3 : Option zV} {st : List zV} {M : zM} {a : Int} : uX7_house R 71 [x0, x1, x2, x3, some (.inl a)] st M ↔ uX7_house R 73 [x0, x1, x2, x3, some (.inl a)] (.inl a :: st) M := zU_step dX7_house_71 (Or.inl rfl)
theorem dX7_house_73 : decode cX7_house 73 = .ok (.invokevirtual 178, 3) := by decide +kernel
theorem rX7_house_73 {R : zP} {x0 x1 x2 x3 x4 : Option zV} {st : List zV} {M : zM} {a0 a1 : zV} : uX7_house R 73 [x0, x1, x2, x3, x4] (a1 :: a0 :: st) M ↔ (st.length ≤ 4 ∧ zcv (zv 7 tX7_haveIt) [a0, a1] M (fun v M => uX7_house R 76 [x0, x1, x2, x3, x4] (v :: st) M)) := Iff.trans (zU_step dX7_house_73 (Or.inl rfl)) ⟨fun h => ⟨h.2.1, zcv_of h.2.2⟩, fun h => ⟨rfl, h.1, zcv_to h.2⟩⟩
theorem dX7_house_76 : decode cX7_house 76 = .ok (.invokestatic 155, 3) := by decide +kernel
theorem rX7_house_76 {R : zP} {x0 x1 x2 x3 x4 : Option zV} {st : List zV} {M : zM} {a0 : zV} : uX7_house R 76 [x0, x1, x2, x3, x4] (a0 :: st) M ↔ (st.length ≤ 4 ∧ zcv tX7_bit [a0] M (fun v M => uX7_house R 79 [x0, x1, x2, x3, x4] (v :: st) M)) := Iff.trans (zU_step dX7_house_76 (Or.inl rfl)) ⟨fun h => ⟨h.2.1, zcv_of h.2.2⟩, fun h => ⟨rfl, h.1, zcv_to h.2⟩⟩
theorem dX7_house_79 : decode cX7_house 79 = .ok (.ireturn, 1) := by decide +kernel
theorem rX7_house_79 {R : zP} {x0 x1 x2 x3 x4 : Option zV} {M : zM} {a : Int} : uX7_house R 79 [x0, x1, x2, x3, x4] [.inl a] M ↔ R (some (.inl a)) M := Iff.trans (zU_step dX7_house_79 (Or.inl rfl)) ⟨fun h => h.2.2, fun h => ⟨rfl, Or.inl rfl, h⟩⟩
theorem dX7_house_80 : decode cX7_house 80 = .ok (.aload_n 0, 1) := by decide +kernel
theorem rX7_house_80 {R : zP} {x1 x2 x3 x4 : Option zV} {st : List zV} {M : zM} {a : Nat} : uX7_house R 80 [some (.inr (.inr a)), x1, x2, x3, x4] st M ↔ uX7_house R 81 [some (.inr (.inr a)), x1, x2, x3, x4] (.inr (.inr a) :: st) M := zU_step dX7_house_80 (Or.inl rfl)
theorem dX7_house_81 : decode cX7_house 81 = .ok (.iload 4, 2) := by decide +kernel
theorem rX7_house_81 {R : zP} {x0 x1 x2 x3 : Option zV} {st : List zV} {M : zM} {a : Int} : uX7_house R 81 [x0, x1, x2, x3, some (.inl a)] st M ↔ uX7_house R 83 [x0, x1, x2, x3, some (.inl a)] (.inl a :: st) M := zU_step dX7_house_81 (Or.inl rfl)
theorem dX7_house_83 : decode cX7_house 83 = .ok (.invokevirtual 182, 3) := by decide +kernel
theorem rX7_house_83 {R : zP} {x0 x1 x2 x3 x4 : Option zV} {st : List zV} {M : zM} {a0 a1 : zV} : uX7_house R 83 [x0, x1, x2, x3, x4] (a1 :: a0 :: st) M ↔ (st.length ≤ 4 ∧ zcv (zv 7 tX7_hinges) [a0, a1] M (fun v M => uX7_house R 86 [x0, x1, x2, x3, x4] (v :: st) M)) := Iff.trans (zU_step dX7_house_83 (Or.inl rfl)) ⟨fun h => ⟨h.2.1, zcv_of h.2.2⟩, fun h => ⟨rfl, h.1, zcv_to h.2⟩⟩
theorem dX7_house_86 : decode cX7_house 86 = .ok (.ireturn, 1) := by decide +kernel
theorem rX7_house_86 {R : zP} {x0 x1 x2 x3 x4 : Option zV} {M : zM} {a : Int} : uX7_house R 86 [x0, x1, x2, x3, x4] [.inl a] M ↔ R (some (.inl a)) M := Iff.trans (zU_step dX7_house_86 (Or.inl rfl)) ⟨fun h => h.2.2, fun h => ⟨rfl, Or.inl rfl, h⟩⟩
theorem eX7_house {R : zP} {M : zM} {a0 : Nat} {p0 : Int} {p1 : Int} {p2 : Int} : tX7_house [.inr (.inr a0), .inl p0, .inl p1, .inl p2] M R ↔ uX7_house R 0 [some (.inr (.inr a0)), some (.inl p0), some (.inl p1), some (.inl p2), none] [] M := ⟨fun h => h.2, fun h => ⟨show 4 ≤ 5 by decide, h⟩⟩
def uX7_termOfAllSides (R : zP) : zK := zU fX7 vX7_termOfAllSides cX7_termOfAllSides R
theorem dX7_termOfAllSides_0 : decode cX7_termOfAllSides 0 = .ok (.aload_n 0, 1) := by decide +kernel
theorem rX7_termOfAllSides_0 {R : zP} {x1 x2 x3 x4 : Option zV} {st : List zV} {M : zM} {a : Nat} : uX7_termOfAllSides R 0 [some (.inr (.inr a)), x1, x2, x3, x4] st M ↔ uX7_termOfAllSides R 1 [some (.inr (.inr a)), x1, x2, x3, x4] (.inr (.inr a) :: st) M := zU_step dX7_termOfAllSides_0 (Or.inl rfl)
theorem dX7_termOfAllSides_1 : decode cX7_termOfAllSides 1 = .ok (.getfield 55, 3) := by decide +kernel
theorem rX7_termOfAllSides_1 {R : zP} {x0 x1 x2 x3 x4 : Option zV} {st : List zV} {M : zM} {r : Nat} : uX7_termOfAllSides R 1 [x0, x1, x2, x3, x4] (.inr (.inr r) :: st) M ↔ zgetx fX7 55 r M (fun v => uX7_termOfAllSides R 4 [x0, x1, x2, x3, x4] (v :: st) M) := zU_step dX7_termOfAllSides_1 (Or.inl rfl)
theorem dX7_termOfAllSides_4 : decode cX7_termOfAllSides 4 = .ok (.aload_n 0, 1) := by decide +kernel
theorem rX7_termOfAllSides_4 {R : zP} {x1 x2 x3 x4 : Option zV} {st : List zV} {M : zM} {a : Nat} : uX7_termOfAllSides R 4 [some (.inr (.inr a)), x1, x2, x3, x4] st M ↔ uX7_termOfAllSides R 5 [some (.inr (.inr a)), x1, x2, x3, x4] (.inr (.inr a) :: st) M := zU_step dX7_termOfAllSides_4 (Or.inl rfl)
theorem dX7_termOfAllSides_5 : decode cX7_termOfAllSides 5 = .ok (.getfield 14, 3) := by decide +kernel
theorem rX7_termOfAllSides_5 {R : zP} {x0 x1 x2 x3 x4 : Option zV} {st : List zV} {M : zM} {r : Nat} : uX7_termOfAllSides R 5 [x0, x1, x2, x3, x4] (.inr (.inr r) :: st) M ↔ zgetx fX7 14 r M (fun v => uX7_termOfAllSides R 8 [x0, x1, x2, x3, x4] (v :: st) M) := zU_step dX7_termOfAllSides_5 (Or.inl rfl)
theorem dX7_termOfAllSides_8 : decode cX7_termOfAllSides 8 = .ok (.iload_n 1, 1) := by decide +kernel
theorem rX7_termOfAllSides_8 {R : zP} {x0 x2 x3 x4 : Option zV} {st : List zV} {M : zM} {a : Int} : uX7_termOfAllSides R 8 [x0, some (.inl a), x2, x3, x4] st M ↔ uX7_termOfAllSides R 9 [x0, some (.inl a), x2, x3, x4] (.inl a :: st) M := zU_step dX7_termOfAllSides_8 (Or.inl rfl)
theorem dX7_termOfAllSides_9 : decode cX7_termOfAllSides 9 = .ok (.invokevirtual 238, 3) := by decide +kernel
theorem rX7_termOfAllSides_9 {R : zP} {x0 x1 x2 x3 x4 : Option zV} {st : List zV} {M : zM} {a0 a1 a2 : zV} : uX7_termOfAllSides R 9 [x0, x1, x2, x3, x4] (a2 :: a1 :: a0 :: st) M ↔ (st.length ≤ 4 ∧ zcn (zv 3 tX3_enter) [a0, a1, a2] M (fun M => uX7_termOfAllSides R 12 [x0, x1, x2, x3, x4] st M)) := Iff.trans (zU_step dX7_termOfAllSides_9 (Or.inl rfl)) ⟨fun h => ⟨h.2.1, zcn_of h.2.2⟩, fun h => ⟨rfl, h.1, zcn_to h.2⟩⟩
theorem dX7_termOfAllSides_12 : decode cX7_termOfAllSides 12 = .ok (.iconst 0, 1) := by decide +kernel
theorem rX7_termOfAllSides_12 {R : zP} {x0 x1 x2 x3 x4 : Option zV} {st : List zV} {M : zM} : uX7_termOfAllSides R 12 [x0, x1, x2, x3, x4] st M ↔ uX7_termOfAllSides R 13 [x0, x1, x2, x3, x4] (.inl (0) :: st) M := zU_step dX7_termOfAllSides_12 (Or.inl rfl)
theorem dX7_termOfAllSides_13 : decode cX7_termOfAllSides 13 = .ok (.istore_n 3, 1) := by decide +kernel
theorem rX7_termOfAllSides_13 {R : zP} {x0 x1 x3 x4 : Option zV} {st : List zV} {M : zM} {a : Int} {y : Int} : uX7_termOfAllSides R 13 [x0, x1, some (.inl y), x3, x4] (.inl a :: st) M ↔ uX7_termOfAllSides R 14 [x0, x1, some (.inl y), some (.inl a), x4] st M := Iff.trans (zU_step dX7_termOfAllSides_13 (Or.inl rfl)) ⟨fun h => h.2, fun h => ⟨show 3 < 5 by decide, h⟩⟩
theorem rX7_termOfAllSides_13z {R : zP} {x0 x1 x2 x3 x4 : Option zV} {st : List zV} {M : zM} {a : Int} : uX7_termOfAllSides R 13 [x0, x1, x2, x3, x4] (.inl a :: st) M ↔ uX7_termOfAllSides R 14 [x0, x1, zkeep x2, some (.inl a), x4] st M := Iff.trans (zU_step dX7_termOfAllSides_13 (Or.inl rfl)) ⟨fun h => h.2, fun h => ⟨show 3 < 5 by decide, h⟩⟩
theorem dX7_termOfAllSides_14 : decode cX7_termOfAllSides 14 = .ok (.iconst 0, 1) := by decide +kernel
theorem rX7_termOfAllSides_14 {R : zP} {x0 x1 x2 x3 x4 : Option zV} {st : List zV} {M : zM} : uX7_termOfAllSides R 14 [x0, x1, x2, x3, x4] st M ↔ uX7_termOfAllSides R 15 [x0, x1, x2, x3, x4] (.inl (0) :: st) M := zU_step dX7_termOfAllSides_14 (Or.inl rfl)
theorem dX7_termOfAllSides_15 : decode cX7_termOfAllSides 15 = .ok (.istore 4, 2) := by decide +kernel
theorem rX7_termOfAllSides_15 {R : zP} {x0 x1 x2 x4 : Option zV} {st : List zV} {M : zM} {a : Int} {y : Int} : uX7_termOfAllSides R 15 [x0, x1, x2, some (.inl y), x4] (.inl a :: st) M ↔ uX7_termOfAllSides R 17 [x0, x1, x2, some (.inl y), some (.inl a)] st M := Iff.trans (zU_step dX7_termOfAllSides_15 (Or.inl rfl)) ⟨fun h => h.2, fun h => ⟨show 4 < 5 by decide, h⟩⟩
theorem rX7_termOfAllSides_15z {R : zP} {x0 x1 x2 x3 x4 : Option zV} {st : List zV} {M : zM} {a : Int} : uX7_termOfAllSides R 15 [x0, x1, x2, x3, x4] (.inl a :: st) M ↔ uX7_termOfAllSides R 17 [x0, x1, x2, zkeep x3, some (.inl a)] st M := Iff.trans (zU_step dX7_termOfAllSides_15 (Or.inl rfl)) ⟨fun h => h.2, fun h => ⟨show 4 < 5 by decide, h⟩⟩
theorem dX7_termOfAllSides_17 : decode cX7_termOfAllSides 17 = .ok (.iload 4, 2) := by decide +kernel
theorem rX7_termOfAllSides_17 {R : zP} {x0 x1 x2 x3 : Option zV} {st : List zV} {M : zM} {a : Int} : uX7_termOfAllSides R 17 [x0, x1, x2, x3, some (.inl a)] st M ↔ uX7_termOfAllSides R 19 [x0, x1, x2, x3, some (.inl a)] (.inl a :: st) M := zU_step dX7_termOfAllSides_17 (Or.inl rfl)
theorem dX7_termOfAllSides_19 : decode cX7_termOfAllSides 19 = .ok (.iload_n 2, 1) := by decide +kernel
theorem rX7_termOfAllSides_19 {R : zP} {x0 x1 x3 x4 : Option zV} {st : List zV} {M : zM} {a : Int} : uX7_termOfAllSides R 19 [x0, x1, some (.inl a), x3, x4] st M ↔ uX7_termOfAllSides R 20 [x0, x1, some (.inl a), x3, x4] (.inl a :: st) M := zU_step dX7_termOfAllSides_19 (Or.inl rfl)
theorem dX7_termOfAllSides_20 : decode cX7_termOfAllSides 20 = .ok (.if_icmp .ge 39, 3) := by decide +kernel
theorem rX7_termOfAllSides_20 {R : zP} {x0 x1 x2 x3 x4 : Option zV} {st : List zV} {M : zM} {a b : Int} : uX7_termOfAllSides R 20 [x0, x1, x2, x3, x4] (.inl b :: .inl a :: st) M ↔ ((zIR a ∧ zIR b) ∧ if b ≤ a then uX7_termOfAllSides R 59 [x0, x1, x2, x3, x4] st M else uX7_termOfAllSides R 23 [x0, x1, x2, x3, x4] st M) := Iff.trans (zU_step dX7_termOfAllSides_20 (Or.inl rfl)) ⟨fun h => ⟨⟨h.1.1, h.1.2.1⟩, (zite (c := b ≤ a)).mpr h.2⟩, fun h => ⟨⟨h.1.1, h.1.2, by decide⟩, (zite (c := b ≤ a)).mp h.2⟩⟩
theorem dX7_termOfAllSides_23 : decode cX7_termOfAllSides 23 = .ok (.aload_n 0, 1) := by decide +kernel
theorem rX7_termOfAllSides_23 {R : zP} {x1 x2 x3 x4 : Option zV} {st : List zV} {M : zM} {a : Nat} : uX7_termOfAllSides R 23 [some (.inr (.inr a)), x1, x2, x3, x4] st M ↔ uX7_termOfAllSides R 24 [some (.inr (.inr a)), x1, x2, x3, x4] (.inr (.inr a) :: st) M := zU_step dX7_termOfAllSides_23 (Or.inl rfl)
theorem dX7_termOfAllSides_24 : decode cX7_termOfAllSides 24 = .ok (.aload_n 0, 1) := by decide +kernel
theorem rX7_termOfAllSides_24 {R : zP} {x1 x2 x3 x4 : Option zV} {st : List zV} {M : zM} {a : Nat} : uX7_termOfAllSides R 24 [some (.inr (.inr a)), x1, x2, x3, x4] st M ↔ uX7_termOfAllSides R 25 [some (.inr (.inr a)), x1, x2, x3, x4] (.inr (.inr a) :: st) M := zU_step dX7_termOfAllSides_24 (Or.inl rfl)
theorem dX7_termOfAllSides_25 : decode cX7_termOfAllSides 25 = .ok (.getfield 28, 3) := by decide +kernel
theorem rX7_termOfAllSides_25 {R : zP} {x0 x1 x2 x3 x4 : Option zV} {st : List zV} {M : zM} {r : Nat} : uX7_termOfAllSides R 25 [x0, x1, x2, x3, x4] (.inr (.inr r) :: st) M ↔ zgetx fX7 28 r M (fun v => uX7_termOfAllSides R 28 [x0, x1, x2, x3, x4] (v :: st) M) := zU_step dX7_termOfAllSides_25 (Or.inl rfl)
theorem dX7_termOfAllSides_28 : decode cX7_termOfAllSides 28 = .ok (.iload_n 1, 1) := by decide +kernel
theorem rX7_termOfAllSides_28 {R : zP} {x0 x2 x3 x4 : Option zV} {st : List zV} {M : zM} {a : Int} : uX7_termOfAllSides R 28 [x0, some (.inl a), x2, x3, x4] st M ↔ uX7_termOfAllSides R 29 [x0, some (.inl a), x2, x3, x4] (.inl a :: st) M := zU_step dX7_termOfAllSides_28 (Or.inl rfl)
theorem dX7_termOfAllSides_29 : decode cX7_termOfAllSides 29 = .ok (.iload_n 3, 1) := by decide +kernel
theorem rX7_termOfAllSides_29 {R : zP} {x0 x1 x2 x4 : Option zV} {st : List zV} {M : zM} {a : Int} : uX7_termOfAllSides R 29 [x0, x1, x2, some (.inl a), x4] st M ↔ uX7_termOfAllSides R 30 [x0, x1, x2, some (.inl a), x4] (.inl a :: st) M := zU_step dX7_termOfAllSides_29 (Or.inl rfl)
theorem dX7_termOfAllSides_30 : decode cX7_termOfAllSides 30 = .ok (.iload 4, 2) := by decide +kernel
theorem rX7_termOfAllSides_30 {R : zP} {x0 x1 x2 x3 : Option zV} {st : List zV} {M : zM} {a : Int} : uX7_termOfAllSides R 30 [x0, x1, x2, x3, some (.inl a)] st M ↔ uX7_termOfAllSides R 32 [x0, x1, x2, x3, some (.inl a)] (.inl a :: st) M := zU_step dX7_termOfAllSides_30 (Or.inl rfl)
theorem dX7_termOfAllSides_32 : decode cX7_termOfAllSides 32 = .ok (.sipush 255, 3) := by decide +kernel
theorem rX7_termOfAllSides_32 {R : zP} {x0 x1 x2 x3 x4 : Option zV} {st : List zV} {M : zM} : uX7_termOfAllSides R 32 [x0, x1, x2, x3, x4] st M ↔ uX7_termOfAllSides R 35 [x0, x1, x2, x3, x4] (.inl (255) :: st) M := Iff.trans (zU_step dX7_termOfAllSides_32 (Or.inl rfl)) ⟨fun h => h.2, fun h => ⟨by decide, h⟩⟩
theorem dX7_termOfAllSides_35 : decode cX7_termOfAllSides 35 = .ok (.invokevirtual 368, 3) := by decide +kernel
theorem rX7_termOfAllSides_35 {R : zP} {x0 x1 x2 x3 x4 : Option zV} {st : List zV} {M : zM} {a0 a1 a2 a3 a4 a5 : zV} : uX7_termOfAllSides R 35 [x0, x1, x2, x3, x4] (a5 :: a4 :: a3 :: a2 :: a1 :: a0 :: st) M ↔ (st.length ≤ 4 ∧ zcv (zv 7 tX7_bringUp) [a0, a1, a2, a3, a4, a5] M (fun v M => uX7_termOfAllSides R 38 [x0, x1, x2, x3, x4] (v :: st) M)) := Iff.trans (zU_step dX7_termOfAllSides_35 (Or.inl rfl)) ⟨fun h => ⟨h.2.1, zcv_of h.2.2⟩, fun h => ⟨rfl, h.1, zcv_to h.2⟩⟩
theorem dX7_termOfAllSides_38 : decode cX7_termOfAllSides 38 = .ok (.istore_n 3, 1) := by decide +kernel
theorem rX7_termOfAllSides_38 {R : zP} {x0 x1 x3 x4 : Option zV} {st : List zV} {M : zM} {a : Int} {y : Int} : uX7_termOfAllSides R 38 [x0, x1, some (.inl y), x3, x4] (.inl a :: st) M ↔ uX7_termOfAllSides R 39 [x0, x1, some (.inl y), some (.inl a), x4] st M := Iff.trans (zU_step dX7_termOfAllSides_38 (Or.inl rfl)) ⟨fun h => h.2, fun h => ⟨show 3 < 5 by decide, h⟩⟩
theorem rX7_termOfAllSides_38z {R : zP} {x0 x1 x2 x3 x4 : Option zV} {st : List zV} {M : zM} {a : Int} : uX7_termOfAllSides R 38 [x0, x1, x2, x3, x4] (.inl a :: st) M ↔ uX7_termOfAllSides R 39 [x0, x1, zkeep x2, some (.inl a), x4] st M := Iff.trans (zU_step dX7_termOfAllSides_38 (Or.inl rfl)) ⟨fun h => h.2, fun h => ⟨show 3 < 5 by decide, h⟩⟩
theorem dX7_termOfAllSides_39 : decode cX7_termOfAllSides 39 = .ok (.aload_n 0, 1) := by decide +kernel
theorem rX7_termOfAllSides_39 {R : zP} {x1 x2 x3 x4 : Option zV} {st : List zV} {M : zM} {a : Nat} : uX7_termOfAllSides R 39 [some (.inr (.inr a)), x1, x2, x3, x4] st M ↔ uX7_termOfAllSides R 40 [some (.inr (.inr a)), x1, x2, x3, x4] (.inr (.inr a) :: st) M := zU_step dX7_termOfAllSides_39 (Or.inl rfl)
theorem dX7_termOfAllSides_40 : decode cX7_termOfAllSides 40 = .ok (.getfield 55, 3) := by decide +kernel
theorem rX7_termOfAllSides_40 {R : zP} {x0 x1 x2 x3 x4 : Option zV} {st : List zV} {M : zM} {r : Nat} : uX7_termOfAllSides R 40 [x0, x1, x2, x3, x4] (.inr (.inr r) :: st) M ↔ zgetx fX7 55 r M (fun v => uX7_termOfAllSides R 43 [x0, x1, x2, x3, x4] (v :: st) M) := zU_step dX7_termOfAllSides_40 (Or.inl rfl)
theorem dX7_termOfAllSides_43 : decode cX7_termOfAllSides 43 = .ok (.invokevirtual 188, 3) := by decide +kernel
theorem rX7_termOfAllSides_43 {R : zP} {x0 x1 x2 x3 x4 : Option zV} {st : List zV} {M : zM} {a0 : zV} : uX7_termOfAllSides R 43 [x0, x1, x2, x3, x4] (a0 :: st) M ↔ (st.length ≤ 4 ∧ zcv (zv 3 tX3_questionOfAllSides) [a0] M (fun v M => uX7_termOfAllSides R 46 [x0, x1, x2, x3, x4] (v :: st) M)) := Iff.trans (zU_step dX7_termOfAllSides_43 (Or.inl rfl)) ⟨fun h => ⟨h.2.1, zcv_of h.2.2⟩, fun h => ⟨rfl, h.1, zcv_to h.2⟩⟩
theorem dX7_termOfAllSides_46 : decode cX7_termOfAllSides 46 = .ok (.iconst (-1), 1) := by decide +kernel
theorem rX7_termOfAllSides_46 {R : zP} {x0 x1 x2 x3 x4 : Option zV} {st : List zV} {M : zM} : uX7_termOfAllSides R 46 [x0, x1, x2, x3, x4] st M ↔ uX7_termOfAllSides R 47 [x0, x1, x2, x3, x4] (.inl (-1) :: st) M := zU_step dX7_termOfAllSides_46 (Or.inl rfl)
theorem dX7_termOfAllSides_47 : decode cX7_termOfAllSides 47 = .ok (.if_icmp .eq 6, 3) := by decide +kernel
theorem rX7_termOfAllSides_47 {R : zP} {x0 x1 x2 x3 x4 : Option zV} {st : List zV} {M : zM} {a b : Int} : uX7_termOfAllSides R 47 [x0, x1, x2, x3, x4] (.inl b :: .inl a :: st) M ↔ ((zIR a ∧ zIR b) ∧ if a = b then uX7_termOfAllSides R 53 [x0, x1, x2, x3, x4] st M else uX7_termOfAllSides R 50 [x0, x1, x2, x3, x4] st M) := Iff.trans (zU_step dX7_termOfAllSides_47 (Or.inl rfl)) ⟨fun h => ⟨⟨h.1.1, h.1.2.1⟩, (zite (c := a = b)).mpr h.2⟩, fun h => ⟨⟨h.1.1, h.1.2, by decide⟩, (zite (c := a = b)).mp h.2⟩⟩
theorem dX7_termOfAllSides_50 : decode cX7_termOfAllSides 50 = .ok (.iload 4, 2) := by decide +kernel
theorem rX7_termOfAllSides_50 {R : zP} {x0 x1 x2 x3 : Option zV} {st : List zV} {M : zM} {a : Int} : uX7_termOfAllSides R 50 [x0, x1, x2, x3, some (.inl a)] st M ↔ uX7_termOfAllSides R 52 [x0, x1, x2, x3, some (.inl a)] (.inl a :: st) M := zU_step dX7_termOfAllSides_50 (Or.inl rfl)
theorem dX7_termOfAllSides_52 : decode cX7_termOfAllSides 52 = .ok (.ireturn, 1) := by decide +kernel
theorem rX7_termOfAllSides_52 {R : zP} {x0 x1 x2 x3 x4 : Option zV} {M : zM} {a : Int} : uX7_termOfAllSides R 52 [x0, x1, x2, x3, x4] [.inl a] M ↔ R (some (.inl a)) M := Iff.trans (zU_step dX7_termOfAllSides_52 (Or.inl rfl)) ⟨fun h => h.2.2, fun h => ⟨rfl, Or.inl rfl, h⟩⟩
theorem dX7_termOfAllSides_53 : decode cX7_termOfAllSides 53 = .ok (.iinc 4 1, 3) := by decide +kernel
theorem rX7_termOfAllSides_53 {R : zP} {x0 x1 x2 : Option zV} {st : List zV} {M : zM} {a : Int} {y : Int} : uX7_termOfAllSides R 53 [x0, x1, x2, some (.inl y), some (.inl a)] st M ↔ uX7_termOfAllSides R 56 [x0, x1, x2, some (.inl y), some (.inl (a + (1)))] st M := Iff.trans (zU_step dX7_termOfAllSides_53 (Or.inl rfl)) ⟨fun h => h.2, fun h => ⟨show 4 < 5 by decide, h⟩⟩
theorem rX7_termOfAllSides_53z {R : zP} {x0 x1 x2 x3 : Option zV} {st : List zV} {M : zM} {a : Int} : uX7_termOfAllSides R 53 [x0, x1, x2, x3, some (.inl a)] st M ↔ uX7_termOfAllSides R 56 [x0, x1, x2, zkeep x3, some (.inl (a + (1)))] st M := Iff.trans (zU_step dX7_termOfAllSides_53 (Or.inl rfl)) ⟨fun h => h.2, fun h => ⟨show 4 < 5 by decide, h⟩⟩
theorem dX7_termOfAllSides_56 : decode cX7_termOfAllSides 56 = .ok (.goto (-39), 3) := by decide +kernel
theorem rX7_termOfAllSides_56 {R : zP} {x0 x1 x2 x3 x4 : Option zV} {st : List zV} {M : zM} : uX7_termOfAllSides R 56 [x0, x1, x2, x3, x4] st M ↔ uX7_termOfAllSides R 17 [x0, x1, x2, x3, x4] st M := Iff.trans (zU_step dX7_termOfAllSides_56 (Or.inl rfl)) ⟨fun h => h.2, fun h => ⟨by decide, h⟩⟩
theorem dX7_termOfAllSides_59 : decode cX7_termOfAllSides 59 = .ok (.iload_n 2, 1) := by decide +kernel
theorem rX7_termOfAllSides_59 {R : zP} {x0 x1 x3 x4 : Option zV} {st : List zV} {M : zM} {a : Int} : uX7_termOfAllSides R 59 [x0, x1, some (.inl a), x3, x4] st M ↔ uX7_termOfAllSides R 60 [x0, x1, some (.inl a), x3, x4] (.inl a :: st) M := zU_step dX7_termOfAllSides_59 (Or.inl rfl)
theorem dX7_termOfAllSides_60 : decode cX7_termOfAllSides 60 = .ok (.ireturn, 1) := by decide +kernel
theorem rX7_termOfAllSides_60 {R : zP} {x0 x1 x2 x3 x4 : Option zV} {M : zM} {a : Int} : uX7_termOfAllSides R 60 [x0, x1, x2, x3, x4] [.inl a] M ↔ R (some (.inl a)) M := Iff.trans (zU_step dX7_termOfAllSides_60 (Or.inl rfl)) ⟨fun h => h.2.2, fun h => ⟨rfl, Or.inl rfl, h⟩⟩
theorem eX7_termOfAllSides {R : zP} {M : zM} {a0 : Nat} {p0 : Int} {p1 : Int} : tX7_termOfAllSides [.inr (.inr a0), .inl p0, .inl p1] M R ↔ uX7_termOfAllSides R 0 [some (.inr (.inr a0)), some (.inl p0), some (.inl p1), none, none] [] M := ⟨fun h => h.2, fun h => ⟨show 3 ≤ 5 by decide, h⟩⟩
def uX7_pusey (R : zP) : zK := zU fX7 vX7_pusey cX7_pusey R
theorem dX7_pusey_0 : decode cX7_pusey 0 = .ok (.iload_n 1, 1) := by decide +kernel
theorem rX7_pusey_0 {R : zP} {x0 x2 x3 x4 x5 : Option zV} {st : List zV} {M : zM} {a : Int} : uX7_pusey R 0 [x0, some (.inl a), x2, x3, x4, x5] st M ↔ uX7_pusey R 1 [x0, some (.inl a), x2, x3, x4, x5] (.inl a :: st) M := zU_step dX7_pusey_0 (Or.inl rfl)
theorem dX7_pusey_1 : decode cX7_pusey 1 = .ok (.iconst 3, 1) := by decide +kernel
theorem rX7_pusey_1 {R : zP} {x0 x1 x2 x3 x4 x5 : Option zV} {st : List zV} {M : zM} : uX7_pusey R 1 [x0, x1, x2, x3, x4, x5] st M ↔ uX7_pusey R 2 [x0, x1, x2, x3, x4, x5] (.inl (3) :: st) M := zU_step dX7_pusey_1 (Or.inl rfl)
theorem dX7_pusey_2 : decode cX7_pusey 2 = .ok (.invokestatic 94, 3) := by decide +kernel
theorem rX7_pusey_2 {R : zP} {x0 x1 x2 x3 x4 x5 : Option zV} {st : List zV} {M : zM} {a0 a1 : zV} : uX7_pusey R 2 [x0, x1, x2, x3, x4, x5] (a1 :: a0 :: st) M ↔ (st.length ≤ 4 ∧ zcv tX7_outside [a0, a1] M (fun v M => uX7_pusey R 5 [x0, x1, x2, x3, x4, x5] (v :: st) M)) := Iff.trans (zU_step dX7_pusey_2 (Or.inl rfl)) ⟨fun h => ⟨h.2.1, zcv_of h.2.2⟩, fun h => ⟨rfl, h.1, zcv_to h.2⟩⟩
theorem dX7_pusey_5 : decode cX7_pusey 5 = .ok (.ifCond .eq 6, 3) := by decide +kernel
theorem rX7_pusey_5 {R : zP} {x0 x1 x2 x3 x4 x5 : Option zV} {st : List zV} {M : zM} {a : Int} : uX7_pusey R 5 [x0, x1, x2, x3, x4, x5] (.inl a :: st) M ↔ (zIR a ∧ if a = 0 then uX7_pusey R 11 [x0, x1, x2, x3, x4, x5] st M else uX7_pusey R 8 [x0, x1, x2, x3, x4, x5] st M) := Iff.trans (zU_step dX7_pusey_5 (Or.inl rfl)) ⟨fun h => ⟨h.1.1, (zite (c := a = 0)).mpr h.2⟩, fun h => ⟨⟨h.1, by decide⟩, (zite (c := a = 0)).mp h.2⟩⟩
theorem dX7_pusey_8 : decode cX7_pusey 8 = .ok (.bipush (-2), 2) := by decide +kernel
theorem rX7_pusey_8 {R : zP} {x0 x1 x2 x3 x4 x5 : Option zV} {st : List zV} {M : zM} : uX7_pusey R 8 [x0, x1, x2, x3, x4, x5] st M ↔ uX7_pusey R 10 [x0, x1, x2, x3, x4, x5] (.inl (-2) :: st) M := Iff.trans (zU_step dX7_pusey_8 (Or.inl rfl)) ⟨fun h => h.2, fun h => ⟨by decide, h⟩⟩
theorem dX7_pusey_10 : decode cX7_pusey 10 = .ok (.ireturn, 1) := by decide +kernel
theorem rX7_pusey_10 {R : zP} {x0 x1 x2 x3 x4 x5 : Option zV} {M : zM} {a : Int} : uX7_pusey R 10 [x0, x1, x2, x3, x4, x5] [.inl a] M ↔ R (some (.inl a)) M := Iff.trans (zU_step dX7_pusey_10 (Or.inl rfl)) ⟨fun h => h.2.2, fun h => ⟨rfl, Or.inl rfl, h⟩⟩
theorem dX7_pusey_11 : decode cX7_pusey 11 = .ok (.bipush 20, 2) := by decide +kernel
theorem rX7_pusey_11 {R : zP} {x0 x1 x2 x3 x4 x5 : Option zV} {st : List zV} {M : zM} : uX7_pusey R 11 [x0, x1, x2, x3, x4, x5] st M ↔ uX7_pusey R 13 [x0, x1, x2, x3, x4, x5] (.inl (20) :: st) M := Iff.trans (zU_step dX7_pusey_11 (Or.inl rfl)) ⟨fun h => h.2, fun h => ⟨by decide, h⟩⟩
theorem dX7_pusey_13 : decode cX7_pusey 13 = .ok (.istore_n 2, 1) := by decide +kernel
theorem rX7_pusey_13 {R : zP} {x0 x2 x3 x4 x5 : Option zV} {st : List zV} {M : zM} {a : Int} {y : Int} : uX7_pusey R 13 [x0, some (.inl y), x2, x3, x4, x5] (.inl a :: st) M ↔ uX7_pusey R 14 [x0, some (.inl y), some (.inl a), x3, x4, x5] st M := Iff.trans (zU_step dX7_pusey_13 (Or.inl rfl)) ⟨fun h => h.2, fun h => ⟨show 2 < 6 by decide, h⟩⟩
theorem rX7_pusey_13z {R : zP} {x0 x1 x2 x3 x4 x5 : Option zV} {st : List zV} {M : zM} {a : Int} : uX7_pusey R 13 [x0, x1, x2, x3, x4, x5] (.inl a :: st) M ↔ uX7_pusey R 14 [x0, zkeep x1, some (.inl a), x3, x4, x5] st M := Iff.trans (zU_step dX7_pusey_13 (Or.inl rfl)) ⟨fun h => h.2, fun h => ⟨show 2 < 6 by decide, h⟩⟩
theorem dX7_pusey_14 : decode cX7_pusey 14 = .ok (.iconst (-1), 1) := by decide +kernel
theorem rX7_pusey_14 {R : zP} {x0 x1 x2 x3 x4 x5 : Option zV} {st : List zV} {M : zM} : uX7_pusey R 14 [x0, x1, x2, x3, x4, x5] st M ↔ uX7_pusey R 15 [x0, x1, x2, x3, x4, x5] (.inl (-1) :: st) M := zU_step dX7_pusey_14 (Or.inl rfl)
theorem dX7_pusey_15 : decode cX7_pusey 15 = .ok (.istore_n 3, 1) := by decide +kernel
theorem rX7_pusey_15 {R : zP} {x0 x1 x3 x4 x5 : Option zV} {st : List zV} {M : zM} {a : Int} {y : Int} : uX7_pusey R 15 [x0, x1, some (.inl y), x3, x4, x5] (.inl a :: st) M ↔ uX7_pusey R 16 [x0, x1, some (.inl y), some (.inl a), x4, x5] st M := Iff.trans (zU_step dX7_pusey_15 (Or.inl rfl)) ⟨fun h => h.2, fun h => ⟨show 3 < 6 by decide, h⟩⟩
theorem rX7_pusey_15z {R : zP} {x0 x1 x2 x3 x4 x5 : Option zV} {st : List zV} {M : zM} {a : Int} : uX7_pusey R 15 [x0, x1, x2, x3, x4, x5] (.inl a :: st) M ↔ uX7_pusey R 16 [x0, x1, zkeep x2, some (.inl a), x4, x5] st M := Iff.trans (zU_step dX7_pusey_15 (Or.inl rfl)) ⟨fun h => h.2, fun h => ⟨show 3 < 6 by decide, h⟩⟩
theorem dX7_pusey_16 : decode cX7_pusey 16 = .ok (.iconst 0, 1) := by decide +kernel
theorem rX7_pusey_16 {R : zP} {x0 x1 x2 x3 x4 x5 : Option zV} {st : List zV} {M : zM} : uX7_pusey R 16 [x0, x1, x2, x3, x4, x5] st M ↔ uX7_pusey R 17 [x0, x1, x2, x3, x4, x5] (.inl (0) :: st) M := zU_step dX7_pusey_16 (Or.inl rfl)
theorem dX7_pusey_17 : decode cX7_pusey 17 = .ok (.istore 4, 2) := by decide +kernel
theorem rX7_pusey_17 {R : zP} {x0 x1 x2 x4 x5 : Option zV} {st : List zV} {M : zM} {a : Int} {y : Int} : uX7_pusey R 17 [x0, x1, x2, some (.inl y), x4, x5] (.inl a :: st) M ↔ uX7_pusey R 19 [x0, x1, x2, some (.inl y), some (.inl a), x5] st M := Iff.trans (zU_step dX7_pusey_17 (Or.inl rfl)) ⟨fun h => h.2, fun h => ⟨show 4 < 6 by decide, h⟩⟩
theorem rX7_pusey_17z {R : zP} {x0 x1 x2 x3 x4 x5 : Option zV} {st : List zV} {M : zM} {a : Int} : uX7_pusey R 17 [x0, x1, x2, x3, x4, x5] (.inl a :: st) M ↔ uX7_pusey R 19 [x0, x1, x2, zkeep x3, some (.inl a), x5] st M := Iff.trans (zU_step dX7_pusey_17 (Or.inl rfl)) ⟨fun h => h.2, fun h => ⟨show 4 < 6 by decide, h⟩⟩
theorem dX7_pusey_19 : decode cX7_pusey 19 = .ok (.iload 4, 2) := by decide +kernel
theorem rX7_pusey_19 {R : zP} {x0 x1 x2 x3 x5 : Option zV} {st : List zV} {M : zM} {a : Int} : uX7_pusey R 19 [x0, x1, x2, x3, some (.inl a), x5] st M ↔ uX7_pusey R 21 [x0, x1, x2, x3, some (.inl a), x5] (.inl a :: st) M := zU_step dX7_pusey_19 (Or.inl rfl)
theorem dX7_pusey_21 : decode cX7_pusey 21 = .ok (.aload_n 0, 1) := by decide +kernel
theorem rX7_pusey_21 {R : zP} {x1 x2 x3 x4 x5 : Option zV} {st : List zV} {M : zM} {a : Nat} : uX7_pusey R 21 [some (.inr (.inr a)), x1, x2, x3, x4, x5] st M ↔ uX7_pusey R 22 [some (.inr (.inr a)), x1, x2, x3, x4, x5] (.inr (.inr a) :: st) M := zU_step dX7_pusey_21 (Or.inl rfl)
theorem dX7_pusey_22 : decode cX7_pusey 22 = .ok (.getfield 14, 3) := by decide +kernel
theorem rX7_pusey_22 {R : zP} {x0 x1 x2 x3 x4 x5 : Option zV} {st : List zV} {M : zM} {r : Nat} : uX7_pusey R 22 [x0, x1, x2, x3, x4, x5] (.inr (.inr r) :: st) M ↔ zgetx fX7 14 r M (fun v => uX7_pusey R 25 [x0, x1, x2, x3, x4, x5] (v :: st) M) := zU_step dX7_pusey_22 (Or.inl rfl)
theorem dX7_pusey_25 : decode cX7_pusey 25 = .ok (.getfield 116, 3) := by decide +kernel
theorem rX7_pusey_25 {R : zP} {x0 x1 x2 x3 x4 x5 : Option zV} {st : List zV} {M : zM} {r : Nat} : uX7_pusey R 25 [x0, x1, x2, x3, x4, x5] (.inr (.inr r) :: st) M ↔ zgetx fX7 116 r M (fun v => uX7_pusey R 28 [x0, x1, x2, x3, x4, x5] (v :: st) M) := zU_step dX7_pusey_25 (Or.inl rfl)
theorem dX7_pusey_28 : decode cX7_pusey 28 = .ok (.if_icmp .ge 30, 3) := by decide +kernel
theorem rX7_pusey_28 {R : zP} {x0 x1 x2 x3 x4 x5 : Option zV} {st : List zV} {M : zM} {a b : Int} : uX7_pusey R 28 [x0, x1, x2, x3, x4, x5] (.inl b :: .inl a :: st) M ↔ ((zIR a ∧ zIR b) ∧ if b ≤ a then uX7_pusey R 58 [x0, x1, x2, x3, x4, x5] st M else uX7_pusey R 31 [x0, x1, x2, x3, x4, x5] st M) := Iff.trans (zU_step dX7_pusey_28 (Or.inl rfl)) ⟨fun h => ⟨⟨h.1.1, h.1.2.1⟩, (zite (c := b ≤ a)).mpr h.2⟩, fun h => ⟨⟨h.1.1, h.1.2, by decide⟩, (zite (c := b ≤ a)).mp h.2⟩⟩
theorem dX7_pusey_31 : decode cX7_pusey 31 = .ok (.aload_n 0, 1) := by decide +kernel
theorem rX7_pusey_31 {R : zP} {x1 x2 x3 x4 x5 : Option zV} {st : List zV} {M : zM} {a : Nat} : uX7_pusey R 31 [some (.inr (.inr a)), x1, x2, x3, x4, x5] st M ↔ uX7_pusey R 32 [some (.inr (.inr a)), x1, x2, x3, x4, x5] (.inr (.inr a) :: st) M := zU_step dX7_pusey_31 (Or.inl rfl)
theorem dX7_pusey_32 : decode cX7_pusey 32 = .ok (.iload 4, 2) := by decide +kernel
theorem rX7_pusey_32 {R : zP} {x0 x1 x2 x3 x5 : Option zV} {st : List zV} {M : zM} {a : Int} : uX7_pusey R 32 [x0, x1, x2, x3, some (.inl a), x5] st M ↔ uX7_pusey R 34 [x0, x1, x2, x3, some (.inl a), x5] (.inl a :: st) M := zU_step dX7_pusey_32 (Or.inl rfl)
theorem dX7_pusey_34 : decode cX7_pusey 34 = .ok (.iload_n 2, 1) := by decide +kernel
theorem rX7_pusey_34 {R : zP} {x0 x1 x3 x4 x5 : Option zV} {st : List zV} {M : zM} {a : Int} : uX7_pusey R 34 [x0, x1, some (.inl a), x3, x4, x5] st M ↔ uX7_pusey R 35 [x0, x1, some (.inl a), x3, x4, x5] (.inl a :: st) M := zU_step dX7_pusey_34 (Or.inl rfl)
theorem dX7_pusey_35 : decode cX7_pusey 35 = .ok (.invokevirtual 185, 3) := by decide +kernel
theorem rX7_pusey_35 {R : zP} {x0 x1 x2 x3 x4 x5 : Option zV} {st : List zV} {M : zM} {a0 a1 a2 : zV} : uX7_pusey R 35 [x0, x1, x2, x3, x4, x5] (a2 :: a1 :: a0 :: st) M ↔ (st.length ≤ 4 ∧ zcv (zv 7 tX7_termOfAllSides) [a0, a1, a2] M (fun v M => uX7_pusey R 38 [x0, x1, x2, x3, x4, x5] (v :: st) M)) := Iff.trans (zU_step dX7_pusey_35 (Or.inl rfl)) ⟨fun h => ⟨h.2.1, zcv_of h.2.2⟩, fun h => ⟨rfl, h.1, zcv_to h.2⟩⟩
theorem dX7_pusey_38 : decode cX7_pusey 38 = .ok (.istore 5, 2) := by decide +kernel
theorem rX7_pusey_38 {R : zP} {x0 x1 x2 x3 x5 : Option zV} {st : List zV} {M : zM} {a : Int} {y : Int} : uX7_pusey R 38 [x0, x1, x2, x3, some (.inl y), x5] (.inl a :: st) M ↔ uX7_pusey R 40 [x0, x1, x2, x3, some (.inl y), some (.inl a)] st M := Iff.trans (zU_step dX7_pusey_38 (Or.inl rfl)) ⟨fun h => h.2, fun h => ⟨show 5 < 6 by decide, h⟩⟩
theorem rX7_pusey_38z {R : zP} {x0 x1 x2 x3 x4 x5 : Option zV} {st : List zV} {M : zM} {a : Int} : uX7_pusey R 38 [x0, x1, x2, x3, x4, x5] (.inl a :: st) M ↔ uX7_pusey R 40 [x0, x1, x2, x3, zkeep x4, some (.inl a)] st M := Iff.trans (zU_step dX7_pusey_38 (Or.inl rfl)) ⟨fun h => h.2, fun h => ⟨show 5 < 6 by decide, h⟩⟩
theorem dX7_pusey_40 : decode cX7_pusey 40 = .ok (.iload 5, 2) := by decide +kernel
theorem rX7_pusey_40 {R : zP} {x0 x1 x2 x3 x4 : Option zV} {st : List zV} {M : zM} {a : Int} : uX7_pusey R 40 [x0, x1, x2, x3, x4, some (.inl a)] st M ↔ uX7_pusey R 42 [x0, x1, x2, x3, x4, some (.inl a)] (.inl a :: st) M := zU_step dX7_pusey_40 (Or.inl rfl)
theorem dX7_pusey_42 : decode cX7_pusey 42 = .ok (.iload_n 2, 1) := by decide +kernel
theorem rX7_pusey_42 {R : zP} {x0 x1 x3 x4 x5 : Option zV} {st : List zV} {M : zM} {a : Int} : uX7_pusey R 42 [x0, x1, some (.inl a), x3, x4, x5] st M ↔ uX7_pusey R 43 [x0, x1, some (.inl a), x3, x4, x5] (.inl a :: st) M := zU_step dX7_pusey_42 (Or.inl rfl)
theorem dX7_pusey_43 : decode cX7_pusey 43 = .ok (.if_icmp .ge 9, 3) := by decide +kernel
theorem rX7_pusey_43 {R : zP} {x0 x1 x2 x3 x4 x5 : Option zV} {st : List zV} {M : zM} {a b : Int} : uX7_pusey R 43 [x0, x1, x2, x3, x4, x5] (.inl b :: .inl a :: st) M ↔ ((zIR a ∧ zIR b) ∧ if b ≤ a then uX7_pusey R 52 [x0, x1, x2, x3, x4, x5] st M else uX7_pusey R 46 [x0, x1, x2, x3, x4, x5] st M) := Iff.trans (zU_step dX7_pusey_43 (Or.inl rfl)) ⟨fun h => ⟨⟨h.1.1, h.1.2.1⟩, (zite (c := b ≤ a)).mpr h.2⟩, fun h => ⟨⟨h.1.1, h.1.2, by decide⟩, (zite (c := b ≤ a)).mp h.2⟩⟩
theorem dX7_pusey_46 : decode cX7_pusey 46 = .ok (.iload 5, 2) := by decide +kernel
theorem rX7_pusey_46 {R : zP} {x0 x1 x2 x3 x4 : Option zV} {st : List zV} {M : zM} {a : Int} : uX7_pusey R 46 [x0, x1, x2, x3, x4, some (.inl a)] st M ↔ uX7_pusey R 48 [x0, x1, x2, x3, x4, some (.inl a)] (.inl a :: st) M := zU_step dX7_pusey_46 (Or.inl rfl)
theorem dX7_pusey_48 : decode cX7_pusey 48 = .ok (.istore_n 2, 1) := by decide +kernel
theorem rX7_pusey_48 {R : zP} {x0 x2 x3 x4 x5 : Option zV} {st : List zV} {M : zM} {a : Int} {y : Int} : uX7_pusey R 48 [x0, some (.inl y), x2, x3, x4, x5] (.inl a :: st) M ↔ uX7_pusey R 49 [x0, some (.inl y), some (.inl a), x3, x4, x5] st M := Iff.trans (zU_step dX7_pusey_48 (Or.inl rfl)) ⟨fun h => h.2, fun h => ⟨show 2 < 6 by decide, h⟩⟩
theorem rX7_pusey_48z {R : zP} {x0 x1 x2 x3 x4 x5 : Option zV} {st : List zV} {M : zM} {a : Int} : uX7_pusey R 48 [x0, x1, x2, x3, x4, x5] (.inl a :: st) M ↔ uX7_pusey R 49 [x0, zkeep x1, some (.inl a), x3, x4, x5] st M := Iff.trans (zU_step dX7_pusey_48 (Or.inl rfl)) ⟨fun h => h.2, fun h => ⟨show 2 < 6 by decide, h⟩⟩
theorem dX7_pusey_49 : decode cX7_pusey 49 = .ok (.iload 4, 2) := by decide +kernel
theorem rX7_pusey_49 {R : zP} {x0 x1 x2 x3 x5 : Option zV} {st : List zV} {M : zM} {a : Int} : uX7_pusey R 49 [x0, x1, x2, x3, some (.inl a), x5] st M ↔ uX7_pusey R 51 [x0, x1, x2, x3, some (.inl a), x5] (.inl a :: st) M := zU_step dX7_pusey_49 (Or.inl rfl)
theorem dX7_pusey_51 : decode cX7_pusey 51 = .ok (.istore_n 3, 1) := by decide +kernel
theorem rX7_pusey_51 {R : zP} {x0 x1 x3 x4 x5 : Option zV} {st : List zV} {M : zM} {a : Int} {y : Int} : uX7_pusey R 51 [x0, x1, some (.inl y), x3, x4, x5] (.inl a :: st) M ↔ uX7_pusey R 52 [x0, x1, some (.inl y), some (.inl a), x4, x5] st M := Iff.trans (zU_step dX7_pusey_51 (Or.inl rfl)) ⟨fun h => h.2, fun h => ⟨show 3 < 6 by decide, h⟩⟩
theorem rX7_pusey_51z {R : zP} {x0 x1 x2 x3 x4 x5 : Option zV} {st : List zV} {M : zM} {a : Int} : uX7_pusey R 51 [x0, x1, x2, x3, x4, x5] (.inl a :: st) M ↔ uX7_pusey R 52 [x0, x1, zkeep x2, some (.inl a), x4, x5] st M := Iff.trans (zU_step dX7_pusey_51 (Or.inl rfl)) ⟨fun h => h.2, fun h => ⟨show 3 < 6 by decide, h⟩⟩
theorem dX7_pusey_52 : decode cX7_pusey 52 = .ok (.iinc 4 1, 3) := by decide +kernel
theorem rX7_pusey_52 {R : zP} {x0 x1 x2 x5 : Option zV} {st : List zV} {M : zM} {a : Int} {y : Int} : uX7_pusey R 52 [x0, x1, x2, some (.inl y), some (.inl a), x5] st M ↔ uX7_pusey R 55 [x0, x1, x2, some (.inl y), some (.inl (a + (1))), x5] st M := Iff.trans (zU_step dX7_pusey_52 (Or.inl rfl)) ⟨fun h => h.2, fun h => ⟨show 4 < 6 by decide, h⟩⟩
theorem rX7_pusey_52z {R : zP} {x0 x1 x2 x3 x5 : Option zV} {st : List zV} {M : zM} {a : Int} : uX7_pusey R 52 [x0, x1, x2, x3, some (.inl a), x5] st M ↔ uX7_pusey R 55 [x0, x1, x2, zkeep x3, some (.inl (a + (1))), x5] st M := Iff.trans (zU_step dX7_pusey_52 (Or.inl rfl)) ⟨fun h => h.2, fun h => ⟨show 4 < 6 by decide, h⟩⟩
theorem dX7_pusey_55 : decode cX7_pusey 55 = .ok (.goto (-36), 3) := by decide +kernel
theorem rX7_pusey_55 {R : zP} {x0 x1 x2 x3 x4 x5 : Option zV} {st : List zV} {M : zM} : uX7_pusey R 55 [x0, x1, x2, x3, x4, x5] st M ↔ uX7_pusey R 19 [x0, x1, x2, x3, x4, x5] st M := Iff.trans (zU_step dX7_pusey_55 (Or.inl rfl)) ⟨fun h => h.2, fun h => ⟨by decide, h⟩⟩
theorem dX7_pusey_58 : decode cX7_pusey 58 = .ok (.iload_n 3, 1) := by decide +kernel
theorem rX7_pusey_58 {R : zP} {x0 x1 x2 x4 x5 : Option zV} {st : List zV} {M : zM} {a : Int} : uX7_pusey R 58 [x0, x1, x2, some (.inl a), x4, x5] st M ↔ uX7_pusey R 59 [x0, x1, x2, some (.inl a), x4, x5] (.inl a :: st) M := zU_step dX7_pusey_58 (Or.inl rfl)
theorem dX7_pusey_59 : decode cX7_pusey 59 = .ok (.iconst (-1), 1) := by decide +kernel
theorem rX7_pusey_59 {R : zP} {x0 x1 x2 x3 x4 x5 : Option zV} {st : List zV} {M : zM} : uX7_pusey R 59 [x0, x1, x2, x3, x4, x5] st M ↔ uX7_pusey R 60 [x0, x1, x2, x3, x4, x5] (.inl (-1) :: st) M := zU_step dX7_pusey_59 (Or.inl rfl)
theorem dX7_pusey_60 : decode cX7_pusey 60 = .ok (.if_icmp .eq 8, 3) := by decide +kernel
theorem rX7_pusey_60 {R : zP} {x0 x1 x2 x3 x4 x5 : Option zV} {st : List zV} {M : zM} {a b : Int} : uX7_pusey R 60 [x0, x1, x2, x3, x4, x5] (.inl b :: .inl a :: st) M ↔ ((zIR a ∧ zIR b) ∧ if a = b then uX7_pusey R 68 [x0, x1, x2, x3, x4, x5] st M else uX7_pusey R 63 [x0, x1, x2, x3, x4, x5] st M) := Iff.trans (zU_step dX7_pusey_60 (Or.inl rfl)) ⟨fun h => ⟨⟨h.1.1, h.1.2.1⟩, (zite (c := a = b)).mpr h.2⟩, fun h => ⟨⟨h.1.1, h.1.2, by decide⟩, (zite (c := a = b)).mp h.2⟩⟩
theorem dX7_pusey_63 : decode cX7_pusey 63 = .ok (.iload_n 1, 1) := by decide +kernel
theorem rX7_pusey_63 {R : zP} {x0 x2 x3 x4 x5 : Option zV} {st : List zV} {M : zM} {a : Int} : uX7_pusey R 63 [x0, some (.inl a), x2, x3, x4, x5] st M ↔ uX7_pusey R 64 [x0, some (.inl a), x2, x3, x4, x5] (.inl a :: st) M := zU_step dX7_pusey_63 (Or.inl rfl)
theorem dX7_pusey_64 : decode cX7_pusey 64 = .ok (.iconst 1, 1) := by decide +kernel
theorem rX7_pusey_64 {R : zP} {x0 x1 x2 x3 x4 x5 : Option zV} {st : List zV} {M : zM} : uX7_pusey R 64 [x0, x1, x2, x3, x4, x5] st M ↔ uX7_pusey R 65 [x0, x1, x2, x3, x4, x5] (.inl (1) :: st) M := zU_step dX7_pusey_64 (Or.inl rfl)
theorem dX7_pusey_65 : decode cX7_pusey 65 = .ok (.if_icmp .ne 5, 3) := by decide +kernel
theorem rX7_pusey_65 {R : zP} {x0 x1 x2 x3 x4 x5 : Option zV} {st : List zV} {M : zM} {a b : Int} : uX7_pusey R 65 [x0, x1, x2, x3, x4, x5] (.inl b :: .inl a :: st) M ↔ ((zIR a ∧ zIR b) ∧ if a ≠ b then uX7_pusey R 70 [x0, x1, x2, x3, x4, x5] st M else uX7_pusey R 68 [x0, x1, x2, x3, x4, x5] st M) := Iff.trans (zU_step dX7_pusey_65 (Or.inl rfl)) ⟨fun h => ⟨⟨h.1.1, h.1.2.1⟩, (zite (c := a ≠ b)).mpr h.2⟩, fun h => ⟨⟨h.1.1, h.1.2, by decide⟩, (zite (c := a ≠ b)).mp h.2⟩⟩
theorem dX7_pusey_68 : decode cX7_pusey 68 = .ok (.iload_n 3, 1) := by decide +kernel
theorem rX7_pusey_68 {R : zP} {x0 x1 x2 x4 x5 : Option zV} {st : List zV} {M : zM} {a : Int} : uX7_pusey R 68 [x0, x1, x2, some (.inl a), x4, x5] st M ↔ uX7_pusey R 69 [x0, x1, x2, some (.inl a), x4, x5] (.inl a :: st) M := zU_step dX7_pusey_68 (Or.inl rfl)
theorem dX7_pusey_69 : decode cX7_pusey 69 = .ok (.ireturn, 1) := by decide +kernel
theorem rX7_pusey_69 {R : zP} {x0 x1 x2 x3 x4 x5 : Option zV} {M : zM} {a : Int} : uX7_pusey R 69 [x0, x1, x2, x3, x4, x5] [.inl a] M ↔ R (some (.inl a)) M := Iff.trans (zU_step dX7_pusey_69 (Or.inl rfl)) ⟨fun h => h.2.2, fun h => ⟨rfl, Or.inl rfl, h⟩⟩
theorem dX7_pusey_70 : decode cX7_pusey 70 = .ok (.iload_n 1, 1) := by decide +kernel
theorem rX7_pusey_70 {R : zP} {x0 x2 x3 x4 x5 : Option zV} {st : List zV} {M : zM} {a : Int} : uX7_pusey R 70 [x0, some (.inl a), x2, x3, x4, x5] st M ↔ uX7_pusey R 71 [x0, some (.inl a), x2, x3, x4, x5] (.inl a :: st) M := zU_step dX7_pusey_70 (Or.inl rfl)
theorem dX7_pusey_71 : decode cX7_pusey 71 = .ok (.ifCond .ne 5, 3) := by decide +kernel
theorem rX7_pusey_71 {R : zP} {x0 x1 x2 x3 x4 x5 : Option zV} {st : List zV} {M : zM} {a : Int} : uX7_pusey R 71 [x0, x1, x2, x3, x4, x5] (.inl a :: st) M ↔ (zIR a ∧ if a ≠ 0 then uX7_pusey R 76 [x0, x1, x2, x3, x4, x5] st M else uX7_pusey R 74 [x0, x1, x2, x3, x4, x5] st M) := Iff.trans (zU_step dX7_pusey_71 (Or.inl rfl)) ⟨fun h => ⟨h.1.1, (zite (c := a ≠ 0)).mpr h.2⟩, fun h => ⟨⟨h.1, by decide⟩, (zite (c := a ≠ 0)).mp h.2⟩⟩
theorem dX7_pusey_74 : decode cX7_pusey 74 = .ok (.iload_n 2, 1) := by decide +kernel
theorem rX7_pusey_74 {R : zP} {x0 x1 x3 x4 x5 : Option zV} {st : List zV} {M : zM} {a : Int} : uX7_pusey R 74 [x0, x1, some (.inl a), x3, x4, x5] st M ↔ uX7_pusey R 75 [x0, x1, some (.inl a), x3, x4, x5] (.inl a :: st) M := zU_step dX7_pusey_74 (Or.inl rfl)
theorem dX7_pusey_75 : decode cX7_pusey 75 = .ok (.ireturn, 1) := by decide +kernel
theorem rX7_pusey_75 {R : zP} {x0 x1 x2 x3 x4 x5 : Option zV} {M : zM} {a : Int} : uX7_pusey R 75 [x0, x1, x2, x3, x4, x5] [.inl a] M ↔ R (some (.inl a)) M := Iff.trans (zU_step dX7_pusey_75 (Or.inl rfl)) ⟨fun h => h.2.2, fun h => ⟨rfl, Or.inl rfl, h⟩⟩
theorem dX7_pusey_76 : decode cX7_pusey 76 = .ok (.aload_n 0, 1) := by decide +kernel
theorem rX7_pusey_76 {R : zP} {x1 x2 x3 x4 x5 : Option zV} {st : List zV} {M : zM} {a : Nat} : uX7_pusey R 76 [some (.inr (.inr a)), x1, x2, x3, x4, x5] st M ↔ uX7_pusey R 77 [some (.inr (.inr a)), x1, x2, x3, x4, x5] (.inr (.inr a) :: st) M := zU_step dX7_pusey_76 (Or.inl rfl)
theorem dX7_pusey_77 : decode cX7_pusey 77 = .ok (.aload_n 0, 1) := by decide +kernel
theorem rX7_pusey_77 {R : zP} {x1 x2 x3 x4 x5 : Option zV} {st : List zV} {M : zM} {a : Nat} : uX7_pusey R 77 [some (.inr (.inr a)), x1, x2, x3, x4, x5] st M ↔ uX7_pusey R 78 [some (.inr (.inr a)), x1, x2, x3, x4, x5] (.inr (.inr a) :: st) M := zU_step dX7_pusey_77 (Or.inl rfl)
theorem dX7_pusey_78 : decode cX7_pusey 78 = .ok (.getfield 28, 3) := by decide +kernel
theorem rX7_pusey_78 {R : zP} {x0 x1 x2 x3 x4 x5 : Option zV} {st : List zV} {M : zM} {r : Nat} : uX7_pusey R 78 [x0, x1, x2, x3, x4, x5] (.inr (.inr r) :: st) M ↔ zgetx fX7 28 r M (fun v => uX7_pusey R 81 [x0, x1, x2, x3, x4, x5] (v :: st) M) := zU_step dX7_pusey_78 (Or.inl rfl)
theorem dX7_pusey_81 : decode cX7_pusey 81 = .ok (.iload_n 3, 1) := by decide +kernel
theorem rX7_pusey_81 {R : zP} {x0 x1 x2 x4 x5 : Option zV} {st : List zV} {M : zM} {a : Int} : uX7_pusey R 81 [x0, x1, x2, some (.inl a), x4, x5] st M ↔ uX7_pusey R 82 [x0, x1, x2, some (.inl a), x4, x5] (.inl a :: st) M := zU_step dX7_pusey_81 (Or.inl rfl)
theorem dX7_pusey_82 : decode cX7_pusey 82 = .ok (.iload_n 2, 1) := by decide +kernel
theorem rX7_pusey_82 {R : zP} {x0 x1 x3 x4 x5 : Option zV} {st : List zV} {M : zM} {a : Int} : uX7_pusey R 82 [x0, x1, some (.inl a), x3, x4, x5] st M ↔ uX7_pusey R 83 [x0, x1, some (.inl a), x3, x4, x5] (.inl a :: st) M := zU_step dX7_pusey_82 (Or.inl rfl)
theorem dX7_pusey_83 : decode cX7_pusey 83 = .ok (.sipush 255, 3) := by decide +kernel
theorem rX7_pusey_83 {R : zP} {x0 x1 x2 x3 x4 x5 : Option zV} {st : List zV} {M : zM} : uX7_pusey R 83 [x0, x1, x2, x3, x4, x5] st M ↔ uX7_pusey R 86 [x0, x1, x2, x3, x4, x5] (.inl (255) :: st) M := Iff.trans (zU_step dX7_pusey_83 (Or.inl rfl)) ⟨fun h => h.2, fun h => ⟨by decide, h⟩⟩
theorem dX7_pusey_86 : decode cX7_pusey 86 = .ok (.invokevirtual 142, 3) := by decide +kernel
theorem rX7_pusey_86 {R : zP} {x0 x1 x2 x3 x4 x5 : Option zV} {st : List zV} {M : zM} {a0 a1 a2 a3 a4 : zV} : uX7_pusey R 86 [x0, x1, x2, x3, x4, x5] (a4 :: a3 :: a2 :: a1 :: a0 :: st) M ↔ (st.length ≤ 4 ∧ zcn (zv 7 tX7_raise) [a0, a1, a2, a3, a4] M (fun M => uX7_pusey R 89 [x0, x1, x2, x3, x4, x5] st M)) := Iff.trans (zU_step dX7_pusey_86 (Or.inl rfl)) ⟨fun h => ⟨h.2.1, zcn_of h.2.2⟩, fun h => ⟨rfl, h.1, zcn_to h.2⟩⟩
theorem dX7_pusey_89 : decode cX7_pusey 89 = .ok (.aload_n 0, 1) := by decide +kernel
theorem rX7_pusey_89 {R : zP} {x1 x2 x3 x4 x5 : Option zV} {st : List zV} {M : zM} {a : Nat} : uX7_pusey R 89 [some (.inr (.inr a)), x1, x2, x3, x4, x5] st M ↔ uX7_pusey R 90 [some (.inr (.inr a)), x1, x2, x3, x4, x5] (.inr (.inr a) :: st) M := zU_step dX7_pusey_89 (Or.inl rfl)
theorem dX7_pusey_90 : decode cX7_pusey 90 = .ok (.getfield 55, 3) := by decide +kernel
theorem rX7_pusey_90 {R : zP} {x0 x1 x2 x3 x4 x5 : Option zV} {st : List zV} {M : zM} {r : Nat} : uX7_pusey R 90 [x0, x1, x2, x3, x4, x5] (.inr (.inr r) :: st) M ↔ zgetx fX7 55 r M (fun v => uX7_pusey R 93 [x0, x1, x2, x3, x4, x5] (v :: st) M) := zU_step dX7_pusey_90 (Or.inl rfl)
theorem dX7_pusey_93 : decode cX7_pusey 93 = .ok (.invokevirtual 188, 3) := by decide +kernel
theorem rX7_pusey_93 {R : zP} {x0 x1 x2 x3 x4 x5 : Option zV} {st : List zV} {M : zM} {a0 : zV} : uX7_pusey R 93 [x0, x1, x2, x3, x4, x5] (a0 :: st) M ↔ (st.length ≤ 4 ∧ zcv (zv 3 tX3_questionOfAllSides) [a0] M (fun v M => uX7_pusey R 96 [x0, x1, x2, x3, x4, x5] (v :: st) M)) := Iff.trans (zU_step dX7_pusey_93 (Or.inl rfl)) ⟨fun h => ⟨h.2.1, zcv_of h.2.2⟩, fun h => ⟨rfl, h.1, zcv_to h.2⟩⟩
theorem dX7_pusey_96 : decode cX7_pusey 96 = .ok (.ireturn, 1) := by decide +kernel
theorem rX7_pusey_96 {R : zP} {x0 x1 x2 x3 x4 x5 : Option zV} {M : zM} {a : Int} : uX7_pusey R 96 [x0, x1, x2, x3, x4, x5] [.inl a] M ↔ R (some (.inl a)) M := Iff.trans (zU_step dX7_pusey_96 (Or.inl rfl)) ⟨fun h => h.2.2, fun h => ⟨rfl, Or.inl rfl, h⟩⟩
theorem eX7_pusey {R : zP} {M : zM} {a0 : Nat} {p0 : Int} : tX7_pusey [.inr (.inr a0), .inl p0] M R ↔ uX7_pusey R 0 [some (.inr (.inr a0)), some (.inl p0), none, none, none, none] [] M := ⟨fun h => h.2, fun h => ⟨show 2 ≤ 6 by decide, h⟩⟩
def uX7_unknowing (R : zP) : zK := zU fX7 vX7_unknowing cX7_unknowing R
theorem dX7_unknowing_0 : decode cX7_unknowing 0 = .ok (.iconst 0, 1) := by decide +kernel
theorem rX7_unknowing_0 {R : zP} {x0 x1 x2 x3 x4 : Option zV} {st : List zV} {M : zM} : uX7_unknowing R 0 [x0, x1, x2, x3, x4] st M ↔ uX7_unknowing R 1 [x0, x1, x2, x3, x4] (.inl (0) :: st) M := zU_step dX7_unknowing_0 (Or.inl rfl)
theorem dX7_unknowing_1 : decode cX7_unknowing 1 = .ok (.istore_n 3, 1) := by decide +kernel
theorem rX7_unknowing_1 {R : zP} {x0 x1 x3 x4 : Option zV} {st : List zV} {M : zM} {a : Int} {y : Int} : uX7_unknowing R 1 [x0, x1, some (.inl y), x3, x4] (.inl a :: st) M ↔ uX7_unknowing R 2 [x0, x1, some (.inl y), some (.inl a), x4] st M := Iff.trans (zU_step dX7_unknowing_1 (Or.inl rfl)) ⟨fun h => h.2, fun h => ⟨show 3 < 5 by decide, h⟩⟩
theorem rX7_unknowing_1z {R : zP} {x0 x1 x2 x3 x4 : Option zV} {st : List zV} {M : zM} {a : Int} : uX7_unknowing R 1 [x0, x1, x2, x3, x4] (.inl a :: st) M ↔ uX7_unknowing R 2 [x0, x1, zkeep x2, some (.inl a), x4] st M := Iff.trans (zU_step dX7_unknowing_1 (Or.inl rfl)) ⟨fun h => h.2, fun h => ⟨show 3 < 5 by decide, h⟩⟩
theorem dX7_unknowing_2 : decode cX7_unknowing 2 = .ok (.iconst 0, 1) := by decide +kernel
theorem rX7_unknowing_2 {R : zP} {x0 x1 x2 x3 x4 : Option zV} {st : List zV} {M : zM} : uX7_unknowing R 2 [x0, x1, x2, x3, x4] st M ↔ uX7_unknowing R 3 [x0, x1, x2, x3, x4] (.inl (0) :: st) M := zU_step dX7_unknowing_2 (Or.inl rfl)
theorem dX7_unknowing_3 : decode cX7_unknowing 3 = .ok (.istore 4, 2) := by decide +kernel
theorem rX7_unknowing_3 {R : zP} {x0 x1 x2 x4 : Option zV} {st : List zV} {M : zM} {a : Int} {y : Int} : uX7_unknowing R 3 [x0, x1, x2, some (.inl y), x4] (.inl a :: st) M ↔ uX7_unknowing R 5 [x0, x1, x2, some (.inl y), some (.inl a)] st M := Iff.trans (zU_step dX7_unknowing_3 (Or.inl rfl)) ⟨fun h => h.2, fun h => ⟨show 4 < 5 by decide, h⟩⟩
theorem rX7_unknowing_3z {R : zP} {x0 x1 x2 x3 x4 : Option zV} {st : List zV} {M : zM} {a : Int} : uX7_unknowing R 3 [x0, x1, x2, x3, x4] (.inl a :: st) M ↔ uX7_unknowing R 5 [x0, x1, x2, zkeep x3, some (.inl a)] st M := Iff.trans (zU_step dX7_unknowing_3 (Or.inl rfl)) ⟨fun h => h.2, fun h => ⟨show 4 < 5 by decide, h⟩⟩
theorem dX7_unknowing_5 : decode cX7_unknowing 5 = .ok (.iload 4, 2) := by decide +kernel
theorem rX7_unknowing_5 {R : zP} {x0 x1 x2 x3 : Option zV} {st : List zV} {M : zM} {a : Int} : uX7_unknowing R 5 [x0, x1, x2, x3, some (.inl a)] st M ↔ uX7_unknowing R 7 [x0, x1, x2, x3, some (.inl a)] (.inl a :: st) M := zU_step dX7_unknowing_5 (Or.inl rfl)
theorem dX7_unknowing_7 : decode cX7_unknowing 7 = .ok (.aload_n 0, 1) := by decide +kernel
theorem rX7_unknowing_7 {R : zP} {x1 x2 x3 x4 : Option zV} {st : List zV} {M : zM} {a : Nat} : uX7_unknowing R 7 [some (.inr (.inr a)), x1, x2, x3, x4] st M ↔ uX7_unknowing R 8 [some (.inr (.inr a)), x1, x2, x3, x4] (.inr (.inr a) :: st) M := zU_step dX7_unknowing_7 (Or.inl rfl)
theorem dX7_unknowing_8 : decode cX7_unknowing 8 = .ok (.getfield 14, 3) := by decide +kernel
theorem rX7_unknowing_8 {R : zP} {x0 x1 x2 x3 x4 : Option zV} {st : List zV} {M : zM} {r : Nat} : uX7_unknowing R 8 [x0, x1, x2, x3, x4] (.inr (.inr r) :: st) M ↔ zgetx fX7 14 r M (fun v => uX7_unknowing R 11 [x0, x1, x2, x3, x4] (v :: st) M) := zU_step dX7_unknowing_8 (Or.inl rfl)
theorem dX7_unknowing_11 : decode cX7_unknowing 11 = .ok (.getfield 116, 3) := by decide +kernel
theorem rX7_unknowing_11 {R : zP} {x0 x1 x2 x3 x4 : Option zV} {st : List zV} {M : zM} {r : Nat} : uX7_unknowing R 11 [x0, x1, x2, x3, x4] (.inr (.inr r) :: st) M ↔ zgetx fX7 116 r M (fun v => uX7_unknowing R 14 [x0, x1, x2, x3, x4] (v :: st) M) := zU_step dX7_unknowing_11 (Or.inl rfl)
theorem dX7_unknowing_14 : decode cX7_unknowing 14 = .ok (.if_icmp .ge 49, 3) := by decide +kernel
theorem rX7_unknowing_14 {R : zP} {x0 x1 x2 x3 x4 : Option zV} {st : List zV} {M : zM} {a b : Int} : uX7_unknowing R 14 [x0, x1, x2, x3, x4] (.inl b :: .inl a :: st) M ↔ ((zIR a ∧ zIR b) ∧ if b ≤ a then uX7_unknowing R 63 [x0, x1, x2, x3, x4] st M else uX7_unknowing R 17 [x0, x1, x2, x3, x4] st M) := Iff.trans (zU_step dX7_unknowing_14 (Or.inl rfl)) ⟨fun h => ⟨⟨h.1.1, h.1.2.1⟩, (zite (c := b ≤ a)).mpr h.2⟩, fun h => ⟨⟨h.1.1, h.1.2, by decide⟩, (zite (c := b ≤ a)).mp h.2⟩⟩
theorem dX7_unknowing_17 : decode cX7_unknowing 17 = .ok (.aload_n 0, 1) := by decide +kernel
theorem rX7_unknowing_17 {R : zP} {x1 x2 x3 x4 : Option zV} {st : List zV} {M : zM} {a : Nat} : uX7_unknowing R 17 [some (.inr (.inr a)), x1, x2, x3, x4] st M ↔ uX7_unknowing R 18 [some (.inr (.inr a)), x1, x2, x3, x4] (.inr (.inr a) :: st) M := zU_step dX7_unknowing_17 (Or.inl rfl)
theorem dX7_unknowing_18 : decode cX7_unknowing 18 = .ok (.aload_n 1, 1) := by decide +kernel
theorem rX7_unknowing_18 {R : zP} {x0 x2 x3 x4 : Option zV} {st : List zV} {M : zM} {a : Nat} : uX7_unknowing R 18 [x0, some (.inr (.inr a)), x2, x3, x4] st M ↔ uX7_unknowing R 19 [x0, some (.inr (.inr a)), x2, x3, x4] (.inr (.inr a) :: st) M := zU_step dX7_unknowing_18 (Or.inl rfl)
theorem dX7_unknowing_19 : decode cX7_unknowing 19 = .ok (.iload 4, 2) := by decide +kernel
theorem rX7_unknowing_19 {R : zP} {x0 x1 x2 x3 : Option zV} {st : List zV} {M : zM} {a : Int} : uX7_unknowing R 19 [x0, x1, x2, x3, some (.inl a)] st M ↔ uX7_unknowing R 21 [x0, x1, x2, x3, some (.inl a)] (.inl a :: st) M := zU_step dX7_unknowing_19 (Or.inl rfl)
theorem dX7_unknowing_21 : decode cX7_unknowing 21 = .ok (.bipush 19, 2) := by decide +kernel
theorem rX7_unknowing_21 {R : zP} {x0 x1 x2 x3 x4 : Option zV} {st : List zV} {M : zM} : uX7_unknowing R 21 [x0, x1, x2, x3, x4] st M ↔ uX7_unknowing R 23 [x0, x1, x2, x3, x4] (.inl (19) :: st) M := Iff.trans (zU_step dX7_unknowing_21 (Or.inl rfl)) ⟨fun h => h.2, fun h => ⟨by decide, h⟩⟩
theorem dX7_unknowing_23 : decode cX7_unknowing 23 = .ok (.iload_n 2, 1) := by decide +kernel
theorem rX7_unknowing_23 {R : zP} {x0 x1 x3 x4 : Option zV} {st : List zV} {M : zM} {a : Int} : uX7_unknowing R 23 [x0, x1, some (.inl a), x3, x4] st M ↔ uX7_unknowing R 24 [x0, x1, some (.inl a), x3, x4] (.inl a :: st) M := zU_step dX7_unknowing_23 (Or.inl rfl)
theorem dX7_unknowing_24 : decode cX7_unknowing 24 = .ok (.invokevirtual 142, 3) := by decide +kernel
theorem rX7_unknowing_24 {R : zP} {x0 x1 x2 x3 x4 : Option zV} {st : List zV} {M : zM} {a0 a1 a2 a3 a4 : zV} : uX7_unknowing R 24 [x0, x1, x2, x3, x4] (a4 :: a3 :: a2 :: a1 :: a0 :: st) M ↔ (st.length ≤ 4 ∧ zcn (zv 7 tX7_raise) [a0, a1, a2, a3, a4] M (fun M => uX7_unknowing R 27 [x0, x1, x2, x3, x4] st M)) := Iff.trans (zU_step dX7_unknowing_24 (Or.inl rfl)) ⟨fun h => ⟨h.2.1, zcn_of h.2.2⟩, fun h => ⟨rfl, h.1, zcn_to h.2⟩⟩
theorem dX7_unknowing_27 : decode cX7_unknowing 27 = .ok (.iload_n 3, 1) := by decide +kernel
theorem rX7_unknowing_27 {R : zP} {x0 x1 x2 x4 : Option zV} {st : List zV} {M : zM} {a : Int} : uX7_unknowing R 27 [x0, x1, x2, some (.inl a), x4] st M ↔ uX7_unknowing R 28 [x0, x1, x2, some (.inl a), x4] (.inl a :: st) M := zU_step dX7_unknowing_27 (Or.inl rfl)
theorem dX7_unknowing_28 : decode cX7_unknowing 28 = .ok (.aload_n 0, 1) := by decide +kernel
theorem rX7_unknowing_28 {R : zP} {x1 x2 x3 x4 : Option zV} {st : List zV} {M : zM} {a : Nat} : uX7_unknowing R 28 [some (.inr (.inr a)), x1, x2, x3, x4] st M ↔ uX7_unknowing R 29 [some (.inr (.inr a)), x1, x2, x3, x4] (.inr (.inr a) :: st) M := zU_step dX7_unknowing_28 (Or.inl rfl)
theorem dX7_unknowing_29 : decode cX7_unknowing 29 = .ok (.getfield 55, 3) := by decide +kernel
theorem rX7_unknowing_29 {R : zP} {x0 x1 x2 x3 x4 : Option zV} {st : List zV} {M : zM} {r : Nat} : uX7_unknowing R 29 [x0, x1, x2, x3, x4] (.inr (.inr r) :: st) M ↔ zgetx fX7 55 r M (fun v => uX7_unknowing R 32 [x0, x1, x2, x3, x4] (v :: st) M) := zU_step dX7_unknowing_29 (Or.inl rfl)
theorem dX7_unknowing_32 : decode cX7_unknowing 32 = .ok (.aload_n 0, 1) := by decide +kernel
theorem rX7_unknowing_32 {R : zP} {x1 x2 x3 x4 : Option zV} {st : List zV} {M : zM} {a : Nat} : uX7_unknowing R 32 [some (.inr (.inr a)), x1, x2, x3, x4] st M ↔ uX7_unknowing R 33 [some (.inr (.inr a)), x1, x2, x3, x4] (.inr (.inr a) :: st) M := zU_step dX7_unknowing_32 (Or.inl rfl)
theorem dX7_unknowing_33 : decode cX7_unknowing 33 = .ok (.getfield 14, 3) := by decide +kernel
theorem rX7_unknowing_33 {R : zP} {x0 x1 x2 x3 x4 : Option zV} {st : List zV} {M : zM} {r : Nat} : uX7_unknowing R 33 [x0, x1, x2, x3, x4] (.inr (.inr r) :: st) M ↔ zgetx fX7 14 r M (fun v => uX7_unknowing R 36 [x0, x1, x2, x3, x4] (v :: st) M) := zU_step dX7_unknowing_33 (Or.inl rfl)
theorem dX7_unknowing_36 : decode cX7_unknowing 36 = .ok (.iload 4, 2) := by decide +kernel
theorem rX7_unknowing_36 {R : zP} {x0 x1 x2 x3 : Option zV} {st : List zV} {M : zM} {a : Int} : uX7_unknowing R 36 [x0, x1, x2, x3, some (.inl a)] st M ↔ uX7_unknowing R 38 [x0, x1, x2, x3, some (.inl a)] (.inl a :: st) M := zU_step dX7_unknowing_36 (Or.inl rfl)
theorem dX7_unknowing_38 : decode cX7_unknowing 38 = .ok (.invokevirtual 165, 3) := by decide +kernel
theorem rX7_unknowing_38 {R : zP} {x0 x1 x2 x3 x4 : Option zV} {st : List zV} {M : zM} {a0 a1 a2 : zV} : uX7_unknowing R 38 [x0, x1, x2, x3, x4] (a2 :: a1 :: a0 :: st) M ↔ (st.length ≤ 4 ∧ zcv (zv 3 tX3_knows) [a0, a1, a2] M (fun v M => uX7_unknowing R 41 [x0, x1, x2, x3, x4] (v :: st) M)) := Iff.trans (zU_step dX7_unknowing_38 (Or.inl rfl)) ⟨fun h => ⟨h.2.1, zcv_of h.2.2⟩, fun h => ⟨rfl, h.1, zcv_to h.2⟩⟩
theorem dX7_unknowing_41 : decode cX7_unknowing 41 = .ok (.ifCond .ne 7, 3) := by decide +kernel
theorem rX7_unknowing_41 {R : zP} {x0 x1 x2 x3 x4 : Option zV} {st : List zV} {M : zM} {a : Int} : uX7_unknowing R 41 [x0, x1, x2, x3, x4] (.inl a :: st) M ↔ (zIR a ∧ if a ≠ 0 then uX7_unknowing R 48 [x0, x1, x2, x3, x4] st M else uX7_unknowing R 44 [x0, x1, x2, x3, x4] st M) := Iff.trans (zU_step dX7_unknowing_41 (Or.inl rfl)) ⟨fun h => ⟨h.1.1, (zite (c := a ≠ 0)).mpr h.2⟩, fun h => ⟨⟨h.1, by decide⟩, (zite (c := a ≠ 0)).mp h.2⟩⟩
theorem dX7_unknowing_44 : decode cX7_unknowing 44 = .ok (.iconst 1, 1) := by decide +kernel
theorem rX7_unknowing_44 {R : zP} {x0 x1 x2 x3 x4 : Option zV} {st : List zV} {M : zM} : uX7_unknowing R 44 [x0, x1, x2, x3, x4] st M ↔ uX7_unknowing R 45 [x0, x1, x2, x3, x4] (.inl (1) :: st) M := zU_step dX7_unknowing_44 (Or.inl rfl)
theorem dX7_unknowing_45 : decode cX7_unknowing 45 = .ok (.goto 4, 3) := by decide +kernel
theorem rX7_unknowing_45 {R : zP} {x0 x1 x2 x3 x4 : Option zV} {st : List zV} {M : zM} : uX7_unknowing R 45 [x0, x1, x2, x3, x4] st M ↔ uX7_unknowing R 49 [x0, x1, x2, x3, x4] st M := Iff.trans (zU_step dX7_unknowing_45 (Or.inl rfl)) ⟨fun h => h.2, fun h => ⟨by decide, h⟩⟩
theorem dX7_unknowing_48 : decode cX7_unknowing 48 = .ok (.iconst 0, 1) := by decide +kernel
theorem rX7_unknowing_48 {R : zP} {x0 x1 x2 x3 x4 : Option zV} {st : List zV} {M : zM} : uX7_unknowing R 48 [x0, x1, x2, x3, x4] st M ↔ uX7_unknowing R 49 [x0, x1, x2, x3, x4] (.inl (0) :: st) M := zU_step dX7_unknowing_48 (Or.inl rfl)
theorem dX7_unknowing_49 : decode cX7_unknowing 49 = .ok (.invokestatic 155, 3) := by decide +kernel
theorem rX7_unknowing_49 {R : zP} {x0 x1 x2 x3 x4 : Option zV} {st : List zV} {M : zM} {a0 : zV} : uX7_unknowing R 49 [x0, x1, x2, x3, x4] (a0 :: st) M ↔ (st.length ≤ 4 ∧ zcv tX7_bit [a0] M (fun v M => uX7_unknowing R 52 [x0, x1, x2, x3, x4] (v :: st) M)) := Iff.trans (zU_step dX7_unknowing_49 (Or.inl rfl)) ⟨fun h => ⟨h.2.1, zcv_of h.2.2⟩, fun h => ⟨rfl, h.1, zcv_to h.2⟩⟩
theorem dX7_unknowing_52 : decode cX7_unknowing 52 = .ok (.iload 4, 2) := by decide +kernel
theorem rX7_unknowing_52 {R : zP} {x0 x1 x2 x3 : Option zV} {st : List zV} {M : zM} {a : Int} : uX7_unknowing R 52 [x0, x1, x2, x3, some (.inl a)] st M ↔ uX7_unknowing R 54 [x0, x1, x2, x3, some (.inl a)] (.inl a :: st) M := zU_step dX7_unknowing_52 (Or.inl rfl)
theorem dX7_unknowing_54 : decode cX7_unknowing 54 = .ok (.ishl, 1) := by decide +kernel
theorem rX7_unknowing_54 {R : zP} {x0 x1 x2 x3 x4 : Option zV} {st : List zV} {M : zM} {a b : Int} : uX7_unknowing R 54 [x0, x1, x2, x3, x4] (.inl b :: .inl a :: st) M ↔ uX7_unknowing R 55 [x0, x1, x2, x3, x4] (.inl (zshl a b) :: st) M := zU_step dX7_unknowing_54 (Or.inl rfl)
theorem dX7_unknowing_55 : decode cX7_unknowing 55 = .ok (.ior, 1) := by decide +kernel
theorem rX7_unknowing_55 {R : zP} {x0 x1 x2 x3 x4 : Option zV} {st : List zV} {M : zM} {a b : Int} : uX7_unknowing R 55 [x0, x1, x2, x3, x4] (.inl b :: .inl a :: st) M ↔ uX7_unknowing R 56 [x0, x1, x2, x3, x4] (.inl (zor a b) :: st) M := zU_step dX7_unknowing_55 (Or.inl rfl)
theorem dX7_unknowing_56 : decode cX7_unknowing 56 = .ok (.istore_n 3, 1) := by decide +kernel
theorem rX7_unknowing_56 {R : zP} {x0 x1 x3 x4 : Option zV} {st : List zV} {M : zM} {a : Int} {y : Int} : uX7_unknowing R 56 [x0, x1, some (.inl y), x3, x4] (.inl a :: st) M ↔ uX7_unknowing R 57 [x0, x1, some (.inl y), some (.inl a), x4] st M := Iff.trans (zU_step dX7_unknowing_56 (Or.inl rfl)) ⟨fun h => h.2, fun h => ⟨show 3 < 5 by decide, h⟩⟩
theorem rX7_unknowing_56z {R : zP} {x0 x1 x2 x3 x4 : Option zV} {st : List zV} {M : zM} {a : Int} : uX7_unknowing R 56 [x0, x1, x2, x3, x4] (.inl a :: st) M ↔ uX7_unknowing R 57 [x0, x1, zkeep x2, some (.inl a), x4] st M := Iff.trans (zU_step dX7_unknowing_56 (Or.inl rfl)) ⟨fun h => h.2, fun h => ⟨show 3 < 5 by decide, h⟩⟩
theorem dX7_unknowing_57 : decode cX7_unknowing 57 = .ok (.iinc 4 1, 3) := by decide +kernel
theorem rX7_unknowing_57 {R : zP} {x0 x1 x2 : Option zV} {st : List zV} {M : zM} {a : Int} {y : Int} : uX7_unknowing R 57 [x0, x1, x2, some (.inl y), some (.inl a)] st M ↔ uX7_unknowing R 60 [x0, x1, x2, some (.inl y), some (.inl (a + (1)))] st M := Iff.trans (zU_step dX7_unknowing_57 (Or.inl rfl)) ⟨fun h => h.2, fun h => ⟨show 4 < 5 by decide, h⟩⟩
theorem rX7_unknowing_57z {R : zP} {x0 x1 x2 x3 : Option zV} {st : List zV} {M : zM} {a : Int} : uX7_unknowing R 57 [x0, x1, x2, x3, some (.inl a)] st M ↔ uX7_unknowing R 60 [x0, x1, x2, zkeep x3, some (.inl (a + (1)))] st M := Iff.trans (zU_step dX7_unknowing_57 (Or.inl rfl)) ⟨fun h => h.2, fun h => ⟨show 4 < 5 by decide, h⟩⟩
theorem dX7_unknowing_60 : decode cX7_unknowing 60 = .ok (.goto (-55), 3) := by decide +kernel
theorem rX7_unknowing_60 {R : zP} {x0 x1 x2 x3 x4 : Option zV} {st : List zV} {M : zM} : uX7_unknowing R 60 [x0, x1, x2, x3, x4] st M ↔ uX7_unknowing R 5 [x0, x1, x2, x3, x4] st M := Iff.trans (zU_step dX7_unknowing_60 (Or.inl rfl)) ⟨fun h => h.2, fun h => ⟨by decide, h⟩⟩
theorem dX7_unknowing_63 : decode cX7_unknowing 63 = .ok (.iload_n 3, 1) := by decide +kernel
theorem rX7_unknowing_63 {R : zP} {x0 x1 x2 x4 : Option zV} {st : List zV} {M : zM} {a : Int} : uX7_unknowing R 63 [x0, x1, x2, some (.inl a), x4] st M ↔ uX7_unknowing R 64 [x0, x1, x2, some (.inl a), x4] (.inl a :: st) M := zU_step dX7_unknowing_63 (Or.inl rfl)
theorem dX7_unknowing_64 : decode cX7_unknowing 64 = .ok (.ireturn, 1) := by decide +kernel
theorem rX7_unknowing_64 {R : zP} {x0 x1 x2 x3 x4 : Option zV} {M : zM} {a : Int} : uX7_unknowing R 64 [x0, x1, x2, x3, x4] [.inl a] M ↔ R (some (.inl a)) M := Iff.trans (zU_step dX7_unknowing_64 (Or.inl rfl)) ⟨fun h => h.2.2, fun h => ⟨rfl, Or.inl rfl, h⟩⟩
theorem eX7_unknowing {R : zP} {M : zM} {a0 : Nat} {p0 : Nat} {p1 : Int} : tX7_unknowing [.inr (.inr a0), .inr (.inr p0), .inl p1] M R ↔ uX7_unknowing R 0 [some (.inr (.inr a0)), some (.inr (.inr p0)), some (.inl p1), none, none] [] M := ⟨fun h => h.2, fun h => ⟨show 3 ≤ 5 by decide, h⟩⟩
def uX7_weaned (R : zP) : zK := zU fX7 vX7_weaned cX7_weaned R
theorem dX7_weaned_0 : decode cX7_weaned 0 = .ok (.aload_n 0, 1) := by decide +kernel
theorem rX7_weaned_0 {R : zP} {st : List zV} {M : zM} {a : Nat} : uX7_weaned R 0 [some (.inr (.inr a))] st M ↔ uX7_weaned R 1 [some (.inr (.inr a))] (.inr (.inr a) :: st) M := zU_step dX7_weaned_0 (Or.inl rfl)
theorem dX7_weaned_1 : decode cX7_weaned 1 = .ok (.aload_n 0, 1) := by decide +kernel
theorem rX7_weaned_1 {R : zP} {st : List zV} {M : zM} {a : Nat} : uX7_weaned R 1 [some (.inr (.inr a))] st M ↔ uX7_weaned R 2 [some (.inr (.inr a))] (.inr (.inr a) :: st) M := zU_step dX7_weaned_1 (Or.inl rfl)
theorem dX7_weaned_2 : decode cX7_weaned 2 = .ok (.getfield 28, 3) := by decide +kernel
theorem rX7_weaned_2 {R : zP} {x0 : Option zV} {st : List zV} {M : zM} {r : Nat} : uX7_weaned R 2 [x0] (.inr (.inr r) :: st) M ↔ zgetx fX7 28 r M (fun v => uX7_weaned R 5 [x0] (v :: st) M) := zU_step dX7_weaned_2 (Or.inl rfl)
theorem dX7_weaned_5 : decode cX7_weaned 5 = .ok (.sipush 255, 3) := by decide +kernel
theorem rX7_weaned_5 {R : zP} {x0 : Option zV} {st : List zV} {M : zM} : uX7_weaned R 5 [x0] st M ↔ uX7_weaned R 8 [x0] (.inl (255) :: st) M := Iff.trans (zU_step dX7_weaned_5 (Or.inl rfl)) ⟨fun h => h.2, fun h => ⟨by decide, h⟩⟩
theorem dX7_weaned_8 : decode cX7_weaned 8 = .ok (.invokevirtual 191, 3) := by decide +kernel
theorem rX7_weaned_8 {R : zP} {x0 : Option zV} {st : List zV} {M : zM} {a0 a1 a2 : zV} : uX7_weaned R 8 [x0] (a2 :: a1 :: a0 :: st) M ↔ (st.length ≤ 4 ∧ zcv (zv 7 tX7_unknowing) [a0, a1, a2] M (fun v M => uX7_weaned R 11 [x0] (v :: st) M)) := Iff.trans (zU_step dX7_weaned_8 (Or.inl rfl)) ⟨fun h => ⟨h.2.1, zcv_of h.2.2⟩, fun h => ⟨rfl, h.1, zcv_to h.2⟩⟩
theorem dX7_weaned_11 : decode cX7_weaned 11 = .ok (.ireturn, 1) := by decide +kernel
theorem rX7_weaned_11 {R : zP} {x0 : Option zV} {M : zM} {a : Int} : uX7_weaned R 11 [x0] [.inl a] M ↔ R (some (.inl a)) M := Iff.trans (zU_step dX7_weaned_11 (Or.inl rfl)) ⟨fun h => h.2.2, fun h => ⟨rfl, Or.inl rfl, h⟩⟩
theorem eX7_weaned {R : zP} {M : zM} {a0 : Nat} : tX7_weaned [.inr (.inr a0)] M R ↔ uX7_weaned R 0 [some (.inr (.inr a0))] [] M := ⟨fun h => h.2, fun h => ⟨show 1 ≤ 1 by decide, h⟩⟩
def uX7_says (R : zP) : zK := zU fX7 vX7_says cX7_says R
theorem dX7_says_0 : decode cX7_says 0 = .ok (.iload_n 1, 1) := by decide +kernel
theorem rX7_says_0 {R : zP} {x0 x2 x3 : Option zV} {st : List zV} {M : zM} {a : Int} : uX7_says R 0 [x0, some (.inl a), x2, x3] st M ↔ uX7_says R 1 [x0, some (.inl a), x2, x3] (.inl a :: st) M := zU_step dX7_says_0 (Or.inl rfl)
theorem dX7_says_1 : decode cX7_says 1 = .ok (.iconst 4, 1) := by decide +kernel
theorem rX7_says_1 {R : zP} {x0 x1 x2 x3 : Option zV} {st : List zV} {M : zM} : uX7_says R 1 [x0, x1, x2, x3] st M ↔ uX7_says R 2 [x0, x1, x2, x3] (.inl (4) :: st) M := zU_step dX7_says_1 (Or.inl rfl)
theorem dX7_says_2 : decode cX7_says 2 = .ok (.invokestatic 94, 3) := by decide +kernel
theorem rX7_says_2 {R : zP} {x0 x1 x2 x3 : Option zV} {st : List zV} {M : zM} {a0 a1 : zV} : uX7_says R 2 [x0, x1, x2, x3] (a1 :: a0 :: st) M ↔ (st.length ≤ 4 ∧ zcv tX7_outside [a0, a1] M (fun v M => uX7_says R 5 [x0, x1, x2, x3] (v :: st) M)) := Iff.trans (zU_step dX7_says_2 (Or.inl rfl)) ⟨fun h => ⟨h.2.1, zcv_of h.2.2⟩, fun h => ⟨rfl, h.1, zcv_to h.2⟩⟩
theorem dX7_says_5 : decode cX7_says 5 = .ok (.ifCond .eq 6, 3) := by decide +kernel
theorem rX7_says_5 {R : zP} {x0 x1 x2 x3 : Option zV} {st : List zV} {M : zM} {a : Int} : uX7_says R 5 [x0, x1, x2, x3] (.inl a :: st) M ↔ (zIR a ∧ if a = 0 then uX7_says R 11 [x0, x1, x2, x3] st M else uX7_says R 8 [x0, x1, x2, x3] st M) := Iff.trans (zU_step dX7_says_5 (Or.inl rfl)) ⟨fun h => ⟨h.1.1, (zite (c := a = 0)).mpr h.2⟩, fun h => ⟨⟨h.1, by decide⟩, (zite (c := a = 0)).mp h.2⟩⟩
theorem dX7_says_8 : decode cX7_says 8 = .ok (.bipush (-2), 2) := by decide +kernel
theorem rX7_says_8 {R : zP} {x0 x1 x2 x3 : Option zV} {st : List zV} {M : zM} : uX7_says R 8 [x0, x1, x2, x3] st M ↔ uX7_says R 10 [x0, x1, x2, x3] (.inl (-2) :: st) M := Iff.trans (zU_step dX7_says_8 (Or.inl rfl)) ⟨fun h => h.2, fun h => ⟨by decide, h⟩⟩
theorem dX7_says_10 : decode cX7_says 10 = .ok (.ireturn, 1) := by decide +kernel
theorem rX7_says_10 {R : zP} {x0 x1 x2 x3 : Option zV} {M : zM} {a : Int} : uX7_says R 10 [x0, x1, x2, x3] [.inl a] M ↔ R (some (.inl a)) M := Iff.trans (zU_step dX7_says_10 (Or.inl rfl)) ⟨fun h => h.2.2, fun h => ⟨rfl, Or.inl rfl, h⟩⟩
theorem dX7_says_11 : decode cX7_says 11 = .ok (.aload_n 0, 1) := by decide +kernel
theorem rX7_says_11 {R : zP} {x1 x2 x3 : Option zV} {st : List zV} {M : zM} {a : Nat} : uX7_says R 11 [some (.inr (.inr a)), x1, x2, x3] st M ↔ uX7_says R 12 [some (.inr (.inr a)), x1, x2, x3] (.inr (.inr a) :: st) M := zU_step dX7_says_11 (Or.inl rfl)
theorem dX7_says_12 : decode cX7_says 12 = .ok (.bipush 19, 2) := by decide +kernel
theorem rX7_says_12 {R : zP} {x0 x1 x2 x3 : Option zV} {st : List zV} {M : zM} : uX7_says R 12 [x0, x1, x2, x3] st M ↔ uX7_says R 14 [x0, x1, x2, x3] (.inl (19) :: st) M := Iff.trans (zU_step dX7_says_12 (Or.inl rfl)) ⟨fun h => h.2, fun h => ⟨by decide, h⟩⟩
theorem dX7_says_14 : decode cX7_says 14 = .ok (.iload_n 1, 1) := by decide +kernel
theorem rX7_says_14 {R : zP} {x0 x2 x3 : Option zV} {st : List zV} {M : zM} {a : Int} : uX7_says R 14 [x0, some (.inl a), x2, x3] st M ↔ uX7_says R 15 [x0, some (.inl a), x2, x3] (.inl a :: st) M := zU_step dX7_says_14 (Or.inl rfl)
theorem dX7_says_15 : decode cX7_says 15 = .ok (.invokevirtual 169, 3) := by decide +kernel
theorem rX7_says_15 {R : zP} {x0 x1 x2 x3 : Option zV} {st : List zV} {M : zM} {a0 a1 a2 : zV} : uX7_says R 15 [x0, x1, x2, x3] (a2 :: a1 :: a0 :: st) M ↔ (st.length ≤ 4 ∧ zcv (zv 7 tX7_ayes) [a0, a1, a2] M (fun v M => uX7_says R 18 [x0, x1, x2, x3] (v :: st) M)) := Iff.trans (zU_step dX7_says_15 (Or.inl rfl)) ⟨fun h => ⟨h.2.1, zcv_of h.2.2⟩, fun h => ⟨rfl, h.1, zcv_to h.2⟩⟩
theorem dX7_says_18 : decode cX7_says 18 = .ok (.istore_n 2, 1) := by decide +kernel
theorem rX7_says_18 {R : zP} {x0 x2 x3 : Option zV} {st : List zV} {M : zM} {a : Int} {y : Int} : uX7_says R 18 [x0, some (.inl y), x2, x3] (.inl a :: st) M ↔ uX7_says R 19 [x0, some (.inl y), some (.inl a), x3] st M := Iff.trans (zU_step dX7_says_18 (Or.inl rfl)) ⟨fun h => h.2, fun h => ⟨show 2 < 4 by decide, h⟩⟩
theorem rX7_says_18z {R : zP} {x0 x1 x2 x3 : Option zV} {st : List zV} {M : zM} {a : Int} : uX7_says R 18 [x0, x1, x2, x3] (.inl a :: st) M ↔ uX7_says R 19 [x0, zkeep x1, some (.inl a), x3] st M := Iff.trans (zU_step dX7_says_18 (Or.inl rfl)) ⟨fun h => h.2, fun h => ⟨show 2 < 4 by decide, h⟩⟩
theorem dX7_says_19 : decode cX7_says 19 = .ok (.aload_n 0, 1) := by decide +kernel
theorem rX7_says_19 {R : zP} {x1 x2 x3 : Option zV} {st : List zV} {M : zM} {a : Nat} : uX7_says R 19 [some (.inr (.inr a)), x1, x2, x3] st M ↔ uX7_says R 20 [some (.inr (.inr a)), x1, x2, x3] (.inr (.inr a) :: st) M := zU_step dX7_says_19 (Or.inl rfl)
theorem dX7_says_20 : decode cX7_says 20 = .ok (.iload_n 2, 1) := by decide +kernel
theorem rX7_says_20 {R : zP} {x0 x1 x3 : Option zV} {st : List zV} {M : zM} {a : Int} : uX7_says R 20 [x0, x1, some (.inl a), x3] st M ↔ uX7_says R 21 [x0, x1, some (.inl a), x3] (.inl a :: st) M := zU_step dX7_says_20 (Or.inl rfl)
theorem dX7_says_21 : decode cX7_says 21 = .ok (.invokevirtual 178, 3) := by decide +kernel
theorem rX7_says_21 {R : zP} {x0 x1 x2 x3 : Option zV} {st : List zV} {M : zM} {a0 a1 : zV} : uX7_says R 21 [x0, x1, x2, x3] (a1 :: a0 :: st) M ↔ (st.length ≤ 4 ∧ zcv (zv 7 tX7_haveIt) [a0, a1] M (fun v M => uX7_says R 24 [x0, x1, x2, x3] (v :: st) M)) := Iff.trans (zU_step dX7_says_21 (Or.inl rfl)) ⟨fun h => ⟨h.2.1, zcv_of h.2.2⟩, fun h => ⟨rfl, h.1, zcv_to h.2⟩⟩
theorem dX7_says_24 : decode cX7_says 24 = .ok (.ifCond .ne 5, 3) := by decide +kernel
theorem rX7_says_24 {R : zP} {x0 x1 x2 x3 : Option zV} {st : List zV} {M : zM} {a : Int} : uX7_says R 24 [x0, x1, x2, x3] (.inl a :: st) M ↔ (zIR a ∧ if a ≠ 0 then uX7_says R 29 [x0, x1, x2, x3] st M else uX7_says R 27 [x0, x1, x2, x3] st M) := Iff.trans (zU_step dX7_says_24 (Or.inl rfl)) ⟨fun h => ⟨h.1.1, (zite (c := a ≠ 0)).mpr h.2⟩, fun h => ⟨⟨h.1, by decide⟩, (zite (c := a ≠ 0)).mp h.2⟩⟩
theorem dX7_says_27 : decode cX7_says 27 = .ok (.iconst (-1), 1) := by decide +kernel
theorem rX7_says_27 {R : zP} {x0 x1 x2 x3 : Option zV} {st : List zV} {M : zM} : uX7_says R 27 [x0, x1, x2, x3] st M ↔ uX7_says R 28 [x0, x1, x2, x3] (.inl (-1) :: st) M := zU_step dX7_says_27 (Or.inl rfl)
theorem dX7_says_28 : decode cX7_says 28 = .ok (.ireturn, 1) := by decide +kernel
theorem rX7_says_28 {R : zP} {x0 x1 x2 x3 : Option zV} {M : zM} {a : Int} : uX7_says R 28 [x0, x1, x2, x3] [.inl a] M ↔ R (some (.inl a)) M := Iff.trans (zU_step dX7_says_28 (Or.inl rfl)) ⟨fun h => h.2.2, fun h => ⟨rfl, Or.inl rfl, h⟩⟩
theorem dX7_says_29 : decode cX7_says 29 = .ok (.iconst 0, 1) := by decide +kernel
theorem rX7_says_29 {R : zP} {x0 x1 x2 x3 : Option zV} {st : List zV} {M : zM} : uX7_says R 29 [x0, x1, x2, x3] st M ↔ uX7_says R 30 [x0, x1, x2, x3] (.inl (0) :: st) M := zU_step dX7_says_29 (Or.inl rfl)
theorem dX7_says_30 : decode cX7_says 30 = .ok (.istore_n 3, 1) := by decide +kernel
theorem rX7_says_30 {R : zP} {x0 x1 x3 : Option zV} {st : List zV} {M : zM} {a : Int} {y : Int} : uX7_says R 30 [x0, x1, some (.inl y), x3] (.inl a :: st) M ↔ uX7_says R 31 [x0, x1, some (.inl y), some (.inl a)] st M := Iff.trans (zU_step dX7_says_30 (Or.inl rfl)) ⟨fun h => h.2, fun h => ⟨show 3 < 4 by decide, h⟩⟩
theorem rX7_says_30z {R : zP} {x0 x1 x2 x3 : Option zV} {st : List zV} {M : zM} {a : Int} : uX7_says R 30 [x0, x1, x2, x3] (.inl a :: st) M ↔ uX7_says R 31 [x0, x1, zkeep x2, some (.inl a)] st M := Iff.trans (zU_step dX7_says_30 (Or.inl rfl)) ⟨fun h => h.2, fun h => ⟨show 3 < 4 by decide, h⟩⟩
theorem dX7_says_31 : decode cX7_says 31 = .ok (.iload_n 3, 1) := by decide +kernel
theorem rX7_says_31 {R : zP} {x0 x1 x2 : Option zV} {st : List zV} {M : zM} {a : Int} : uX7_says R 31 [x0, x1, x2, some (.inl a)] st M ↔ uX7_says R 32 [x0, x1, x2, some (.inl a)] (.inl a :: st) M := zU_step dX7_says_31 (Or.inl rfl)
theorem dX7_says_32 : decode cX7_says 32 = .ok (.aload_n 0, 1) := by decide +kernel
theorem rX7_says_32 {R : zP} {x1 x2 x3 : Option zV} {st : List zV} {M : zM} {a : Nat} : uX7_says R 32 [some (.inr (.inr a)), x1, x2, x3] st M ↔ uX7_says R 33 [some (.inr (.inr a)), x1, x2, x3] (.inr (.inr a) :: st) M := zU_step dX7_says_32 (Or.inl rfl)
theorem dX7_says_33 : decode cX7_says 33 = .ok (.getfield 14, 3) := by decide +kernel
theorem rX7_says_33 {R : zP} {x0 x1 x2 x3 : Option zV} {st : List zV} {M : zM} {r : Nat} : uX7_says R 33 [x0, x1, x2, x3] (.inr (.inr r) :: st) M ↔ zgetx fX7 14 r M (fun v => uX7_says R 36 [x0, x1, x2, x3] (v :: st) M) := zU_step dX7_says_33 (Or.inl rfl)
theorem dX7_says_36 : decode cX7_says 36 = .ok (.getfield 116, 3) := by decide +kernel
theorem rX7_says_36 {R : zP} {x0 x1 x2 x3 : Option zV} {st : List zV} {M : zM} {r : Nat} : uX7_says R 36 [x0, x1, x2, x3] (.inr (.inr r) :: st) M ↔ zgetx fX7 116 r M (fun v => uX7_says R 39 [x0, x1, x2, x3] (v :: st) M) := zU_step dX7_says_36 (Or.inl rfl)
theorem dX7_says_39 : decode cX7_says 39 = .ok (.if_icmp .ge 19, 3) := by decide +kernel
theorem rX7_says_39 {R : zP} {x0 x1 x2 x3 : Option zV} {st : List zV} {M : zM} {a b : Int} : uX7_says R 39 [x0, x1, x2, x3] (.inl b :: .inl a :: st) M ↔ ((zIR a ∧ zIR b) ∧ if b ≤ a then uX7_says R 58 [x0, x1, x2, x3] st M else uX7_says R 42 [x0, x1, x2, x3] st M) := Iff.trans (zU_step dX7_says_39 (Or.inl rfl)) ⟨fun h => ⟨⟨h.1.1, h.1.2.1⟩, (zite (c := b ≤ a)).mpr h.2⟩, fun h => ⟨⟨h.1.1, h.1.2, by decide⟩, (zite (c := b ≤ a)).mp h.2⟩⟩
theorem dX7_says_42 : decode cX7_says 42 = .ok (.iload_n 2, 1) := by decide +kernel
theorem rX7_says_42 {R : zP} {x0 x1 x3 : Option zV} {st : List zV} {M : zM} {a : Int} : uX7_says R 42 [x0, x1, some (.inl a), x3] st M ↔ uX7_says R 43 [x0, x1, some (.inl a), x3] (.inl a :: st) M := zU_step dX7_says_42 (Or.inl rfl)
theorem dX7_says_43 : decode cX7_says 43 = .ok (.iload_n 3, 1) := by decide +kernel
theorem rX7_says_43 {R : zP} {x0 x1 x2 : Option zV} {st : List zV} {M : zM} {a : Int} : uX7_says R 43 [x0, x1, x2, some (.inl a)] st M ↔ uX7_says R 44 [x0, x1, x2, some (.inl a)] (.inl a :: st) M := zU_step dX7_says_43 (Or.inl rfl)
theorem dX7_says_44 : decode cX7_says 44 = .ok (.ishr, 1) := by decide +kernel
theorem rX7_says_44 {R : zP} {x0 x1 x2 x3 : Option zV} {st : List zV} {M : zM} {a b : Int} : uX7_says R 44 [x0, x1, x2, x3] (.inl b :: .inl a :: st) M ↔ uX7_says R 45 [x0, x1, x2, x3] (.inl (zshr a b) :: st) M := zU_step dX7_says_44 (Or.inl rfl)
theorem dX7_says_45 : decode cX7_says 45 = .ok (.iconst 1, 1) := by decide +kernel
theorem rX7_says_45 {R : zP} {x0 x1 x2 x3 : Option zV} {st : List zV} {M : zM} : uX7_says R 45 [x0, x1, x2, x3] st M ↔ uX7_says R 46 [x0, x1, x2, x3] (.inl (1) :: st) M := zU_step dX7_says_45 (Or.inl rfl)
theorem dX7_says_46 : decode cX7_says 46 = .ok (.iand, 1) := by decide +kernel
theorem rX7_says_46 {R : zP} {x0 x1 x2 x3 : Option zV} {st : List zV} {M : zM} {a b : Int} : uX7_says R 46 [x0, x1, x2, x3] (.inl b :: .inl a :: st) M ↔ uX7_says R 47 [x0, x1, x2, x3] (.inl (zand a b) :: st) M := zU_step dX7_says_46 (Or.inl rfl)
theorem dX7_says_47 : decode cX7_says 47 = .ok (.ifCond .ne 5, 3) := by decide +kernel
theorem rX7_says_47 {R : zP} {x0 x1 x2 x3 : Option zV} {st : List zV} {M : zM} {a : Int} : uX7_says R 47 [x0, x1, x2, x3] (.inl a :: st) M ↔ (zIR a ∧ if a ≠ 0 then uX7_says R 52 [x0, x1, x2, x3] st M else uX7_says R 50 [x0, x1, x2, x3] st M) := Iff.trans (zU_step dX7_says_47 (Or.inl rfl)) ⟨fun h => ⟨h.1.1, (zite (c := a ≠ 0)).mpr h.2⟩, fun h => ⟨⟨h.1, by decide⟩, (zite (c := a ≠ 0)).mp h.2⟩⟩
theorem dX7_says_50 : decode cX7_says 50 = .ok (.iload_n 3, 1) := by decide +kernel
theorem rX7_says_50 {R : zP} {x0 x1 x2 : Option zV} {st : List zV} {M : zM} {a : Int} : uX7_says R 50 [x0, x1, x2, some (.inl a)] st M ↔ uX7_says R 51 [x0, x1, x2, some (.inl a)] (.inl a :: st) M := zU_step dX7_says_50 (Or.inl rfl)
theorem dX7_says_51 : decode cX7_says 51 = .ok (.ireturn, 1) := by decide +kernel
theorem rX7_says_51 {R : zP} {x0 x1 x2 x3 : Option zV} {M : zM} {a : Int} : uX7_says R 51 [x0, x1, x2, x3] [.inl a] M ↔ R (some (.inl a)) M := Iff.trans (zU_step dX7_says_51 (Or.inl rfl)) ⟨fun h => h.2.2, fun h => ⟨rfl, Or.inl rfl, h⟩⟩
theorem dX7_says_52 : decode cX7_says 52 = .ok (.iinc 3 1, 3) := by decide +kernel
theorem rX7_says_52 {R : zP} {x0 x1 : Option zV} {st : List zV} {M : zM} {a : Int} {y : Int} : uX7_says R 52 [x0, x1, some (.inl y), some (.inl a)] st M ↔ uX7_says R 55 [x0, x1, some (.inl y), some (.inl (a + (1)))] st M := Iff.trans (zU_step dX7_says_52 (Or.inl rfl)) ⟨fun h => h.2, fun h => ⟨show 3 < 4 by decide, h⟩⟩
theorem rX7_says_52z {R : zP} {x0 x1 x2 : Option zV} {st : List zV} {M : zM} {a : Int} : uX7_says R 52 [x0, x1, x2, some (.inl a)] st M ↔ uX7_says R 55 [x0, x1, zkeep x2, some (.inl (a + (1)))] st M := Iff.trans (zU_step dX7_says_52 (Or.inl rfl)) ⟨fun h => h.2, fun h => ⟨show 3 < 4 by decide, h⟩⟩
theorem dX7_says_55 : decode cX7_says 55 = .ok (.goto (-24), 3) := by decide +kernel
theorem rX7_says_55 {R : zP} {x0 x1 x2 x3 : Option zV} {st : List zV} {M : zM} : uX7_says R 55 [x0, x1, x2, x3] st M ↔ uX7_says R 31 [x0, x1, x2, x3] st M := Iff.trans (zU_step dX7_says_55 (Or.inl rfl)) ⟨fun h => h.2, fun h => ⟨by decide, h⟩⟩
theorem dX7_says_58 : decode cX7_says 58 = .ok (.iconst (-1), 1) := by decide +kernel
theorem rX7_says_58 {R : zP} {x0 x1 x2 x3 : Option zV} {st : List zV} {M : zM} : uX7_says R 58 [x0, x1, x2, x3] st M ↔ uX7_says R 59 [x0, x1, x2, x3] (.inl (-1) :: st) M := zU_step dX7_says_58 (Or.inl rfl)
theorem dX7_says_59 : decode cX7_says 59 = .ok (.ireturn, 1) := by decide +kernel
theorem rX7_says_59 {R : zP} {x0 x1 x2 x3 : Option zV} {M : zM} {a : Int} : uX7_says R 59 [x0, x1, x2, x3] [.inl a] M ↔ R (some (.inl a)) M := Iff.trans (zU_step dX7_says_59 (Or.inl rfl)) ⟨fun h => h.2.2, fun h => ⟨rfl, Or.inl rfl, h⟩⟩
theorem eX7_says {R : zP} {M : zM} {a0 : Nat} {p0 : Int} : tX7_says [.inr (.inr a0), .inl p0] M R ↔ uX7_says R 0 [some (.inr (.inr a0)), some (.inl p0), none, none] [] M := ⟨fun h => h.2, fun h => ⟨show 2 ≤ 4 by decide, h⟩⟩
def uX7_weigh (R : zP) : zK := zU fX7 vX7_weigh cX7_weigh R
theorem dX7_weigh_0 : decode cX7_weigh 0 = .ok (.aload_n 0, 1) := by decide +kernel
theorem rX7_weigh_0 {R : zP} {x1 x2 x3 x4 x5 : Option zV} {st : List zV} {M : zM} {a : Nat} : uX7_weigh R 0 [some (.inr (.inr a)), x1, x2, x3, x4, x5] st M ↔ uX7_weigh R 1 [some (.inr (.inr a)), x1, x2, x3, x4, x5] (.inr (.inr a) :: st) M := zU_step dX7_weigh_0 (Or.inl rfl)
theorem dX7_weigh_1 : decode cX7_weigh 1 = .ok (.getfield 86, 3) := by decide +kernel
theorem rX7_weigh_1 {R : zP} {x0 x1 x2 x3 x4 x5 : Option zV} {st : List zV} {M : zM} {r : Nat} : uX7_weigh R 1 [x0, x1, x2, x3, x4, x5] (.inr (.inr r) :: st) M ↔ zgetx fX7 86 r M (fun v => uX7_weigh R 4 [x0, x1, x2, x3, x4, x5] (v :: st) M) := zU_step dX7_weigh_1 (Or.inl rfl)
theorem dX7_weigh_4 : decode cX7_weigh 4 = .ok (.iconst 0, 1) := by decide +kernel
theorem rX7_weigh_4 {R : zP} {x0 x1 x2 x3 x4 x5 : Option zV} {st : List zV} {M : zM} : uX7_weigh R 4 [x0, x1, x2, x3, x4, x5] st M ↔ uX7_weigh R 5 [x0, x1, x2, x3, x4, x5] (.inl (0) :: st) M := zU_step dX7_weigh_4 (Or.inl rfl)
theorem dX7_weigh_5 : decode cX7_weigh 5 = .ok (.iconst 0, 1) := by decide +kernel
theorem rX7_weigh_5 {R : zP} {x0 x1 x2 x3 x4 x5 : Option zV} {st : List zV} {M : zM} : uX7_weigh R 5 [x0, x1, x2, x3, x4, x5] st M ↔ uX7_weigh R 6 [x0, x1, x2, x3, x4, x5] (.inl (0) :: st) M := zU_step dX7_weigh_5 (Or.inl rfl)
theorem dX7_weigh_6 : decode cX7_weigh 6 = .ok (.iastore, 1) := by decide +kernel
theorem rX7_weigh_6 {R : zP} {x0 x1 x2 x3 x4 x5 : Option zV} {st : List zV} {M : zM} {i v : Int} {r : Nat} : uX7_weigh R 6 [x0, x1, x2, x3, x4, x5] (.inl v :: .inl i :: .inr (.inr r) :: st) M ↔ zwrite 0 r i (uX7_weigh R 7 [x0, x1, x2, x3, x4, x5] st (zup M r i v)) := zU_step dX7_weigh_6 (Or.inl rfl)
theorem dX7_weigh_7 : decode cX7_weigh 7 = .ok (.iconst 0, 1) := by decide +kernel
theorem rX7_weigh_7 {R : zP} {x0 x1 x2 x3 x4 x5 : Option zV} {st : List zV} {M : zM} : uX7_weigh R 7 [x0, x1, x2, x3, x4, x5] st M ↔ uX7_weigh R 8 [x0, x1, x2, x3, x4, x5] (.inl (0) :: st) M := zU_step dX7_weigh_7 (Or.inl rfl)
theorem dX7_weigh_8 : decode cX7_weigh 8 = .ok (.istore_n 2, 1) := by decide +kernel
theorem rX7_weigh_8 {R : zP} {x0 x2 x3 x4 x5 : Option zV} {st : List zV} {M : zM} {a : Int} {y : Int} : uX7_weigh R 8 [x0, some (.inl y), x2, x3, x4, x5] (.inl a :: st) M ↔ uX7_weigh R 9 [x0, some (.inl y), some (.inl a), x3, x4, x5] st M := Iff.trans (zU_step dX7_weigh_8 (Or.inl rfl)) ⟨fun h => h.2, fun h => ⟨show 2 < 6 by decide, h⟩⟩
theorem rX7_weigh_8z {R : zP} {x0 x1 x2 x3 x4 x5 : Option zV} {st : List zV} {M : zM} {a : Int} : uX7_weigh R 8 [x0, x1, x2, x3, x4, x5] (.inl a :: st) M ↔ uX7_weigh R 9 [x0, zkeep x1, some (.inl a), x3, x4, x5] st M := Iff.trans (zU_step dX7_weigh_8 (Or.inl rfl)) ⟨fun h => h.2, fun h => ⟨show 2 < 6 by decide, h⟩⟩
theorem dX7_weigh_9 : decode cX7_weigh 9 = .ok (.iload_n 2, 1) := by decide +kernel
theorem rX7_weigh_9 {R : zP} {x0 x1 x3 x4 x5 : Option zV} {st : List zV} {M : zM} {a : Int} : uX7_weigh R 9 [x0, x1, some (.inl a), x3, x4, x5] st M ↔ uX7_weigh R 10 [x0, x1, some (.inl a), x3, x4, x5] (.inl a :: st) M := zU_step dX7_weigh_9 (Or.inl rfl)
theorem dX7_weigh_10 : decode cX7_weigh 10 = .ok (.aload_n 0, 1) := by decide +kernel
theorem rX7_weigh_10 {R : zP} {x1 x2 x3 x4 x5 : Option zV} {st : List zV} {M : zM} {a : Nat} : uX7_weigh R 10 [some (.inr (.inr a)), x1, x2, x3, x4, x5] st M ↔ uX7_weigh R 11 [some (.inr (.inr a)), x1, x2, x3, x4, x5] (.inr (.inr a) :: st) M := zU_step dX7_weigh_10 (Or.inl rfl)
theorem dX7_weigh_11 : decode cX7_weigh 11 = .ok (.getfield 14, 3) := by decide +kernel
theorem rX7_weigh_11 {R : zP} {x0 x1 x2 x3 x4 x5 : Option zV} {st : List zV} {M : zM} {r : Nat} : uX7_weigh R 11 [x0, x1, x2, x3, x4, x5] (.inr (.inr r) :: st) M ↔ zgetx fX7 14 r M (fun v => uX7_weigh R 14 [x0, x1, x2, x3, x4, x5] (v :: st) M) := zU_step dX7_weigh_11 (Or.inl rfl)
theorem dX7_weigh_14 : decode cX7_weigh 14 = .ok (.getfield 116, 3) := by decide +kernel
theorem rX7_weigh_14 {R : zP} {x0 x1 x2 x3 x4 x5 : Option zV} {st : List zV} {M : zM} {r : Nat} : uX7_weigh R 14 [x0, x1, x2, x3, x4, x5] (.inr (.inr r) :: st) M ↔ zgetx fX7 116 r M (fun v => uX7_weigh R 17 [x0, x1, x2, x3, x4, x5] (v :: st) M) := zU_step dX7_weigh_14 (Or.inl rfl)
theorem dX7_weigh_17 : decode cX7_weigh 17 = .ok (.if_icmp .ge 85, 3) := by decide +kernel
theorem rX7_weigh_17 {R : zP} {x0 x1 x2 x3 x4 x5 : Option zV} {st : List zV} {M : zM} {a b : Int} : uX7_weigh R 17 [x0, x1, x2, x3, x4, x5] (.inl b :: .inl a :: st) M ↔ ((zIR a ∧ zIR b) ∧ if b ≤ a then uX7_weigh R 102 [x0, x1, x2, x3, x4, x5] st M else uX7_weigh R 20 [x0, x1, x2, x3, x4, x5] st M) := Iff.trans (zU_step dX7_weigh_17 (Or.inl rfl)) ⟨fun h => ⟨⟨h.1.1, h.1.2.1⟩, (zite (c := b ≤ a)).mpr h.2⟩, fun h => ⟨⟨h.1.1, h.1.2, by decide⟩, (zite (c := b ≤ a)).mp h.2⟩⟩
theorem dX7_weigh_20 : decode cX7_weigh 20 = .ok (.aload_n 0, 1) := by decide +kernel
theorem rX7_weigh_20 {R : zP} {x1 x2 x3 x4 x5 : Option zV} {st : List zV} {M : zM} {a : Nat} : uX7_weigh R 20 [some (.inr (.inr a)), x1, x2, x3, x4, x5] st M ↔ uX7_weigh R 21 [some (.inr (.inr a)), x1, x2, x3, x4, x5] (.inr (.inr a) :: st) M := zU_step dX7_weigh_20 (Or.inl rfl)
theorem dX7_weigh_21 : decode cX7_weigh 21 = .ok (.aload_n 0, 1) := by decide +kernel
theorem rX7_weigh_21 {R : zP} {x1 x2 x3 x4 x5 : Option zV} {st : List zV} {M : zM} {a : Nat} : uX7_weigh R 21 [some (.inr (.inr a)), x1, x2, x3, x4, x5] st M ↔ uX7_weigh R 22 [some (.inr (.inr a)), x1, x2, x3, x4, x5] (.inr (.inr a) :: st) M := zU_step dX7_weigh_21 (Or.inl rfl)
theorem dX7_weigh_22 : decode cX7_weigh 22 = .ok (.getfield 28, 3) := by decide +kernel
theorem rX7_weigh_22 {R : zP} {x0 x1 x2 x3 x4 x5 : Option zV} {st : List zV} {M : zM} {r : Nat} : uX7_weigh R 22 [x0, x1, x2, x3, x4, x5] (.inr (.inr r) :: st) M ↔ zgetx fX7 28 r M (fun v => uX7_weigh R 25 [x0, x1, x2, x3, x4, x5] (v :: st) M) := zU_step dX7_weigh_22 (Or.inl rfl)
theorem dX7_weigh_25 : decode cX7_weigh 25 = .ok (.iload_n 2, 1) := by decide +kernel
theorem rX7_weigh_25 {R : zP} {x0 x1 x3 x4 x5 : Option zV} {st : List zV} {M : zM} {a : Int} : uX7_weigh R 25 [x0, x1, some (.inl a), x3, x4, x5] st M ↔ uX7_weigh R 26 [x0, x1, some (.inl a), x3, x4, x5] (.inl a :: st) M := zU_step dX7_weigh_25 (Or.inl rfl)
theorem dX7_weigh_26 : decode cX7_weigh 26 = .ok (.bipush 19, 2) := by decide +kernel
theorem rX7_weigh_26 {R : zP} {x0 x1 x2 x3 x4 x5 : Option zV} {st : List zV} {M : zM} : uX7_weigh R 26 [x0, x1, x2, x3, x4, x5] st M ↔ uX7_weigh R 28 [x0, x1, x2, x3, x4, x5] (.inl (19) :: st) M := Iff.trans (zU_step dX7_weigh_26 (Or.inl rfl)) ⟨fun h => h.2, fun h => ⟨by decide, h⟩⟩
theorem dX7_weigh_28 : decode cX7_weigh 28 = .ok (.sipush 255, 3) := by decide +kernel
theorem rX7_weigh_28 {R : zP} {x0 x1 x2 x3 x4 x5 : Option zV} {st : List zV} {M : zM} : uX7_weigh R 28 [x0, x1, x2, x3, x4, x5] st M ↔ uX7_weigh R 31 [x0, x1, x2, x3, x4, x5] (.inl (255) :: st) M := Iff.trans (zU_step dX7_weigh_28 (Or.inl rfl)) ⟨fun h => h.2, fun h => ⟨by decide, h⟩⟩
theorem dX7_weigh_31 : decode cX7_weigh 31 = .ok (.invokevirtual 142, 3) := by decide +kernel
theorem rX7_weigh_31 {R : zP} {x0 x1 x2 x3 x4 x5 : Option zV} {st : List zV} {M : zM} {a0 a1 a2 a3 a4 : zV} : uX7_weigh R 31 [x0, x1, x2, x3, x4, x5] (a4 :: a3 :: a2 :: a1 :: a0 :: st) M ↔ (st.length ≤ 4 ∧ zcn (zv 7 tX7_raise) [a0, a1, a2, a3, a4] M (fun M => uX7_weigh R 34 [x0, x1, x2, x3, x4, x5] st M)) := Iff.trans (zU_step dX7_weigh_31 (Or.inl rfl)) ⟨fun h => ⟨h.2.1, zcn_of h.2.2⟩, fun h => ⟨rfl, h.1, zcn_to h.2⟩⟩
theorem dX7_weigh_34 : decode cX7_weigh 34 = .ok (.aload_n 0, 1) := by decide +kernel
theorem rX7_weigh_34 {R : zP} {x1 x2 x3 x4 x5 : Option zV} {st : List zV} {M : zM} {a : Nat} : uX7_weigh R 34 [some (.inr (.inr a)), x1, x2, x3, x4, x5] st M ↔ uX7_weigh R 35 [some (.inr (.inr a)), x1, x2, x3, x4, x5] (.inr (.inr a) :: st) M := zU_step dX7_weigh_34 (Or.inl rfl)
theorem dX7_weigh_35 : decode cX7_weigh 35 = .ok (.getfield 55, 3) := by decide +kernel
theorem rX7_weigh_35 {R : zP} {x0 x1 x2 x3 x4 x5 : Option zV} {st : List zV} {M : zM} {r : Nat} : uX7_weigh R 35 [x0, x1, x2, x3, x4, x5] (.inr (.inr r) :: st) M ↔ zgetx fX7 55 r M (fun v => uX7_weigh R 38 [x0, x1, x2, x3, x4, x5] (v :: st) M) := zU_step dX7_weigh_35 (Or.inl rfl)
theorem dX7_weigh_38 : decode cX7_weigh 38 = .ok (.getfield 152, 3) := by decide +kernel
theorem rX7_weigh_38 {R : zP} {x0 x1 x2 x3 x4 x5 : Option zV} {st : List zV} {M : zM} {r : Nat} : uX7_weigh R 38 [x0, x1, x2, x3, x4, x5] (.inr (.inr r) :: st) M ↔ zgetx fX7 152 r M (fun v => uX7_weigh R 41 [x0, x1, x2, x3, x4, x5] (v :: st) M) := zU_step dX7_weigh_38 (Or.inl rfl)
theorem dX7_weigh_41 : decode cX7_weigh 41 = .ok (.iload_n 1, 1) := by decide +kernel
theorem rX7_weigh_41 {R : zP} {x0 x2 x3 x4 x5 : Option zV} {st : List zV} {M : zM} {a : Int} : uX7_weigh R 41 [x0, some (.inl a), x2, x3, x4, x5] st M ↔ uX7_weigh R 42 [x0, some (.inl a), x2, x3, x4, x5] (.inl a :: st) M := zU_step dX7_weigh_41 (Or.inl rfl)
theorem dX7_weigh_42 : decode cX7_weigh 42 = .ok (.iaload, 1) := by decide +kernel
theorem rX7_weigh_42 {R : zP} {x0 x1 x2 x3 x4 x5 : Option zV} {st : List zV} {M : zM} {i : Int} {r : Nat} : uX7_weigh R 42 [x0, x1, x2, x3, x4, x5] (.inl i :: .inr (.inr r) :: st) M ↔ zread fX7 0 r M i (fun v => uX7_weigh R 43 [x0, x1, x2, x3, x4, x5] (.inl v :: st) M) := zU_step dX7_weigh_42 (Or.inl rfl)
theorem dX7_weigh_43 : decode cX7_weigh 43 = .ok (.aload_n 0, 1) := by decide +kernel
theorem rX7_weigh_43 {R : zP} {x1 x2 x3 x4 x5 : Option zV} {st : List zV} {M : zM} {a : Nat} : uX7_weigh R 43 [some (.inr (.inr a)), x1, x2, x3, x4, x5] st M ↔ uX7_weigh R 44 [some (.inr (.inr a)), x1, x2, x3, x4, x5] (.inr (.inr a) :: st) M := zU_step dX7_weigh_43 (Or.inl rfl)
theorem dX7_weigh_44 : decode cX7_weigh 44 = .ok (.getfield 55, 3) := by decide +kernel
theorem rX7_weigh_44 {R : zP} {x0 x1 x2 x3 x4 x5 : Option zV} {st : List zV} {M : zM} {r : Nat} : uX7_weigh R 44 [x0, x1, x2, x3, x4, x5] (.inr (.inr r) :: st) M ↔ zgetx fX7 55 r M (fun v => uX7_weigh R 47 [x0, x1, x2, x3, x4, x5] (v :: st) M) := zU_step dX7_weigh_44 (Or.inl rfl)
theorem dX7_weigh_47 : decode cX7_weigh 47 = .ok (.getfield 149, 3) := by decide +kernel
theorem rX7_weigh_47 {R : zP} {x0 x1 x2 x3 x4 x5 : Option zV} {st : List zV} {M : zM} {r : Nat} : uX7_weigh R 47 [x0, x1, x2, x3, x4, x5] (.inr (.inr r) :: st) M ↔ zgetx fX7 149 r M (fun v => uX7_weigh R 50 [x0, x1, x2, x3, x4, x5] (v :: st) M) := zU_step dX7_weigh_47 (Or.inl rfl)
theorem dX7_weigh_50 : decode cX7_weigh 50 = .ok (.iload_n 1, 1) := by decide +kernel
theorem rX7_weigh_50 {R : zP} {x0 x2 x3 x4 x5 : Option zV} {st : List zV} {M : zM} {a : Int} : uX7_weigh R 50 [x0, some (.inl a), x2, x3, x4, x5] st M ↔ uX7_weigh R 51 [x0, some (.inl a), x2, x3, x4, x5] (.inl a :: st) M := zU_step dX7_weigh_50 (Or.inl rfl)
theorem dX7_weigh_51 : decode cX7_weigh 51 = .ok (.iaload, 1) := by decide +kernel
theorem rX7_weigh_51 {R : zP} {x0 x1 x2 x3 x4 x5 : Option zV} {st : List zV} {M : zM} {i : Int} {r : Nat} : uX7_weigh R 51 [x0, x1, x2, x3, x4, x5] (.inl i :: .inr (.inr r) :: st) M ↔ zread fX7 0 r M i (fun v => uX7_weigh R 52 [x0, x1, x2, x3, x4, x5] (.inl v :: st) M) := zU_step dX7_weigh_51 (Or.inl rfl)
theorem dX7_weigh_52 : decode cX7_weigh 52 = .ok (.isub, 1) := by decide +kernel
theorem rX7_weigh_52 {R : zP} {x0 x1 x2 x3 x4 x5 : Option zV} {st : List zV} {M : zM} {a b : Int} : uX7_weigh R 52 [x0, x1, x2, x3, x4, x5] (.inl b :: .inl a :: st) M ↔ uX7_weigh R 53 [x0, x1, x2, x3, x4, x5] (.inl (a - b) :: st) M := zU_step dX7_weigh_52 (Or.inl rfl)
theorem dX7_weigh_53 : decode cX7_weigh 53 = .ok (.iconst 1, 1) := by decide +kernel
theorem rX7_weigh_53 {R : zP} {x0 x1 x2 x3 x4 x5 : Option zV} {st : List zV} {M : zM} : uX7_weigh R 53 [x0, x1, x2, x3, x4, x5] st M ↔ uX7_weigh R 54 [x0, x1, x2, x3, x4, x5] (.inl (1) :: st) M := zU_step dX7_weigh_53 (Or.inl rfl)
theorem dX7_weigh_54 : decode cX7_weigh 54 = .ok (.iadd, 1) := by decide +kernel
theorem rX7_weigh_54 {R : zP} {x0 x1 x2 x3 x4 x5 : Option zV} {st : List zV} {M : zM} {a b : Int} : uX7_weigh R 54 [x0, x1, x2, x3, x4, x5] (.inl b :: .inl a :: st) M ↔ uX7_weigh R 55 [x0, x1, x2, x3, x4, x5] (.inl (a + b) :: st) M := zU_step dX7_weigh_54 (Or.inl rfl)
theorem dX7_weigh_55 : decode cX7_weigh 55 = .ok (.istore_n 3, 1) := by decide +kernel
theorem rX7_weigh_55 {R : zP} {x0 x1 x3 x4 x5 : Option zV} {st : List zV} {M : zM} {a : Int} {y : Int} : uX7_weigh R 55 [x0, x1, some (.inl y), x3, x4, x5] (.inl a :: st) M ↔ uX7_weigh R 56 [x0, x1, some (.inl y), some (.inl a), x4, x5] st M := Iff.trans (zU_step dX7_weigh_55 (Or.inl rfl)) ⟨fun h => h.2, fun h => ⟨show 3 < 6 by decide, h⟩⟩
theorem rX7_weigh_55z {R : zP} {x0 x1 x2 x3 x4 x5 : Option zV} {st : List zV} {M : zM} {a : Int} : uX7_weigh R 55 [x0, x1, x2, x3, x4, x5] (.inl a :: st) M ↔ uX7_weigh R 56 [x0, x1, zkeep x2, some (.inl a), x4, x5] st M := Iff.trans (zU_step dX7_weigh_55 (Or.inl rfl)) ⟨fun h => h.2, fun h => ⟨show 3 < 6 by decide, h⟩⟩
theorem dX7_weigh_56 : decode cX7_weigh 56 = .ok (.iconst 1, 1) := by decide +kernel
theorem rX7_weigh_56 {R : zP} {x0 x1 x2 x3 x4 x5 : Option zV} {st : List zV} {M : zM} : uX7_weigh R 56 [x0, x1, x2, x3, x4, x5] st M ↔ uX7_weigh R 57 [x0, x1, x2, x3, x4, x5] (.inl (1) :: st) M := zU_step dX7_weigh_56 (Or.inl rfl)
theorem dX7_weigh_57 : decode cX7_weigh 57 = .ok (.iload_n 2, 1) := by decide +kernel
theorem rX7_weigh_57 {R : zP} {x0 x1 x3 x4 x5 : Option zV} {st : List zV} {M : zM} {a : Int} : uX7_weigh R 57 [x0, x1, some (.inl a), x3, x4, x5] st M ↔ uX7_weigh R 58 [x0, x1, some (.inl a), x3, x4, x5] (.inl a :: st) M := zU_step dX7_weigh_57 (Or.inl rfl)
theorem dX7_weigh_58 : decode cX7_weigh 58 = .ok (.ishl, 1) := by decide +kernel
theorem rX7_weigh_58 {R : zP} {x0 x1 x2 x3 x4 x5 : Option zV} {st : List zV} {M : zM} {a b : Int} : uX7_weigh R 58 [x0, x1, x2, x3, x4, x5] (.inl b :: .inl a :: st) M ↔ uX7_weigh R 59 [x0, x1, x2, x3, x4, x5] (.inl (zshl a b) :: st) M := zU_step dX7_weigh_58 (Or.inl rfl)
theorem dX7_weigh_59 : decode cX7_weigh 59 = .ok (.istore 4, 2) := by decide +kernel
theorem rX7_weigh_59 {R : zP} {x0 x1 x2 x4 x5 : Option zV} {st : List zV} {M : zM} {a : Int} {y : Int} : uX7_weigh R 59 [x0, x1, x2, some (.inl y), x4, x5] (.inl a :: st) M ↔ uX7_weigh R 61 [x0, x1, x2, some (.inl y), some (.inl a), x5] st M := Iff.trans (zU_step dX7_weigh_59 (Or.inl rfl)) ⟨fun h => h.2, fun h => ⟨show 4 < 6 by decide, h⟩⟩
theorem rX7_weigh_59z {R : zP} {x0 x1 x2 x3 x4 x5 : Option zV} {st : List zV} {M : zM} {a : Int} : uX7_weigh R 59 [x0, x1, x2, x3, x4, x5] (.inl a :: st) M ↔ uX7_weigh R 61 [x0, x1, x2, zkeep x3, some (.inl a), x5] st M := Iff.trans (zU_step dX7_weigh_59 (Or.inl rfl)) ⟨fun h => h.2, fun h => ⟨show 4 < 6 by decide, h⟩⟩
theorem dX7_weigh_61 : decode cX7_weigh 61 = .ok (.iconst 0, 1) := by decide +kernel
theorem rX7_weigh_61 {R : zP} {x0 x1 x2 x3 x4 x5 : Option zV} {st : List zV} {M : zM} : uX7_weigh R 61 [x0, x1, x2, x3, x4, x5] st M ↔ uX7_weigh R 62 [x0, x1, x2, x3, x4, x5] (.inl (0) :: st) M := zU_step dX7_weigh_61 (Or.inl rfl)
theorem dX7_weigh_62 : decode cX7_weigh 62 = .ok (.istore 5, 2) := by decide +kernel
theorem rX7_weigh_62 {R : zP} {x0 x1 x2 x3 x5 : Option zV} {st : List zV} {M : zM} {a : Int} {y : Int} : uX7_weigh R 62 [x0, x1, x2, x3, some (.inl y), x5] (.inl a :: st) M ↔ uX7_weigh R 64 [x0, x1, x2, x3, some (.inl y), some (.inl a)] st M := Iff.trans (zU_step dX7_weigh_62 (Or.inl rfl)) ⟨fun h => h.2, fun h => ⟨show 5 < 6 by decide, h⟩⟩
theorem rX7_weigh_62z {R : zP} {x0 x1 x2 x3 x4 x5 : Option zV} {st : List zV} {M : zM} {a : Int} : uX7_weigh R 62 [x0, x1, x2, x3, x4, x5] (.inl a :: st) M ↔ uX7_weigh R 64 [x0, x1, x2, x3, zkeep x4, some (.inl a)] st M := Iff.trans (zU_step dX7_weigh_62 (Or.inl rfl)) ⟨fun h => h.2, fun h => ⟨show 5 < 6 by decide, h⟩⟩
theorem dX7_weigh_64 : decode cX7_weigh 64 = .ok (.iload 5, 2) := by decide +kernel
theorem rX7_weigh_64 {R : zP} {x0 x1 x2 x3 x4 : Option zV} {st : List zV} {M : zM} {a : Int} : uX7_weigh R 64 [x0, x1, x2, x3, x4, some (.inl a)] st M ↔ uX7_weigh R 66 [x0, x1, x2, x3, x4, some (.inl a)] (.inl a :: st) M := zU_step dX7_weigh_64 (Or.inl rfl)
theorem dX7_weigh_66 : decode cX7_weigh 66 = .ok (.iload 4, 2) := by decide +kernel
theorem rX7_weigh_66 {R : zP} {x0 x1 x2 x3 x5 : Option zV} {st : List zV} {M : zM} {a : Int} : uX7_weigh R 66 [x0, x1, x2, x3, some (.inl a), x5] st M ↔ uX7_weigh R 68 [x0, x1, x2, x3, some (.inl a), x5] (.inl a :: st) M := zU_step dX7_weigh_66 (Or.inl rfl)
theorem dX7_weigh_68 : decode cX7_weigh 68 = .ok (.if_icmp .ge 28, 3) := by decide +kernel
theorem rX7_weigh_68 {R : zP} {x0 x1 x2 x3 x4 x5 : Option zV} {st : List zV} {M : zM} {a b : Int} : uX7_weigh R 68 [x0, x1, x2, x3, x4, x5] (.inl b :: .inl a :: st) M ↔ ((zIR a ∧ zIR b) ∧ if b ≤ a then uX7_weigh R 96 [x0, x1, x2, x3, x4, x5] st M else uX7_weigh R 71 [x0, x1, x2, x3, x4, x5] st M) := Iff.trans (zU_step dX7_weigh_68 (Or.inl rfl)) ⟨fun h => ⟨⟨h.1.1, h.1.2.1⟩, (zite (c := b ≤ a)).mpr h.2⟩, fun h => ⟨⟨h.1.1, h.1.2, by decide⟩, (zite (c := b ≤ a)).mp h.2⟩⟩
theorem dX7_weigh_71 : decode cX7_weigh 71 = .ok (.aload_n 0, 1) := by decide +kernel
theorem rX7_weigh_71 {R : zP} {x1 x2 x3 x4 x5 : Option zV} {st : List zV} {M : zM} {a : Nat} : uX7_weigh R 71 [some (.inr (.inr a)), x1, x2, x3, x4, x5] st M ↔ uX7_weigh R 72 [some (.inr (.inr a)), x1, x2, x3, x4, x5] (.inr (.inr a) :: st) M := zU_step dX7_weigh_71 (Or.inl rfl)
theorem dX7_weigh_72 : decode cX7_weigh 72 = .ok (.getfield 86, 3) := by decide +kernel
theorem rX7_weigh_72 {R : zP} {x0 x1 x2 x3 x4 x5 : Option zV} {st : List zV} {M : zM} {r : Nat} : uX7_weigh R 72 [x0, x1, x2, x3, x4, x5] (.inr (.inr r) :: st) M ↔ zgetx fX7 86 r M (fun v => uX7_weigh R 75 [x0, x1, x2, x3, x4, x5] (v :: st) M) := zU_step dX7_weigh_72 (Or.inl rfl)
theorem dX7_weigh_75 : decode cX7_weigh 75 = .ok (.iload 5, 2) := by decide +kernel
theorem rX7_weigh_75 {R : zP} {x0 x1 x2 x3 x4 : Option zV} {st : List zV} {M : zM} {a : Int} : uX7_weigh R 75 [x0, x1, x2, x3, x4, some (.inl a)] st M ↔ uX7_weigh R 77 [x0, x1, x2, x3, x4, some (.inl a)] (.inl a :: st) M := zU_step dX7_weigh_75 (Or.inl rfl)
theorem dX7_weigh_77 : decode cX7_weigh 77 = .ok (.iload 4, 2) := by decide +kernel
theorem rX7_weigh_77 {R : zP} {x0 x1 x2 x3 x5 : Option zV} {st : List zV} {M : zM} {a : Int} : uX7_weigh R 77 [x0, x1, x2, x3, some (.inl a), x5] st M ↔ uX7_weigh R 79 [x0, x1, x2, x3, some (.inl a), x5] (.inl a :: st) M := zU_step dX7_weigh_77 (Or.inl rfl)
theorem dX7_weigh_79 : decode cX7_weigh 79 = .ok (.iadd, 1) := by decide +kernel
theorem rX7_weigh_79 {R : zP} {x0 x1 x2 x3 x4 x5 : Option zV} {st : List zV} {M : zM} {a b : Int} : uX7_weigh R 79 [x0, x1, x2, x3, x4, x5] (.inl b :: .inl a :: st) M ↔ uX7_weigh R 80 [x0, x1, x2, x3, x4, x5] (.inl (a + b) :: st) M := zU_step dX7_weigh_79 (Or.inl rfl)
theorem dX7_weigh_80 : decode cX7_weigh 80 = .ok (.aload_n 0, 1) := by decide +kernel
theorem rX7_weigh_80 {R : zP} {x1 x2 x3 x4 x5 : Option zV} {st : List zV} {M : zM} {a : Nat} : uX7_weigh R 80 [some (.inr (.inr a)), x1, x2, x3, x4, x5] st M ↔ uX7_weigh R 81 [some (.inr (.inr a)), x1, x2, x3, x4, x5] (.inr (.inr a) :: st) M := zU_step dX7_weigh_80 (Or.inl rfl)
theorem dX7_weigh_81 : decode cX7_weigh 81 = .ok (.getfield 86, 3) := by decide +kernel
theorem rX7_weigh_81 {R : zP} {x0 x1 x2 x3 x4 x5 : Option zV} {st : List zV} {M : zM} {r : Nat} : uX7_weigh R 81 [x0, x1, x2, x3, x4, x5] (.inr (.inr r) :: st) M ↔ zgetx fX7 86 r M (fun v => uX7_weigh R 84 [x0, x1, x2, x3, x4, x5] (v :: st) M) := zU_step dX7_weigh_81 (Or.inl rfl)
theorem dX7_weigh_84 : decode cX7_weigh 84 = .ok (.iload 5, 2) := by decide +kernel
theorem rX7_weigh_84 {R : zP} {x0 x1 x2 x3 x4 : Option zV} {st : List zV} {M : zM} {a : Int} : uX7_weigh R 84 [x0, x1, x2, x3, x4, some (.inl a)] st M ↔ uX7_weigh R 86 [x0, x1, x2, x3, x4, some (.inl a)] (.inl a :: st) M := zU_step dX7_weigh_84 (Or.inl rfl)
theorem dX7_weigh_86 : decode cX7_weigh 86 = .ok (.iaload, 1) := by decide +kernel
theorem rX7_weigh_86 {R : zP} {x0 x1 x2 x3 x4 x5 : Option zV} {st : List zV} {M : zM} {i : Int} {r : Nat} : uX7_weigh R 86 [x0, x1, x2, x3, x4, x5] (.inl i :: .inr (.inr r) :: st) M ↔ zread fX7 0 r M i (fun v => uX7_weigh R 87 [x0, x1, x2, x3, x4, x5] (.inl v :: st) M) := zU_step dX7_weigh_86 (Or.inl rfl)
theorem dX7_weigh_87 : decode cX7_weigh 87 = .ok (.iload_n 3, 1) := by decide +kernel
theorem rX7_weigh_87 {R : zP} {x0 x1 x2 x4 x5 : Option zV} {st : List zV} {M : zM} {a : Int} : uX7_weigh R 87 [x0, x1, x2, some (.inl a), x4, x5] st M ↔ uX7_weigh R 88 [x0, x1, x2, some (.inl a), x4, x5] (.inl a :: st) M := zU_step dX7_weigh_87 (Or.inl rfl)
theorem dX7_weigh_88 : decode cX7_weigh 88 = .ok (.iadd, 1) := by decide +kernel
theorem rX7_weigh_88 {R : zP} {x0 x1 x2 x3 x4 x5 : Option zV} {st : List zV} {M : zM} {a b : Int} : uX7_weigh R 88 [x0, x1, x2, x3, x4, x5] (.inl b :: .inl a :: st) M ↔ uX7_weigh R 89 [x0, x1, x2, x3, x4, x5] (.inl (a + b) :: st) M := zU_step dX7_weigh_88 (Or.inl rfl)
theorem dX7_weigh_89 : decode cX7_weigh 89 = .ok (.iastore, 1) := by decide +kernel
theorem rX7_weigh_89 {R : zP} {x0 x1 x2 x3 x4 x5 : Option zV} {st : List zV} {M : zM} {i v : Int} {r : Nat} : uX7_weigh R 89 [x0, x1, x2, x3, x4, x5] (.inl v :: .inl i :: .inr (.inr r) :: st) M ↔ zwrite 0 r i (uX7_weigh R 90 [x0, x1, x2, x3, x4, x5] st (zup M r i v)) := zU_step dX7_weigh_89 (Or.inl rfl)
theorem dX7_weigh_90 : decode cX7_weigh 90 = .ok (.iinc 5 1, 3) := by decide +kernel
theorem rX7_weigh_90 {R : zP} {x0 x1 x2 x3 : Option zV} {st : List zV} {M : zM} {a : Int} {y : Int} : uX7_weigh R 90 [x0, x1, x2, x3, some (.inl y), some (.inl a)] st M ↔ uX7_weigh R 93 [x0, x1, x2, x3, some (.inl y), some (.inl (a + (1)))] st M := Iff.trans (zU_step dX7_weigh_90 (Or.inl rfl)) ⟨fun h => h.2, fun h => ⟨show 5 < 6 by decide, h⟩⟩
theorem rX7_weigh_90z {R : zP} {x0 x1 x2 x3 x4 : Option zV} {st : List zV} {M : zM} {a : Int} : uX7_weigh R 90 [x0, x1, x2, x3, x4, some (.inl a)] st M ↔ uX7_weigh R 93 [x0, x1, x2, x3, zkeep x4, some (.inl (a + (1)))] st M := Iff.trans (zU_step dX7_weigh_90 (Or.inl rfl)) ⟨fun h => h.2, fun h => ⟨show 5 < 6 by decide, h⟩⟩
theorem dX7_weigh_93 : decode cX7_weigh 93 = .ok (.goto (-29), 3) := by decide +kernel
theorem rX7_weigh_93 {R : zP} {x0 x1 x2 x3 x4 x5 : Option zV} {st : List zV} {M : zM} : uX7_weigh R 93 [x0, x1, x2, x3, x4, x5] st M ↔ uX7_weigh R 64 [x0, x1, x2, x3, x4, x5] st M := Iff.trans (zU_step dX7_weigh_93 (Or.inl rfl)) ⟨fun h => h.2, fun h => ⟨by decide, h⟩⟩
theorem dX7_weigh_96 : decode cX7_weigh 96 = .ok (.iinc 2 1, 3) := by decide +kernel
theorem rX7_weigh_96 {R : zP} {x0 x3 x4 x5 : Option zV} {st : List zV} {M : zM} {a : Int} {y : Int} : uX7_weigh R 96 [x0, some (.inl y), some (.inl a), x3, x4, x5] st M ↔ uX7_weigh R 99 [x0, some (.inl y), some (.inl (a + (1))), x3, x4, x5] st M := Iff.trans (zU_step dX7_weigh_96 (Or.inl rfl)) ⟨fun h => h.2, fun h => ⟨show 2 < 6 by decide, h⟩⟩
theorem rX7_weigh_96z {R : zP} {x0 x1 x3 x4 x5 : Option zV} {st : List zV} {M : zM} {a : Int} : uX7_weigh R 96 [x0, x1, some (.inl a), x3, x4, x5] st M ↔ uX7_weigh R 99 [x0, zkeep x1, some (.inl (a + (1))), x3, x4, x5] st M := Iff.trans (zU_step dX7_weigh_96 (Or.inl rfl)) ⟨fun h => h.2, fun h => ⟨show 2 < 6 by decide, h⟩⟩
theorem dX7_weigh_99 : decode cX7_weigh 99 = .ok (.goto (-90), 3) := by decide +kernel
theorem rX7_weigh_99 {R : zP} {x0 x1 x2 x3 x4 x5 : Option zV} {st : List zV} {M : zM} : uX7_weigh R 99 [x0, x1, x2, x3, x4, x5] st M ↔ uX7_weigh R 9 [x0, x1, x2, x3, x4, x5] st M := Iff.trans (zU_step dX7_weigh_99 (Or.inl rfl)) ⟨fun h => h.2, fun h => ⟨by decide, h⟩⟩
theorem dX7_weigh_102 : decode cX7_weigh 102 = .ok (.return_, 1) := by decide +kernel
theorem rX7_weigh_102 {R : zP} {x0 x1 x2 x3 x4 x5 : Option zV} {M : zM} : uX7_weigh R 102 [x0, x1, x2, x3, x4, x5] [] M ↔ R none M := Iff.trans (zU_step dX7_weigh_102 (Or.inl rfl)) ⟨fun h => h.2.2, fun h => ⟨rfl, rfl, h⟩⟩
theorem eX7_weigh {R : zP} {M : zM} {a0 : Nat} {p0 : Int} : tX7_weigh [.inr (.inr a0), .inl p0] M R ↔ uX7_weigh R 0 [some (.inr (.inr a0)), some (.inl p0), none, none, none, none] [] M := ⟨fun h => h.2, fun h => ⟨show 2 ≤ 6 by decide, h⟩⟩
def uX7_turningRows (R : zP) : zK := zU fX7 vX7_turningRows cX7_turningRows R
theorem dX7_turningRows_0 : decode cX7_turningRows 0 = .ok (.aload_n 0, 1) := by decide +kernel
theorem rX7_turningRows_0 {R : zP} {x1 x2 x3 x4 x5 x6 x7 x8 x9 : Option zV} {st : List zV} {M : zM} {a : Nat} : uX7_turningRows R 0 [some (.inr (.inr a)), x1, x2, x3, x4, x5, x6, x7, x8, x9] st M ↔ uX7_turningRows R 1 [some (.inr (.inr a)), x1, x2, x3, x4, x5, x6, x7, x8, x9] (.inr (.inr a) :: st) M := zU_step dX7_turningRows_0 (Or.inl rfl)
theorem dX7_turningRows_1 : decode cX7_turningRows 1 = .ok (.getfield 14, 3) := by decide +kernel
theorem rX7_turningRows_1 {R : zP} {x0 x1 x2 x3 x4 x5 x6 x7 x8 x9 : Option zV} {st : List zV} {M : zM} {r : Nat} : uX7_turningRows R 1 [x0, x1, x2, x3, x4, x5, x6, x7, x8, x9] (.inr (.inr r) :: st) M ↔ zgetx fX7 14 r M (fun v => uX7_turningRows R 4 [x0, x1, x2, x3, x4, x5, x6, x7, x8, x9] (v :: st) M) := zU_step dX7_turningRows_1 (Or.inl rfl)
theorem dX7_turningRows_4 : decode cX7_turningRows 4 = .ok (.getfield 116, 3) := by decide +kernel
theorem rX7_turningRows_4 {R : zP} {x0 x1 x2 x3 x4 x5 x6 x7 x8 x9 : Option zV} {st : List zV} {M : zM} {r : Nat} : uX7_turningRows R 4 [x0, x1, x2, x3, x4, x5, x6, x7, x8, x9] (.inr (.inr r) :: st) M ↔ zgetx fX7 116 r M (fun v => uX7_turningRows R 7 [x0, x1, x2, x3, x4, x5, x6, x7, x8, x9] (v :: st) M) := zU_step dX7_turningRows_4 (Or.inl rfl)
theorem dX7_turningRows_7 : decode cX7_turningRows 7 = .ok (.istore_n 2, 1) := by decide +kernel
theorem rX7_turningRows_7 {R : zP} {x0 x2 x3 x4 x5 x6 x7 x8 x9 : Option zV} {st : List zV} {M : zM} {a : Int} {y : Int} : uX7_turningRows R 7 [x0, some (.inl y), x2, x3, x4, x5, x6, x7, x8, x9] (.inl a :: st) M ↔ uX7_turningRows R 8 [x0, some (.inl y), some (.inl a), x3, x4, x5, x6, x7, x8, x9] st M := Iff.trans (zU_step dX7_turningRows_7 (Or.inl rfl)) ⟨fun h => h.2, fun h => ⟨show 2 < 10 by decide, h⟩⟩
theorem rX7_turningRows_7z {R : zP} {x0 x1 x2 x3 x4 x5 x6 x7 x8 x9 : Option zV} {st : List zV} {M : zM} {a : Int} : uX7_turningRows R 7 [x0, x1, x2, x3, x4, x5, x6, x7, x8, x9] (.inl a :: st) M ↔ uX7_turningRows R 8 [x0, zkeep x1, some (.inl a), x3, x4, x5, x6, x7, x8, x9] st M := Iff.trans (zU_step dX7_turningRows_7 (Or.inl rfl)) ⟨fun h => h.2, fun h => ⟨show 2 < 10 by decide, h⟩⟩
theorem dX7_turningRows_8 : decode cX7_turningRows 8 = .ok (.iconst 1, 1) := by decide +kernel
theorem rX7_turningRows_8 {R : zP} {x0 x1 x2 x3 x4 x5 x6 x7 x8 x9 : Option zV} {st : List zV} {M : zM} : uX7_turningRows R 8 [x0, x1, x2, x3, x4, x5, x6, x7, x8, x9] st M ↔ uX7_turningRows R 9 [x0, x1, x2, x3, x4, x5, x6, x7, x8, x9] (.inl (1) :: st) M := zU_step dX7_turningRows_8 (Or.inl rfl)
theorem dX7_turningRows_9 : decode cX7_turningRows 9 = .ok (.iload_n 2, 1) := by decide +kernel
theorem rX7_turningRows_9 {R : zP} {x0 x1 x3 x4 x5 x6 x7 x8 x9 : Option zV} {st : List zV} {M : zM} {a : Int} : uX7_turningRows R 9 [x0, x1, some (.inl a), x3, x4, x5, x6, x7, x8, x9] st M ↔ uX7_turningRows R 10 [x0, x1, some (.inl a), x3, x4, x5, x6, x7, x8, x9] (.inl a :: st) M := zU_step dX7_turningRows_9 (Or.inl rfl)
theorem dX7_turningRows_10 : decode cX7_turningRows 10 = .ok (.ishl, 1) := by decide +kernel
theorem rX7_turningRows_10 {R : zP} {x0 x1 x2 x3 x4 x5 x6 x7 x8 x9 : Option zV} {st : List zV} {M : zM} {a b : Int} : uX7_turningRows R 10 [x0, x1, x2, x3, x4, x5, x6, x7, x8, x9] (.inl b :: .inl a :: st) M ↔ uX7_turningRows R 11 [x0, x1, x2, x3, x4, x5, x6, x7, x8, x9] (.inl (zshl a b) :: st) M := zU_step dX7_turningRows_10 (Or.inl rfl)
theorem dX7_turningRows_11 : decode cX7_turningRows 11 = .ok (.istore_n 3, 1) := by decide +kernel
theorem rX7_turningRows_11 {R : zP} {x0 x1 x3 x4 x5 x6 x7 x8 x9 : Option zV} {st : List zV} {M : zM} {a : Int} {y : Int} : uX7_turningRows R 11 [x0, x1, some (.inl y), x3, x4, x5, x6, x7, x8, x9] (.inl a :: st) M ↔ uX7_turningRows R 12 [x0, x1, some (.inl y), some (.inl a), x4, x5, x6, x7, x8, x9] st M := Iff.trans (zU_step dX7_turningRows_11 (Or.inl rfl)) ⟨fun h => h.2, fun h => ⟨show 3 < 10 by decide, h⟩⟩
theorem rX7_turningRows_11z {R : zP} {x0 x1 x2 x3 x4 x5 x6 x7 x8 x9 : Option zV} {st : List zV} {M : zM} {a : Int} : uX7_turningRows R 11 [x0, x1, x2, x3, x4, x5, x6, x7, x8, x9] (.inl a :: st) M ↔ uX7_turningRows R 12 [x0, x1, zkeep x2, some (.inl a), x4, x5, x6, x7, x8, x9] st M := Iff.trans (zU_step dX7_turningRows_11 (Or.inl rfl)) ⟨fun h => h.2, fun h => ⟨show 3 < 10 by decide, h⟩⟩
theorem dX7_turningRows_12 : decode cX7_turningRows 12 = .ok (.aload_n 0, 1) := by decide +kernel
theorem rX7_turningRows_12 {R : zP} {x1 x2 x3 x4 x5 x6 x7 x8 x9 : Option zV} {st : List zV} {M : zM} {a : Nat} : uX7_turningRows R 12 [some (.inr (.inr a)), x1, x2, x3, x4, x5, x6, x7, x8, x9] st M ↔ uX7_turningRows R 13 [some (.inr (.inr a)), x1, x2, x3, x4, x5, x6, x7, x8, x9] (.inr (.inr a) :: st) M := zU_step dX7_turningRows_12 (Or.inl rfl)
theorem dX7_turningRows_13 : decode cX7_turningRows 13 = .ok (.getfield 86, 3) := by decide +kernel
theorem rX7_turningRows_13 {R : zP} {x0 x1 x2 x3 x4 x5 x6 x7 x8 x9 : Option zV} {st : List zV} {M : zM} {r : Nat} : uX7_turningRows R 13 [x0, x1, x2, x3, x4, x5, x6, x7, x8, x9] (.inr (.inr r) :: st) M ↔ zgetx fX7 86 r M (fun v => uX7_turningRows R 16 [x0, x1, x2, x3, x4, x5, x6, x7, x8, x9] (v :: st) M) := zU_step dX7_turningRows_13 (Or.inl rfl)
theorem dX7_turningRows_16 : decode cX7_turningRows 16 = .ok (.iload_n 3, 1) := by decide +kernel
theorem rX7_turningRows_16 {R : zP} {x0 x1 x2 x4 x5 x6 x7 x8 x9 : Option zV} {st : List zV} {M : zM} {a : Int} : uX7_turningRows R 16 [x0, x1, x2, some (.inl a), x4, x5, x6, x7, x8, x9] st M ↔ uX7_turningRows R 17 [x0, x1, x2, some (.inl a), x4, x5, x6, x7, x8, x9] (.inl a :: st) M := zU_step dX7_turningRows_16 (Or.inl rfl)
theorem dX7_turningRows_17 : decode cX7_turningRows 17 = .ok (.iconst 1, 1) := by decide +kernel
theorem rX7_turningRows_17 {R : zP} {x0 x1 x2 x3 x4 x5 x6 x7 x8 x9 : Option zV} {st : List zV} {M : zM} : uX7_turningRows R 17 [x0, x1, x2, x3, x4, x5, x6, x7, x8, x9] st M ↔ uX7_turningRows R 18 [x0, x1, x2, x3, x4, x5, x6, x7, x8, x9] (.inl (1) :: st) M := zU_step dX7_turningRows_17 (Or.inl rfl)
theorem dX7_turningRows_18 : decode cX7_turningRows 18 = .ok (.isub, 1) := by decide +kernel
theorem rX7_turningRows_18 {R : zP} {x0 x1 x2 x3 x4 x5 x6 x7 x8 x9 : Option zV} {st : List zV} {M : zM} {a b : Int} : uX7_turningRows R 18 [x0, x1, x2, x3, x4, x5, x6, x7, x8, x9] (.inl b :: .inl a :: st) M ↔ uX7_turningRows R 19 [x0, x1, x2, x3, x4, x5, x6, x7, x8, x9] (.inl (a - b) :: st) M := zU_step dX7_turningRows_18 (Or.inl rfl)
theorem dX7_turningRows_19 : decode cX7_turningRows 19 = .ok (.iaload, 1) := by decide +kernel
theorem rX7_turningRows_19 {R : zP} {x0 x1 x2 x3 x4 x5 x6 x7 x8 x9 : Option zV} {st : List zV} {M : zM} {i : Int} {r : Nat} : uX7_turningRows R 19 [x0, x1, x2, x3, x4, x5, x6, x7, x8, x9] (.inl i :: .inr (.inr r) :: st) M ↔ zread fX7 0 r M i (fun v => uX7_turningRows R 20 [x0, x1, x2, x3, x4, x5, x6, x7, x8, x9] (.inl v :: st) M) := zU_step dX7_turningRows_19 (Or.inl rfl)
theorem dX7_turningRows_20 : decode cX7_turningRows 20 = .ok (.istore 4, 2) := by decide +kernel
theorem rX7_turningRows_20 {R : zP} {x0 x1 x2 x4 x5 x6 x7 x8 x9 : Option zV} {st : List zV} {M : zM} {a : Int} {y : Int} : uX7_turningRows R 20 [x0, x1, x2, some (.inl y), x4, x5, x6, x7, x8, x9] (.inl a :: st) M ↔ uX7_turningRows R 22 [x0, x1, x2, some (.inl y), some (.inl a), x5, x6, x7, x8, x9] st M := Iff.trans (zU_step dX7_turningRows_20 (Or.inl rfl)) ⟨fun h => h.2, fun h => ⟨show 4 < 10 by decide, h⟩⟩
theorem rX7_turningRows_20z {R : zP} {x0 x1 x2 x3 x4 x5 x6 x7 x8 x9 : Option zV} {st : List zV} {M : zM} {a : Int} : uX7_turningRows R 20 [x0, x1, x2, x3, x4, x5, x6, x7, x8, x9] (.inl a :: st) M ↔ uX7_turningRows R 22 [x0, x1, x2, zkeep x3, some (.inl a), x5, x6, x7, x8, x9] st M := Iff.trans (zU_step dX7_turningRows_20 (Or.inl rfl)) ⟨fun h => h.2, fun h => ⟨show 4 < 10 by decide, h⟩⟩
theorem dX7_turningRows_22 : decode cX7_turningRows 22 = .ok (.iconst 1, 1) := by decide +kernel
theorem rX7_turningRows_22 {R : zP} {x0 x1 x2 x3 x4 x5 x6 x7 x8 x9 : Option zV} {st : List zV} {M : zM} : uX7_turningRows R 22 [x0, x1, x2, x3, x4, x5, x6, x7, x8, x9] st M ↔ uX7_turningRows R 23 [x0, x1, x2, x3, x4, x5, x6, x7, x8, x9] (.inl (1) :: st) M := zU_step dX7_turningRows_22 (Or.inl rfl)
theorem dX7_turningRows_23 : decode cX7_turningRows 23 = .ok (.iload_n 1, 1) := by decide +kernel
theorem rX7_turningRows_23 {R : zP} {x0 x2 x3 x4 x5 x6 x7 x8 x9 : Option zV} {st : List zV} {M : zM} {a : Int} : uX7_turningRows R 23 [x0, some (.inl a), x2, x3, x4, x5, x6, x7, x8, x9] st M ↔ uX7_turningRows R 24 [x0, some (.inl a), x2, x3, x4, x5, x6, x7, x8, x9] (.inl a :: st) M := zU_step dX7_turningRows_23 (Or.inl rfl)
theorem dX7_turningRows_24 : decode cX7_turningRows 24 = .ok (.ishl, 1) := by decide +kernel
theorem rX7_turningRows_24 {R : zP} {x0 x1 x2 x3 x4 x5 x6 x7 x8 x9 : Option zV} {st : List zV} {M : zM} {a b : Int} : uX7_turningRows R 24 [x0, x1, x2, x3, x4, x5, x6, x7, x8, x9] (.inl b :: .inl a :: st) M ↔ uX7_turningRows R 25 [x0, x1, x2, x3, x4, x5, x6, x7, x8, x9] (.inl (zshl a b) :: st) M := zU_step dX7_turningRows_24 (Or.inl rfl)
theorem dX7_turningRows_25 : decode cX7_turningRows 25 = .ok (.istore 5, 2) := by decide +kernel
theorem rX7_turningRows_25 {R : zP} {x0 x1 x2 x3 x5 x6 x7 x8 x9 : Option zV} {st : List zV} {M : zM} {a : Int} {y : Int} : uX7_turningRows R 25 [x0, x1, x2, x3, some (.inl y), x5, x6, x7, x8, x9] (.inl a :: st) M ↔ uX7_turningRows R 27 [x0, x1, x2, x3, some (.inl y), some (.inl a), x6, x7, x8, x9] st M := Iff.trans (zU_step dX7_turningRows_25 (Or.inl rfl)) ⟨fun h => h.2, fun h => ⟨show 5 < 10 by decide, h⟩⟩
theorem rX7_turningRows_25z {R : zP} {x0 x1 x2 x3 x4 x5 x6 x7 x8 x9 : Option zV} {st : List zV} {M : zM} {a : Int} : uX7_turningRows R 25 [x0, x1, x2, x3, x4, x5, x6, x7, x8, x9] (.inl a :: st) M ↔ uX7_turningRows R 27 [x0, x1, x2, x3, zkeep x4, some (.inl a), x6, x7, x8, x9] st M := Iff.trans (zU_step dX7_turningRows_25 (Or.inl rfl)) ⟨fun h => h.2, fun h => ⟨show 5 < 10 by decide, h⟩⟩
theorem dX7_turningRows_27 : decode cX7_turningRows 27 = .ok (.lconst 0, 1) := by decide +kernel
theorem rX7_turningRows_27 {R : zP} {x0 x1 x2 x3 x4 x5 x6 x7 x8 x9 : Option zV} {st : List zV} {M : zM} : uX7_turningRows R 27 [x0, x1, x2, x3, x4, x5, x6, x7, x8, x9] st M ↔ uX7_turningRows R 28 [x0, x1, x2, x3, x4, x5, x6, x7, x8, x9] (.inr (.inl 0) :: st) M := zU_step dX7_turningRows_27 (Or.inl rfl)
theorem dX7_turningRows_28 : decode cX7_turningRows 28 = .ok (.lstore 6, 2) := by decide +kernel
theorem rX7_turningRows_28 {R : zP} {x0 x1 x2 x3 x4 x6 x7 x8 x9 : Option zV} {st : List zV} {M : zM} {a : Int} {y : Int} : uX7_turningRows R 28 [x0, x1, x2, x3, x4, some (.inl y), x6, x7, x8, x9] (.inr (.inl a) :: st) M ↔ uX7_turningRows R 30 [x0, x1, x2, x3, x4, some (.inl y), some (.inr (.inl a)), none, x8, x9] st M := Iff.trans (zU_step dX7_turningRows_28 (Or.inl rfl)) ⟨fun h => h.2, fun h => ⟨show 6 + 1 < 10 by decide, h⟩⟩
theorem rX7_turningRows_28z {R : zP} {x0 x1 x2 x3 x4 x5 x6 x7 x8 x9 : Option zV} {st : List zV} {M : zM} {a : Int} : uX7_turningRows R 28 [x0, x1, x2, x3, x4, x5, x6, x7, x8, x9] (.inr (.inl a) :: st) M ↔ uX7_turningRows R 30 [x0, x1, x2, x3, x4, zkeep x5, some (.inr (.inl a)), none, x8, x9] st M := Iff.trans (zU_step dX7_turningRows_28 (Or.inl rfl)) ⟨fun h => h.2, fun h => ⟨show 6 + 1 < 10 by decide, h⟩⟩
theorem dX7_turningRows_30 : decode cX7_turningRows 30 = .ok (.iconst 0, 1) := by decide +kernel
theorem rX7_turningRows_30 {R : zP} {x0 x1 x2 x3 x4 x5 x6 x7 x8 x9 : Option zV} {st : List zV} {M : zM} : uX7_turningRows R 30 [x0, x1, x2, x3, x4, x5, x6, x7, x8, x9] st M ↔ uX7_turningRows R 31 [x0, x1, x2, x3, x4, x5, x6, x7, x8, x9] (.inl (0) :: st) M := zU_step dX7_turningRows_30 (Or.inl rfl)
theorem dX7_turningRows_31 : decode cX7_turningRows 31 = .ok (.istore 8, 2) := by decide +kernel
theorem rX7_turningRows_31 {R : zP} {x0 x1 x2 x3 x4 x5 x6 x8 x9 : Option zV} {st : List zV} {M : zM} {a : Int} : uX7_turningRows R 31 [x0, x1, x2, x3, x4, x5, x6, none, x8, x9] (.inl a :: st) M ↔ uX7_turningRows R 33 [x0, x1, x2, x3, x4, x5, x6, none, some (.inl a), x9] st M := Iff.trans (zU_step dX7_turningRows_31 (Or.inl rfl)) ⟨fun h => h.2, fun h => ⟨show 8 < 10 by decide, h⟩⟩
theorem rX7_turningRows_31z {R : zP} {x0 x1 x2 x3 x4 x5 x6 x7 x8 x9 : Option zV} {st : List zV} {M : zM} {a : Int} : uX7_turningRows R 31 [x0, x1, x2, x3, x4, x5, x6, x7, x8, x9] (.inl a :: st) M ↔ uX7_turningRows R 33 [x0, x1, x2, x3, x4, x5, x6, zkeep x7, some (.inl a), x9] st M := Iff.trans (zU_step dX7_turningRows_31 (Or.inl rfl)) ⟨fun h => h.2, fun h => ⟨show 8 < 10 by decide, h⟩⟩
theorem dX7_turningRows_33 : decode cX7_turningRows 33 = .ok (.iload 8, 2) := by decide +kernel
theorem rX7_turningRows_33 {R : zP} {x0 x1 x2 x3 x4 x5 x6 x7 x9 : Option zV} {st : List zV} {M : zM} {a : Int} : uX7_turningRows R 33 [x0, x1, x2, x3, x4, x5, x6, x7, some (.inl a), x9] st M ↔ uX7_turningRows R 35 [x0, x1, x2, x3, x4, x5, x6, x7, some (.inl a), x9] (.inl a :: st) M := zU_step dX7_turningRows_33 (Or.inl rfl)
theorem dX7_turningRows_35 : decode cX7_turningRows 35 = .ok (.iload_n 3, 1) := by decide +kernel
theorem rX7_turningRows_35 {R : zP} {x0 x1 x2 x4 x5 x6 x7 x8 x9 : Option zV} {st : List zV} {M : zM} {a : Int} : uX7_turningRows R 35 [x0, x1, x2, some (.inl a), x4, x5, x6, x7, x8, x9] st M ↔ uX7_turningRows R 36 [x0, x1, x2, some (.inl a), x4, x5, x6, x7, x8, x9] (.inl a :: st) M := zU_step dX7_turningRows_35 (Or.inl rfl)
theorem dX7_turningRows_36 : decode cX7_turningRows 36 = .ok (.if_icmp .ge 79, 3) := by decide +kernel
theorem rX7_turningRows_36 {R : zP} {x0 x1 x2 x3 x4 x5 x6 x7 x8 x9 : Option zV} {st : List zV} {M : zM} {a b : Int} : uX7_turningRows R 36 [x0, x1, x2, x3, x4, x5, x6, x7, x8, x9] (.inl b :: .inl a :: st) M ↔ ((zIR a ∧ zIR b) ∧ if b ≤ a then uX7_turningRows R 115 [x0, x1, x2, x3, x4, x5, x6, x7, x8, x9] st M else uX7_turningRows R 39 [x0, x1, x2, x3, x4, x5, x6, x7, x8, x9] st M) := Iff.trans (zU_step dX7_turningRows_36 (Or.inl rfl)) ⟨fun h => ⟨⟨h.1.1, h.1.2.1⟩, (zite (c := b ≤ a)).mpr h.2⟩, fun h => ⟨⟨h.1.1, h.1.2, by decide⟩, (zite (c := b ≤ a)).mp h.2⟩⟩
theorem dX7_turningRows_39 : decode cX7_turningRows 39 = .ok (.iload 8, 2) := by decide +kernel
theorem rX7_turningRows_39 {R : zP} {x0 x1 x2 x3 x4 x5 x6 x7 x9 : Option zV} {st : List zV} {M : zM} {a : Int} : uX7_turningRows R 39 [x0, x1, x2, x3, x4, x5, x6, x7, some (.inl a), x9] st M ↔ uX7_turningRows R 41 [x0, x1, x2, x3, x4, x5, x6, x7, some (.inl a), x9] (.inl a :: st) M := zU_step dX7_turningRows_39 (Or.inl rfl)
theorem dX7_turningRows_41 : decode cX7_turningRows 41 = .ok (.iload 5, 2) := by decide +kernel
theorem rX7_turningRows_41 {R : zP} {x0 x1 x2 x3 x4 x6 x7 x8 x9 : Option zV} {st : List zV} {M : zM} {a : Int} : uX7_turningRows R 41 [x0, x1, x2, x3, x4, some (.inl a), x6, x7, x8, x9] st M ↔ uX7_turningRows R 43 [x0, x1, x2, x3, x4, some (.inl a), x6, x7, x8, x9] (.inl a :: st) M := zU_step dX7_turningRows_41 (Or.inl rfl)
theorem dX7_turningRows_43 : decode cX7_turningRows 43 = .ok (.iand, 1) := by decide +kernel
theorem rX7_turningRows_43 {R : zP} {x0 x1 x2 x3 x4 x5 x6 x7 x8 x9 : Option zV} {st : List zV} {M : zM} {a b : Int} : uX7_turningRows R 43 [x0, x1, x2, x3, x4, x5, x6, x7, x8, x9] (.inl b :: .inl a :: st) M ↔ uX7_turningRows R 44 [x0, x1, x2, x3, x4, x5, x6, x7, x8, x9] (.inl (zand a b) :: st) M := zU_step dX7_turningRows_43 (Or.inl rfl)
theorem dX7_turningRows_44 : decode cX7_turningRows 44 = .ok (.ifCond .ne 65, 3) := by decide +kernel
theorem rX7_turningRows_44 {R : zP} {x0 x1 x2 x3 x4 x5 x6 x7 x8 x9 : Option zV} {st : List zV} {M : zM} {a : Int} : uX7_turningRows R 44 [x0, x1, x2, x3, x4, x5, x6, x7, x8, x9] (.inl a :: st) M ↔ (zIR a ∧ if a ≠ 0 then uX7_turningRows R 109 [x0, x1, x2, x3, x4, x5, x6, x7, x8, x9] st M else uX7_turningRows R 47 [x0, x1, x2, x3, x4, x5, x6, x7, x8, x9] st M) := Iff.trans (zU_step dX7_turningRows_44 (Or.inl rfl)) ⟨fun h => ⟨h.1.1, (zite (c := a ≠ 0)).mpr h.2⟩, fun h => ⟨⟨h.1, by decide⟩, (zite (c := a ≠ 0)).mp h.2⟩⟩
theorem dX7_turningRows_47 : decode cX7_turningRows 47 = .ok (.iconst 2, 1) := by decide +kernel
theorem rX7_turningRows_47 {R : zP} {x0 x1 x2 x3 x4 x5 x6 x7 x8 x9 : Option zV} {st : List zV} {M : zM} : uX7_turningRows R 47 [x0, x1, x2, x3, x4, x5, x6, x7, x8, x9] st M ↔ uX7_turningRows R 48 [x0, x1, x2, x3, x4, x5, x6, x7, x8, x9] (.inl (2) :: st) M := zU_step dX7_turningRows_47 (Or.inl rfl)
theorem dX7_turningRows_48 : decode cX7_turningRows 48 = .ok (.aload_n 0, 1) := by decide +kernel
theorem rX7_turningRows_48 {R : zP} {x1 x2 x3 x4 x5 x6 x7 x8 x9 : Option zV} {st : List zV} {M : zM} {a : Nat} : uX7_turningRows R 48 [some (.inr (.inr a)), x1, x2, x3, x4, x5, x6, x7, x8, x9] st M ↔ uX7_turningRows R 49 [some (.inr (.inr a)), x1, x2, x3, x4, x5, x6, x7, x8, x9] (.inr (.inr a) :: st) M := zU_step dX7_turningRows_48 (Or.inl rfl)
theorem dX7_turningRows_49 : decode cX7_turningRows 49 = .ok (.getfield 86, 3) := by decide +kernel
theorem rX7_turningRows_49 {R : zP} {x0 x1 x2 x3 x4 x5 x6 x7 x8 x9 : Option zV} {st : List zV} {M : zM} {r : Nat} : uX7_turningRows R 49 [x0, x1, x2, x3, x4, x5, x6, x7, x8, x9] (.inr (.inr r) :: st) M ↔ zgetx fX7 86 r M (fun v => uX7_turningRows R 52 [x0, x1, x2, x3, x4, x5, x6, x7, x8, x9] (v :: st) M) := zU_step dX7_turningRows_49 (Or.inl rfl)
theorem dX7_turningRows_52 : decode cX7_turningRows 52 = .ok (.iload 8, 2) := by decide +kernel
theorem rX7_turningRows_52 {R : zP} {x0 x1 x2 x3 x4 x5 x6 x7 x9 : Option zV} {st : List zV} {M : zM} {a : Int} : uX7_turningRows R 52 [x0, x1, x2, x3, x4, x5, x6, x7, some (.inl a), x9] st M ↔ uX7_turningRows R 54 [x0, x1, x2, x3, x4, x5, x6, x7, some (.inl a), x9] (.inl a :: st) M := zU_step dX7_turningRows_52 (Or.inl rfl)
theorem dX7_turningRows_54 : decode cX7_turningRows 54 = .ok (.iaload, 1) := by decide +kernel
theorem rX7_turningRows_54 {R : zP} {x0 x1 x2 x3 x4 x5 x6 x7 x8 x9 : Option zV} {st : List zV} {M : zM} {i : Int} {r : Nat} : uX7_turningRows R 54 [x0, x1, x2, x3, x4, x5, x6, x7, x8, x9] (.inl i :: .inr (.inr r) :: st) M ↔ zread fX7 0 r M i (fun v => uX7_turningRows R 55 [x0, x1, x2, x3, x4, x5, x6, x7, x8, x9] (.inl v :: st) M) := zU_step dX7_turningRows_54 (Or.inl rfl)
theorem dX7_turningRows_55 : decode cX7_turningRows 55 = .ok (.imul, 1) := by decide +kernel
theorem rX7_turningRows_55 {R : zP} {x0 x1 x2 x3 x4 x5 x6 x7 x8 x9 : Option zV} {st : List zV} {M : zM} {a b : Int} : uX7_turningRows R 55 [x0, x1, x2, x3, x4, x5, x6, x7, x8, x9] (.inl b :: .inl a :: st) M ↔ uX7_turningRows R 56 [x0, x1, x2, x3, x4, x5, x6, x7, x8, x9] (.inl (a * b) :: st) M := zU_step dX7_turningRows_55 (Or.inl rfl)
theorem dX7_turningRows_56 : decode cX7_turningRows 56 = .ok (.iload 4, 2) := by decide +kernel
theorem rX7_turningRows_56 {R : zP} {x0 x1 x2 x3 x5 x6 x7 x8 x9 : Option zV} {st : List zV} {M : zM} {a : Int} : uX7_turningRows R 56 [x0, x1, x2, x3, some (.inl a), x5, x6, x7, x8, x9] st M ↔ uX7_turningRows R 58 [x0, x1, x2, x3, some (.inl a), x5, x6, x7, x8, x9] (.inl a :: st) M := zU_step dX7_turningRows_56 (Or.inl rfl)
theorem dX7_turningRows_58 : decode cX7_turningRows 58 = .ok (.if_icmp .gt 51, 3) := by decide +kernel
theorem rX7_turningRows_58 {R : zP} {x0 x1 x2 x3 x4 x5 x6 x7 x8 x9 : Option zV} {st : List zV} {M : zM} {a b : Int} : uX7_turningRows R 58 [x0, x1, x2, x3, x4, x5, x6, x7, x8, x9] (.inl b :: .inl a :: st) M ↔ ((zIR a ∧ zIR b) ∧ if b < a then uX7_turningRows R 109 [x0, x1, x2, x3, x4, x5, x6, x7, x8, x9] st M else uX7_turningRows R 61 [x0, x1, x2, x3, x4, x5, x6, x7, x8, x9] st M) := Iff.trans (zU_step dX7_turningRows_58 (Or.inl rfl)) ⟨fun h => ⟨⟨h.1.1, h.1.2.1⟩, (zite (c := b < a)).mpr h.2⟩, fun h => ⟨⟨h.1.1, h.1.2, by decide⟩, (zite (c := b < a)).mp h.2⟩⟩
theorem dX7_turningRows_61 : decode cX7_turningRows 61 = .ok (.iconst 2, 1) := by decide +kernel
theorem rX7_turningRows_61 {R : zP} {x0 x1 x2 x3 x4 x5 x6 x7 x8 x9 : Option zV} {st : List zV} {M : zM} : uX7_turningRows R 61 [x0, x1, x2, x3, x4, x5, x6, x7, x8, x9] st M ↔ uX7_turningRows R 62 [x0, x1, x2, x3, x4, x5, x6, x7, x8, x9] (.inl (2) :: st) M := zU_step dX7_turningRows_61 (Or.inl rfl)
theorem dX7_turningRows_62 : decode cX7_turningRows 62 = .ok (.aload_n 0, 1) := by decide +kernel
theorem rX7_turningRows_62 {R : zP} {x1 x2 x3 x4 x5 x6 x7 x8 x9 : Option zV} {st : List zV} {M : zM} {a : Nat} : uX7_turningRows R 62 [some (.inr (.inr a)), x1, x2, x3, x4, x5, x6, x7, x8, x9] st M ↔ uX7_turningRows R 63 [some (.inr (.inr a)), x1, x2, x3, x4, x5, x6, x7, x8, x9] (.inr (.inr a) :: st) M := zU_step dX7_turningRows_62 (Or.inl rfl)
theorem dX7_turningRows_63 : decode cX7_turningRows 63 = .ok (.getfield 86, 3) := by decide +kernel
theorem rX7_turningRows_63 {R : zP} {x0 x1 x2 x3 x4 x5 x6 x7 x8 x9 : Option zV} {st : List zV} {M : zM} {r : Nat} : uX7_turningRows R 63 [x0, x1, x2, x3, x4, x5, x6, x7, x8, x9] (.inr (.inr r) :: st) M ↔ zgetx fX7 86 r M (fun v => uX7_turningRows R 66 [x0, x1, x2, x3, x4, x5, x6, x7, x8, x9] (v :: st) M) := zU_step dX7_turningRows_63 (Or.inl rfl)
theorem dX7_turningRows_66 : decode cX7_turningRows 66 = .ok (.iload 8, 2) := by decide +kernel
theorem rX7_turningRows_66 {R : zP} {x0 x1 x2 x3 x4 x5 x6 x7 x9 : Option zV} {st : List zV} {M : zM} {a : Int} : uX7_turningRows R 66 [x0, x1, x2, x3, x4, x5, x6, x7, some (.inl a), x9] st M ↔ uX7_turningRows R 68 [x0, x1, x2, x3, x4, x5, x6, x7, some (.inl a), x9] (.inl a :: st) M := zU_step dX7_turningRows_66 (Or.inl rfl)
theorem dX7_turningRows_68 : decode cX7_turningRows 68 = .ok (.iload 5, 2) := by decide +kernel
theorem rX7_turningRows_68 {R : zP} {x0 x1 x2 x3 x4 x6 x7 x8 x9 : Option zV} {st : List zV} {M : zM} {a : Int} : uX7_turningRows R 68 [x0, x1, x2, x3, x4, some (.inl a), x6, x7, x8, x9] st M ↔ uX7_turningRows R 70 [x0, x1, x2, x3, x4, some (.inl a), x6, x7, x8, x9] (.inl a :: st) M := zU_step dX7_turningRows_68 (Or.inl rfl)
theorem dX7_turningRows_70 : decode cX7_turningRows 70 = .ok (.ior, 1) := by decide +kernel
theorem rX7_turningRows_70 {R : zP} {x0 x1 x2 x3 x4 x5 x6 x7 x8 x9 : Option zV} {st : List zV} {M : zM} {a b : Int} : uX7_turningRows R 70 [x0, x1, x2, x3, x4, x5, x6, x7, x8, x9] (.inl b :: .inl a :: st) M ↔ uX7_turningRows R 71 [x0, x1, x2, x3, x4, x5, x6, x7, x8, x9] (.inl (zor a b) :: st) M := zU_step dX7_turningRows_70 (Or.inl rfl)
theorem dX7_turningRows_71 : decode cX7_turningRows 71 = .ok (.iaload, 1) := by decide +kernel
theorem rX7_turningRows_71 {R : zP} {x0 x1 x2 x3 x4 x5 x6 x7 x8 x9 : Option zV} {st : List zV} {M : zM} {i : Int} {r : Nat} : uX7_turningRows R 71 [x0, x1, x2, x3, x4, x5, x6, x7, x8, x9] (.inl i :: .inr (.inr r) :: st) M ↔ zread fX7 0 r M i (fun v => uX7_turningRows R 72 [x0, x1, x2, x3, x4, x5, x6, x7, x8, x9] (.inl v :: st) M) := zU_step dX7_turningRows_71 (Or.inl rfl)
theorem dX7_turningRows_72 : decode cX7_turningRows 72 = .ok (.imul, 1) := by decide +kernel
theorem rX7_turningRows_72 {R : zP} {x0 x1 x2 x3 x4 x5 x6 x7 x8 x9 : Option zV} {st : List zV} {M : zM} {a b : Int} : uX7_turningRows R 72 [x0, x1, x2, x3, x4, x5, x6, x7, x8, x9] (.inl b :: .inl a :: st) M ↔ uX7_turningRows R 73 [x0, x1, x2, x3, x4, x5, x6, x7, x8, x9] (.inl (a * b) :: st) M := zU_step dX7_turningRows_72 (Or.inl rfl)
theorem dX7_turningRows_73 : decode cX7_turningRows 73 = .ok (.iload 4, 2) := by decide +kernel
theorem rX7_turningRows_73 {R : zP} {x0 x1 x2 x3 x5 x6 x7 x8 x9 : Option zV} {st : List zV} {M : zM} {a : Int} : uX7_turningRows R 73 [x0, x1, x2, x3, some (.inl a), x5, x6, x7, x8, x9] st M ↔ uX7_turningRows R 75 [x0, x1, x2, x3, some (.inl a), x5, x6, x7, x8, x9] (.inl a :: st) M := zU_step dX7_turningRows_73 (Or.inl rfl)
theorem dX7_turningRows_75 : decode cX7_turningRows 75 = .ok (.if_icmp .le 34, 3) := by decide +kernel
theorem rX7_turningRows_75 {R : zP} {x0 x1 x2 x3 x4 x5 x6 x7 x8 x9 : Option zV} {st : List zV} {M : zM} {a b : Int} : uX7_turningRows R 75 [x0, x1, x2, x3, x4, x5, x6, x7, x8, x9] (.inl b :: .inl a :: st) M ↔ ((zIR a ∧ zIR b) ∧ if a ≤ b then uX7_turningRows R 109 [x0, x1, x2, x3, x4, x5, x6, x7, x8, x9] st M else uX7_turningRows R 78 [x0, x1, x2, x3, x4, x5, x6, x7, x8, x9] st M) := Iff.trans (zU_step dX7_turningRows_75 (Or.inl rfl)) ⟨fun h => ⟨⟨h.1.1, h.1.2.1⟩, (zite (c := a ≤ b)).mpr h.2⟩, fun h => ⟨⟨h.1.1, h.1.2, by decide⟩, (zite (c := a ≤ b)).mp h.2⟩⟩
theorem dX7_turningRows_78 : decode cX7_turningRows 78 = .ok (.iload 8, 2) := by decide +kernel
theorem rX7_turningRows_78 {R : zP} {x0 x1 x2 x3 x4 x5 x6 x7 x9 : Option zV} {st : List zV} {M : zM} {a : Int} : uX7_turningRows R 78 [x0, x1, x2, x3, x4, x5, x6, x7, some (.inl a), x9] st M ↔ uX7_turningRows R 80 [x0, x1, x2, x3, x4, x5, x6, x7, some (.inl a), x9] (.inl a :: st) M := zU_step dX7_turningRows_78 (Or.inl rfl)
theorem dX7_turningRows_80 : decode cX7_turningRows 80 = .ok (.invokestatic 173, 3) := by decide +kernel
theorem rX7_turningRows_80 {R : zP} {x0 x1 x2 x3 x4 x5 x6 x7 x8 x9 : Option zV} {st : List zV} {M : zM} {a0 : zV} : uX7_turningRows R 80 [x0, x1, x2, x3, x4, x5, x6, x7, x8, x9] (a0 :: st) M ↔ (st.length ≤ 4 ∧ zcv tJ6_bitCount_0f7a4 [a0] M (fun v M => uX7_turningRows R 83 [x0, x1, x2, x3, x4, x5, x6, x7, x8, x9] (v :: st) M)) := Iff.trans (zU_step dX7_turningRows_80 (Or.inl rfl)) ⟨fun h => ⟨h.2.1, zcv_of h.2.2⟩, fun h => ⟨rfl, h.1, zcv_to h.2⟩⟩
theorem dX7_turningRows_83 : decode cX7_turningRows 83 = .ok (.istore 9, 2) := by decide +kernel
theorem rX7_turningRows_83 {R : zP} {x0 x1 x2 x3 x4 x5 x6 x7 x9 : Option zV} {st : List zV} {M : zM} {a : Int} {y : Int} : uX7_turningRows R 83 [x0, x1, x2, x3, x4, x5, x6, x7, some (.inl y), x9] (.inl a :: st) M ↔ uX7_turningRows R 85 [x0, x1, x2, x3, x4, x5, x6, x7, some (.inl y), some (.inl a)] st M := Iff.trans (zU_step dX7_turningRows_83 (Or.inl rfl)) ⟨fun h => h.2, fun h => ⟨show 9 < 10 by decide, h⟩⟩
theorem rX7_turningRows_83z {R : zP} {x0 x1 x2 x3 x4 x5 x6 x7 x8 x9 : Option zV} {st : List zV} {M : zM} {a : Int} : uX7_turningRows R 83 [x0, x1, x2, x3, x4, x5, x6, x7, x8, x9] (.inl a :: st) M ↔ uX7_turningRows R 85 [x0, x1, x2, x3, x4, x5, x6, x7, zkeep x8, some (.inl a)] st M := Iff.trans (zU_step dX7_turningRows_83 (Or.inl rfl)) ⟨fun h => h.2, fun h => ⟨show 9 < 10 by decide, h⟩⟩
theorem dX7_turningRows_85 : decode cX7_turningRows 85 = .ok (.lload 6, 2) := by decide +kernel
theorem rX7_turningRows_85 {R : zP} {x0 x1 x2 x3 x4 x5 x7 x8 x9 : Option zV} {st : List zV} {M : zM} {a : Int} : uX7_turningRows R 85 [x0, x1, x2, x3, x4, x5, some (.inr (.inl a)), x7, x8, x9] st M ↔ uX7_turningRows R 87 [x0, x1, x2, x3, x4, x5, some (.inr (.inl a)), x7, x8, x9] (.inr (.inl a) :: st) M := zU_step dX7_turningRows_85 (Or.inl rfl)
theorem dX7_turningRows_87 : decode cX7_turningRows 87 = .ok (.getstatic 207, 3) := by decide +kernel
theorem rX7_turningRows_87 {R : zP} {x0 x1 x2 x3 x4 x5 x6 x7 x8 x9 : Option zV} {st : List zV} {M : zM} : uX7_turningRows R 87 [x0, x1, x2, x3, x4, x5, x6, x7, x8, x9] st M ↔ zopt (zFs fX7 207) (fun v => uX7_turningRows R 90 [x0, x1, x2, x3, x4, x5, x6, x7, x8, x9] (v :: st) M) := zU_step dX7_turningRows_87 (Or.inl rfl)
theorem dX7_turningRows_90 : decode cX7_turningRows 90 = .ok (.iload 9, 2) := by decide +kernel
theorem rX7_turningRows_90 {R : zP} {x0 x1 x2 x3 x4 x5 x6 x7 x8 : Option zV} {st : List zV} {M : zM} {a : Int} : uX7_turningRows R 90 [x0, x1, x2, x3, x4, x5, x6, x7, x8, some (.inl a)] st M ↔ uX7_turningRows R 92 [x0, x1, x2, x3, x4, x5, x6, x7, x8, some (.inl a)] (.inl a :: st) M := zU_step dX7_turningRows_90 (Or.inl rfl)
theorem dX7_turningRows_92 : decode cX7_turningRows 92 = .ok (.iaload, 1) := by decide +kernel
theorem rX7_turningRows_92 {R : zP} {x0 x1 x2 x3 x4 x5 x6 x7 x8 x9 : Option zV} {st : List zV} {M : zM} {i : Int} {r : Nat} : uX7_turningRows R 92 [x0, x1, x2, x3, x4, x5, x6, x7, x8, x9] (.inl i :: .inr (.inr r) :: st) M ↔ zread fX7 0 r M i (fun v => uX7_turningRows R 93 [x0, x1, x2, x3, x4, x5, x6, x7, x8, x9] (.inl v :: st) M) := zU_step dX7_turningRows_92 (Or.inl rfl)
theorem dX7_turningRows_93 : decode cX7_turningRows 93 = .ok (.i2l, 1) := by decide +kernel
theorem rX7_turningRows_93 {R : zP} {x0 x1 x2 x3 x4 x5 x6 x7 x8 x9 : Option zV} {st : List zV} {M : zM} {a : Int} : uX7_turningRows R 93 [x0, x1, x2, x3, x4, x5, x6, x7, x8, x9] (.inl a :: st) M ↔ (zIR a ∧ uX7_turningRows R 94 [x0, x1, x2, x3, x4, x5, x6, x7, x8, x9] (.inr (.inl a) :: st) M) := zU_step dX7_turningRows_93 (Or.inl rfl)
theorem dX7_turningRows_94 : decode cX7_turningRows 94 = .ok (.getstatic 207, 3) := by decide +kernel
theorem rX7_turningRows_94 {R : zP} {x0 x1 x2 x3 x4 x5 x6 x7 x8 x9 : Option zV} {st : List zV} {M : zM} : uX7_turningRows R 94 [x0, x1, x2, x3, x4, x5, x6, x7, x8, x9] st M ↔ zopt (zFs fX7 207) (fun v => uX7_turningRows R 97 [x0, x1, x2, x3, x4, x5, x6, x7, x8, x9] (v :: st) M) := zU_step dX7_turningRows_94 (Or.inl rfl)
theorem dX7_turningRows_97 : decode cX7_turningRows 97 = .ok (.iload_n 2, 1) := by decide +kernel
theorem rX7_turningRows_97 {R : zP} {x0 x1 x3 x4 x5 x6 x7 x8 x9 : Option zV} {st : List zV} {M : zM} {a : Int} : uX7_turningRows R 97 [x0, x1, some (.inl a), x3, x4, x5, x6, x7, x8, x9] st M ↔ uX7_turningRows R 98 [x0, x1, some (.inl a), x3, x4, x5, x6, x7, x8, x9] (.inl a :: st) M := zU_step dX7_turningRows_97 (Or.inl rfl)
theorem dX7_turningRows_98 : decode cX7_turningRows 98 = .ok (.iconst 1, 1) := by decide +kernel
theorem rX7_turningRows_98 {R : zP} {x0 x1 x2 x3 x4 x5 x6 x7 x8 x9 : Option zV} {st : List zV} {M : zM} : uX7_turningRows R 98 [x0, x1, x2, x3, x4, x5, x6, x7, x8, x9] st M ↔ uX7_turningRows R 99 [x0, x1, x2, x3, x4, x5, x6, x7, x8, x9] (.inl (1) :: st) M := zU_step dX7_turningRows_98 (Or.inl rfl)
theorem dX7_turningRows_99 : decode cX7_turningRows 99 = .ok (.isub, 1) := by decide +kernel
theorem rX7_turningRows_99 {R : zP} {x0 x1 x2 x3 x4 x5 x6 x7 x8 x9 : Option zV} {st : List zV} {M : zM} {a b : Int} : uX7_turningRows R 99 [x0, x1, x2, x3, x4, x5, x6, x7, x8, x9] (.inl b :: .inl a :: st) M ↔ uX7_turningRows R 100 [x0, x1, x2, x3, x4, x5, x6, x7, x8, x9] (.inl (a - b) :: st) M := zU_step dX7_turningRows_99 (Or.inl rfl)
theorem dX7_turningRows_100 : decode cX7_turningRows 100 = .ok (.iload 9, 2) := by decide +kernel
theorem rX7_turningRows_100 {R : zP} {x0 x1 x2 x3 x4 x5 x6 x7 x8 : Option zV} {st : List zV} {M : zM} {a : Int} : uX7_turningRows R 100 [x0, x1, x2, x3, x4, x5, x6, x7, x8, some (.inl a)] st M ↔ uX7_turningRows R 102 [x0, x1, x2, x3, x4, x5, x6, x7, x8, some (.inl a)] (.inl a :: st) M := zU_step dX7_turningRows_100 (Or.inl rfl)
theorem dX7_turningRows_102 : decode cX7_turningRows 102 = .ok (.isub, 1) := by decide +kernel
theorem rX7_turningRows_102 {R : zP} {x0 x1 x2 x3 x4 x5 x6 x7 x8 x9 : Option zV} {st : List zV} {M : zM} {a b : Int} : uX7_turningRows R 102 [x0, x1, x2, x3, x4, x5, x6, x7, x8, x9] (.inl b :: .inl a :: st) M ↔ uX7_turningRows R 103 [x0, x1, x2, x3, x4, x5, x6, x7, x8, x9] (.inl (a - b) :: st) M := zU_step dX7_turningRows_102 (Or.inl rfl)
theorem dX7_turningRows_103 : decode cX7_turningRows 103 = .ok (.iaload, 1) := by decide +kernel
theorem rX7_turningRows_103 {R : zP} {x0 x1 x2 x3 x4 x5 x6 x7 x8 x9 : Option zV} {st : List zV} {M : zM} {i : Int} {r : Nat} : uX7_turningRows R 103 [x0, x1, x2, x3, x4, x5, x6, x7, x8, x9] (.inl i :: .inr (.inr r) :: st) M ↔ zread fX7 0 r M i (fun v => uX7_turningRows R 104 [x0, x1, x2, x3, x4, x5, x6, x7, x8, x9] (.inl v :: st) M) := zU_step dX7_turningRows_103 (Or.inl rfl)
theorem dX7_turningRows_104 : decode cX7_turningRows 104 = .ok (.i2l, 1) := by decide +kernel
theorem rX7_turningRows_104 {R : zP} {x0 x1 x2 x3 x4 x5 x6 x7 x8 x9 : Option zV} {st : List zV} {M : zM} {a : Int} : uX7_turningRows R 104 [x0, x1, x2, x3, x4, x5, x6, x7, x8, x9] (.inl a :: st) M ↔ (zIR a ∧ uX7_turningRows R 105 [x0, x1, x2, x3, x4, x5, x6, x7, x8, x9] (.inr (.inl a) :: st) M) := zU_step dX7_turningRows_104 (Or.inl rfl)
theorem dX7_turningRows_105 : decode cX7_turningRows 105 = .ok (.lmul, 1) := by decide +kernel
theorem rX7_turningRows_105 {R : zP} {x0 x1 x2 x3 x4 x5 x6 x7 x8 x9 : Option zV} {st : List zV} {M : zM} {a b : Int} : uX7_turningRows R 105 [x0, x1, x2, x3, x4, x5, x6, x7, x8, x9] (.inr (.inl b) :: .inr (.inl a) :: st) M ↔ uX7_turningRows R 106 [x0, x1, x2, x3, x4, x5, x6, x7, x8, x9] (.inr (.inl (a * b)) :: st) M := zU_step dX7_turningRows_105 (Or.inl rfl)
theorem dX7_turningRows_106 : decode cX7_turningRows 106 = .ok (.ladd, 1) := by decide +kernel
theorem rX7_turningRows_106 {R : zP} {x0 x1 x2 x3 x4 x5 x6 x7 x8 x9 : Option zV} {st : List zV} {M : zM} {a b : Int} : uX7_turningRows R 106 [x0, x1, x2, x3, x4, x5, x6, x7, x8, x9] (.inr (.inl b) :: .inr (.inl a) :: st) M ↔ uX7_turningRows R 107 [x0, x1, x2, x3, x4, x5, x6, x7, x8, x9] (.inr (.inl (a + b)) :: st) M := zU_step dX7_turningRows_106 (Or.inl rfl)
theorem dX7_turningRows_107 : decode cX7_turningRows 107 = .ok (.lstore 6, 2) := by decide +kernel
theorem rX7_turningRows_107 {R : zP} {x0 x1 x2 x3 x4 x6 x7 x8 x9 : Option zV} {st : List zV} {M : zM} {a : Int} {y : Int} : uX7_turningRows R 107 [x0, x1, x2, x3, x4, some (.inl y), x6, x7, x8, x9] (.inr (.inl a) :: st) M ↔ uX7_turningRows R 109 [x0, x1, x2, x3, x4, some (.inl y), some (.inr (.inl a)), none, x8, x9] st M := Iff.trans (zU_step dX7_turningRows_107 (Or.inl rfl)) ⟨fun h => h.2, fun h => ⟨show 6 + 1 < 10 by decide, h⟩⟩
theorem rX7_turningRows_107z {R : zP} {x0 x1 x2 x3 x4 x5 x6 x7 x8 x9 : Option zV} {st : List zV} {M : zM} {a : Int} : uX7_turningRows R 107 [x0, x1, x2, x3, x4, x5, x6, x7, x8, x9] (.inr (.inl a) :: st) M ↔ uX7_turningRows R 109 [x0, x1, x2, x3, x4, zkeep x5, some (.inr (.inl a)), none, x8, x9] st M := Iff.trans (zU_step dX7_turningRows_107 (Or.inl rfl)) ⟨fun h => h.2, fun h => ⟨show 6 + 1 < 10 by decide, h⟩⟩
theorem dX7_turningRows_109 : decode cX7_turningRows 109 = .ok (.iinc 8 1, 3) := by decide +kernel
theorem rX7_turningRows_109 {R : zP} {x0 x1 x2 x3 x4 x5 x6 x9 : Option zV} {st : List zV} {M : zM} {a : Int} : uX7_turningRows R 109 [x0, x1, x2, x3, x4, x5, x6, none, some (.inl a), x9] st M ↔ uX7_turningRows R 112 [x0, x1, x2, x3, x4, x5, x6, none, some (.inl (a + (1))), x9] st M := Iff.trans (zU_step dX7_turningRows_109 (Or.inl rfl)) ⟨fun h => h.2, fun h => ⟨show 8 < 10 by decide, h⟩⟩
theorem rX7_turningRows_109z {R : zP} {x0 x1 x2 x3 x4 x5 x6 x7 x9 : Option zV} {st : List zV} {M : zM} {a : Int} : uX7_turningRows R 109 [x0, x1, x2, x3, x4, x5, x6, x7, some (.inl a), x9] st M ↔ uX7_turningRows R 112 [x0, x1, x2, x3, x4, x5, x6, zkeep x7, some (.inl (a + (1))), x9] st M := Iff.trans (zU_step dX7_turningRows_109 (Or.inl rfl)) ⟨fun h => h.2, fun h => ⟨show 8 < 10 by decide, h⟩⟩
theorem dX7_turningRows_112 : decode cX7_turningRows 112 = .ok (.goto (-79), 3) := by decide +kernel
theorem rX7_turningRows_112 {R : zP} {x0 x1 x2 x3 x4 x5 x6 x7 x8 x9 : Option zV} {st : List zV} {M : zM} : uX7_turningRows R 112 [x0, x1, x2, x3, x4, x5, x6, x7, x8, x9] st M ↔ uX7_turningRows R 33 [x0, x1, x2, x3, x4, x5, x6, x7, x8, x9] st M := Iff.trans (zU_step dX7_turningRows_112 (Or.inl rfl)) ⟨fun h => h.2, fun h => ⟨by decide, h⟩⟩
theorem dX7_turningRows_115 : decode cX7_turningRows 115 = .ok (.lload 6, 2) := by decide +kernel
theorem rX7_turningRows_115 {R : zP} {x0 x1 x2 x3 x4 x5 x7 x8 x9 : Option zV} {st : List zV} {M : zM} {a : Int} : uX7_turningRows R 115 [x0, x1, x2, x3, x4, x5, some (.inr (.inl a)), x7, x8, x9] st M ↔ uX7_turningRows R 117 [x0, x1, x2, x3, x4, x5, some (.inr (.inl a)), x7, x8, x9] (.inr (.inl a) :: st) M := zU_step dX7_turningRows_115 (Or.inl rfl)
theorem dX7_turningRows_117 : decode cX7_turningRows 117 = .ok (.lreturn, 1) := by decide +kernel
theorem rX7_turningRows_117 {R : zP} {x0 x1 x2 x3 x4 x5 x6 x7 x8 x9 : Option zV} {M : zM} {a : Int} : uX7_turningRows R 117 [x0, x1, x2, x3, x4, x5, x6, x7, x8, x9] [.inr (.inl a)] M ↔ R (some (.inr (.inl a))) M := Iff.trans (zU_step dX7_turningRows_117 (Or.inl rfl)) ⟨fun h => h.2.2, fun h => ⟨rfl, rfl, h⟩⟩
theorem eX7_turningRows {R : zP} {M : zM} {a0 : Nat} {p0 : Int} : tX7_turningRows [.inr (.inr a0), .inl p0] M R ↔ uX7_turningRows R 0 [some (.inr (.inr a0)), some (.inl p0), none, none, none, none, none, none, none, none] [] M := ⟨fun h => h.2, fun h => ⟨show 2 ≤ 10 by decide, h⟩⟩
def uX7_power (R : zP) : zK := zU fX7 vX7_power cX7_power R
theorem dX7_power_0 : decode cX7_power 0 = .ok (.iload_n 1, 1) := by decide +kernel
theorem rX7_power_0 {R : zP} {x0 x2 x3 x4 : Option zV} {st : List zV} {M : zM} {a : Int} : uX7_power R 0 [x0, some (.inl a), x2, x3, x4] st M ↔ uX7_power R 1 [x0, some (.inl a), x2, x3, x4] (.inl a :: st) M := zU_step dX7_power_0 (Or.inl rfl)
theorem dX7_power_1 : decode cX7_power 1 = .ok (.aload_n 0, 1) := by decide +kernel
theorem rX7_power_1 {R : zP} {x1 x2 x3 x4 : Option zV} {st : List zV} {M : zM} {a : Nat} : uX7_power R 1 [some (.inr (.inr a)), x1, x2, x3, x4] st M ↔ uX7_power R 2 [some (.inr (.inr a)), x1, x2, x3, x4] (.inr (.inr a) :: st) M := zU_step dX7_power_1 (Or.inl rfl)
theorem dX7_power_2 : decode cX7_power 2 = .ok (.getfield 14, 3) := by decide +kernel
theorem rX7_power_2 {R : zP} {x0 x1 x2 x3 x4 : Option zV} {st : List zV} {M : zM} {r : Nat} : uX7_power R 2 [x0, x1, x2, x3, x4] (.inr (.inr r) :: st) M ↔ zgetx fX7 14 r M (fun v => uX7_power R 5 [x0, x1, x2, x3, x4] (v :: st) M) := zU_step dX7_power_2 (Or.inl rfl)
theorem dX7_power_5 : decode cX7_power 5 = .ok (.getfield 116, 3) := by decide +kernel
theorem rX7_power_5 {R : zP} {x0 x1 x2 x3 x4 : Option zV} {st : List zV} {M : zM} {r : Nat} : uX7_power R 5 [x0, x1, x2, x3, x4] (.inr (.inr r) :: st) M ↔ zgetx fX7 116 r M (fun v => uX7_power R 8 [x0, x1, x2, x3, x4] (v :: st) M) := zU_step dX7_power_5 (Or.inl rfl)
theorem dX7_power_8 : decode cX7_power 8 = .ok (.invokestatic 94, 3) := by decide +kernel
theorem rX7_power_8 {R : zP} {x0 x1 x2 x3 x4 : Option zV} {st : List zV} {M : zM} {a0 a1 : zV} : uX7_power R 8 [x0, x1, x2, x3, x4] (a1 :: a0 :: st) M ↔ (st.length ≤ 4 ∧ zcv tX7_outside [a0, a1] M (fun v M => uX7_power R 11 [x0, x1, x2, x3, x4] (v :: st) M)) := Iff.trans (zU_step dX7_power_8 (Or.inl rfl)) ⟨fun h => ⟨h.2.1, zcv_of h.2.2⟩, fun h => ⟨rfl, h.1, zcv_to h.2⟩⟩
theorem dX7_power_11 : decode cX7_power 11 = .ok (.ifCond .ne 19, 3) := by decide +kernel
theorem rX7_power_11 {R : zP} {x0 x1 x2 x3 x4 : Option zV} {st : List zV} {M : zM} {a : Int} : uX7_power R 11 [x0, x1, x2, x3, x4] (.inl a :: st) M ↔ (zIR a ∧ if a ≠ 0 then uX7_power R 30 [x0, x1, x2, x3, x4] st M else uX7_power R 14 [x0, x1, x2, x3, x4] st M) := Iff.trans (zU_step dX7_power_11 (Or.inl rfl)) ⟨fun h => ⟨h.1.1, (zite (c := a ≠ 0)).mpr h.2⟩, fun h => ⟨⟨h.1, by decide⟩, (zite (c := a ≠ 0)).mp h.2⟩⟩
theorem dX7_power_14 : decode cX7_power 14 = .ok (.iload_n 2, 1) := by decide +kernel
theorem rX7_power_14 {R : zP} {x0 x1 x3 x4 : Option zV} {st : List zV} {M : zM} {a : Int} : uX7_power R 14 [x0, x1, some (.inl a), x3, x4] st M ↔ uX7_power R 15 [x0, x1, some (.inl a), x3, x4] (.inl a :: st) M := zU_step dX7_power_14 (Or.inl rfl)
theorem dX7_power_15 : decode cX7_power 15 = .ok (.iconst 4, 1) := by decide +kernel
theorem rX7_power_15 {R : zP} {x0 x1 x2 x3 x4 : Option zV} {st : List zV} {M : zM} : uX7_power R 15 [x0, x1, x2, x3, x4] st M ↔ uX7_power R 16 [x0, x1, x2, x3, x4] (.inl (4) :: st) M := zU_step dX7_power_15 (Or.inl rfl)
theorem dX7_power_16 : decode cX7_power 16 = .ok (.invokestatic 94, 3) := by decide +kernel
theorem rX7_power_16 {R : zP} {x0 x1 x2 x3 x4 : Option zV} {st : List zV} {M : zM} {a0 a1 : zV} : uX7_power R 16 [x0, x1, x2, x3, x4] (a1 :: a0 :: st) M ↔ (st.length ≤ 4 ∧ zcv tX7_outside [a0, a1] M (fun v M => uX7_power R 19 [x0, x1, x2, x3, x4] (v :: st) M)) := Iff.trans (zU_step dX7_power_16 (Or.inl rfl)) ⟨fun h => ⟨h.2.1, zcv_of h.2.2⟩, fun h => ⟨rfl, h.1, zcv_to h.2⟩⟩
theorem dX7_power_19 : decode cX7_power 19 = .ok (.ifCond .ne 11, 3) := by decide +kernel
theorem rX7_power_19 {R : zP} {x0 x1 x2 x3 x4 : Option zV} {st : List zV} {M : zM} {a : Int} : uX7_power R 19 [x0, x1, x2, x3, x4] (.inl a :: st) M ↔ (zIR a ∧ if a ≠ 0 then uX7_power R 30 [x0, x1, x2, x3, x4] st M else uX7_power R 22 [x0, x1, x2, x3, x4] st M) := Iff.trans (zU_step dX7_power_19 (Or.inl rfl)) ⟨fun h => ⟨h.1.1, (zite (c := a ≠ 0)).mpr h.2⟩, fun h => ⟨⟨h.1, by decide⟩, (zite (c := a ≠ 0)).mp h.2⟩⟩
theorem dX7_power_22 : decode cX7_power 22 = .ok (.iload_n 3, 1) := by decide +kernel
theorem rX7_power_22 {R : zP} {x0 x1 x2 x4 : Option zV} {st : List zV} {M : zM} {a : Int} : uX7_power R 22 [x0, x1, x2, some (.inl a), x4] st M ↔ uX7_power R 23 [x0, x1, x2, some (.inl a), x4] (.inl a :: st) M := zU_step dX7_power_22 (Or.inl rfl)
theorem dX7_power_23 : decode cX7_power 23 = .ok (.iconst 2, 1) := by decide +kernel
theorem rX7_power_23 {R : zP} {x0 x1 x2 x3 x4 : Option zV} {st : List zV} {M : zM} : uX7_power R 23 [x0, x1, x2, x3, x4] st M ↔ uX7_power R 24 [x0, x1, x2, x3, x4] (.inl (2) :: st) M := zU_step dX7_power_23 (Or.inl rfl)
theorem dX7_power_24 : decode cX7_power 24 = .ok (.invokestatic 94, 3) := by decide +kernel
theorem rX7_power_24 {R : zP} {x0 x1 x2 x3 x4 : Option zV} {st : List zV} {M : zM} {a0 a1 : zV} : uX7_power R 24 [x0, x1, x2, x3, x4] (a1 :: a0 :: st) M ↔ (st.length ≤ 4 ∧ zcv tX7_outside [a0, a1] M (fun v M => uX7_power R 27 [x0, x1, x2, x3, x4] (v :: st) M)) := Iff.trans (zU_step dX7_power_24 (Or.inl rfl)) ⟨fun h => ⟨h.2.1, zcv_of h.2.2⟩, fun h => ⟨rfl, h.1, zcv_to h.2⟩⟩
theorem dX7_power_27 : decode cX7_power 27 = .ok (.ifCond .eq 7, 3) := by decide +kernel
theorem rX7_power_27 {R : zP} {x0 x1 x2 x3 x4 : Option zV} {st : List zV} {M : zM} {a : Int} : uX7_power R 27 [x0, x1, x2, x3, x4] (.inl a :: st) M ↔ (zIR a ∧ if a = 0 then uX7_power R 34 [x0, x1, x2, x3, x4] st M else uX7_power R 30 [x0, x1, x2, x3, x4] st M) := Iff.trans (zU_step dX7_power_27 (Or.inl rfl)) ⟨fun h => ⟨h.1.1, (zite (c := a = 0)).mpr h.2⟩, fun h => ⟨⟨h.1, by decide⟩, (zite (c := a = 0)).mp h.2⟩⟩
theorem dX7_power_30 : decode cX7_power 30 = .ok (.ldc2_w 197, 3) := by decide +kernel
theorem rX7_power_30 {R : zP} {x0 x1 x2 x3 x4 : Option zV} {st : List zV} {M : zM} : uX7_power R 30 [x0, x1, x2, x3, x4] st M ↔ uX7_power R 33 [x0, x1, x2, x3, x4] (.inr (.inl (-9223372036854775806)) :: st) M := zU_step dX7_power_30 (Or.inl rfl)
theorem dX7_power_33 : decode cX7_power 33 = .ok (.lreturn, 1) := by decide +kernel
theorem rX7_power_33 {R : zP} {x0 x1 x2 x3 x4 : Option zV} {M : zM} {a : Int} : uX7_power R 33 [x0, x1, x2, x3, x4] [.inr (.inl a)] M ↔ R (some (.inr (.inl a))) M := Iff.trans (zU_step dX7_power_33 (Or.inl rfl)) ⟨fun h => h.2.2, fun h => ⟨rfl, rfl, h⟩⟩
theorem dX7_power_34 : decode cX7_power 34 = .ok (.aload_n 0, 1) := by decide +kernel
theorem rX7_power_34 {R : zP} {x1 x2 x3 x4 : Option zV} {st : List zV} {M : zM} {a : Nat} : uX7_power R 34 [some (.inr (.inr a)), x1, x2, x3, x4] st M ↔ uX7_power R 35 [some (.inr (.inr a)), x1, x2, x3, x4] (.inr (.inr a) :: st) M := zU_step dX7_power_34 (Or.inl rfl)
theorem dX7_power_35 : decode cX7_power 35 = .ok (.iload_n 2, 1) := by decide +kernel
theorem rX7_power_35 {R : zP} {x0 x1 x3 x4 : Option zV} {st : List zV} {M : zM} {a : Int} : uX7_power R 35 [x0, x1, some (.inl a), x3, x4] st M ↔ uX7_power R 36 [x0, x1, some (.inl a), x3, x4] (.inl a :: st) M := zU_step dX7_power_35 (Or.inl rfl)
theorem dX7_power_36 : decode cX7_power 36 = .ok (.invokevirtual 199, 3) := by decide +kernel
theorem rX7_power_36 {R : zP} {x0 x1 x2 x3 x4 : Option zV} {st : List zV} {M : zM} {a0 a1 : zV} : uX7_power R 36 [x0, x1, x2, x3, x4] (a1 :: a0 :: st) M ↔ (st.length ≤ 4 ∧ zcn (zv 7 tX7_weigh) [a0, a1] M (fun M => uX7_power R 39 [x0, x1, x2, x3, x4] st M)) := Iff.trans (zU_step dX7_power_36 (Or.inl rfl)) ⟨fun h => ⟨h.2.1, zcn_of h.2.2⟩, fun h => ⟨rfl, h.1, zcn_to h.2⟩⟩
theorem dX7_power_39 : decode cX7_power 39 = .ok (.aload_n 0, 1) := by decide +kernel
theorem rX7_power_39 {R : zP} {x1 x2 x3 x4 : Option zV} {st : List zV} {M : zM} {a : Nat} : uX7_power R 39 [some (.inr (.inr a)), x1, x2, x3, x4] st M ↔ uX7_power R 40 [some (.inr (.inr a)), x1, x2, x3, x4] (.inr (.inr a) :: st) M := zU_step dX7_power_39 (Or.inl rfl)
theorem dX7_power_40 : decode cX7_power 40 = .ok (.getfield 14, 3) := by decide +kernel
theorem rX7_power_40 {R : zP} {x0 x1 x2 x3 x4 : Option zV} {st : List zV} {M : zM} {r : Nat} : uX7_power R 40 [x0, x1, x2, x3, x4] (.inr (.inr r) :: st) M ↔ zgetx fX7 14 r M (fun v => uX7_power R 43 [x0, x1, x2, x3, x4] (v :: st) M) := zU_step dX7_power_40 (Or.inl rfl)
theorem dX7_power_43 : decode cX7_power 43 = .ok (.getfield 116, 3) := by decide +kernel
theorem rX7_power_43 {R : zP} {x0 x1 x2 x3 x4 : Option zV} {st : List zV} {M : zM} {r : Nat} : uX7_power R 43 [x0, x1, x2, x3, x4] (.inr (.inr r) :: st) M ↔ zgetx fX7 116 r M (fun v => uX7_power R 46 [x0, x1, x2, x3, x4] (v :: st) M) := zU_step dX7_power_43 (Or.inl rfl)
theorem dX7_power_46 : decode cX7_power 46 = .ok (.istore 4, 2) := by decide +kernel
theorem rX7_power_46 {R : zP} {x0 x1 x2 x4 : Option zV} {st : List zV} {M : zM} {a : Int} {y : Int} : uX7_power R 46 [x0, x1, x2, some (.inl y), x4] (.inl a :: st) M ↔ uX7_power R 48 [x0, x1, x2, some (.inl y), some (.inl a)] st M := Iff.trans (zU_step dX7_power_46 (Or.inl rfl)) ⟨fun h => h.2, fun h => ⟨show 4 < 5 by decide, h⟩⟩
theorem rX7_power_46z {R : zP} {x0 x1 x2 x3 x4 : Option zV} {st : List zV} {M : zM} {a : Int} : uX7_power R 46 [x0, x1, x2, x3, x4] (.inl a :: st) M ↔ uX7_power R 48 [x0, x1, x2, zkeep x3, some (.inl a)] st M := Iff.trans (zU_step dX7_power_46 (Or.inl rfl)) ⟨fun h => h.2, fun h => ⟨show 4 < 5 by decide, h⟩⟩
theorem dX7_power_48 : decode cX7_power 48 = .ok (.aload_n 0, 1) := by decide +kernel
theorem rX7_power_48 {R : zP} {x1 x2 x3 x4 : Option zV} {st : List zV} {M : zM} {a : Nat} : uX7_power R 48 [some (.inr (.inr a)), x1, x2, x3, x4] st M ↔ uX7_power R 49 [some (.inr (.inr a)), x1, x2, x3, x4] (.inr (.inr a) :: st) M := zU_step dX7_power_48 (Or.inl rfl)
theorem dX7_power_49 : decode cX7_power 49 = .ok (.getfield 72, 3) := by decide +kernel
theorem rX7_power_49 {R : zP} {x0 x1 x2 x3 x4 : Option zV} {st : List zV} {M : zM} {r : Nat} : uX7_power R 49 [x0, x1, x2, x3, x4] (.inr (.inr r) :: st) M ↔ zgetx fX7 72 r M (fun v => uX7_power R 52 [x0, x1, x2, x3, x4] (v :: st) M) := zU_step dX7_power_49 (Or.inl rfl)
theorem dX7_power_52 : decode cX7_power 52 = .ok (.aload_n 0, 1) := by decide +kernel
theorem rX7_power_52 {R : zP} {x1 x2 x3 x4 : Option zV} {st : List zV} {M : zM} {a : Nat} : uX7_power R 52 [some (.inr (.inr a)), x1, x2, x3, x4] st M ↔ uX7_power R 53 [some (.inr (.inr a)), x1, x2, x3, x4] (.inr (.inr a) :: st) M := zU_step dX7_power_52 (Or.inl rfl)
theorem dX7_power_53 : decode cX7_power 53 = .ok (.iload_n 1, 1) := by decide +kernel
theorem rX7_power_53 {R : zP} {x0 x2 x3 x4 : Option zV} {st : List zV} {M : zM} {a : Int} : uX7_power R 53 [x0, some (.inl a), x2, x3, x4] st M ↔ uX7_power R 54 [x0, some (.inl a), x2, x3, x4] (.inl a :: st) M := zU_step dX7_power_53 (Or.inl rfl)
theorem dX7_power_54 : decode cX7_power 54 = .ok (.invokevirtual 203, 3) := by decide +kernel
theorem rX7_power_54 {R : zP} {x0 x1 x2 x3 x4 : Option zV} {st : List zV} {M : zM} {a0 a1 : zV} : uX7_power R 54 [x0, x1, x2, x3, x4] (a1 :: a0 :: st) M ↔ (st.length ≤ 4 ∧ zcv (zv 7 tX7_turningRows) [a0, a1] M (fun v M => uX7_power R 57 [x0, x1, x2, x3, x4] (v :: st) M)) := Iff.trans (zU_step dX7_power_54 (Or.inl rfl)) ⟨fun h => ⟨h.2.1, zcv_of h.2.2⟩, fun h => ⟨rfl, h.1, zcv_to h.2⟩⟩
theorem dX7_power_57 : decode cX7_power 57 = .ok (.iload 4, 2) := by decide +kernel
theorem rX7_power_57 {R : zP} {x0 x1 x2 x3 : Option zV} {st : List zV} {M : zM} {a : Int} : uX7_power R 57 [x0, x1, x2, x3, some (.inl a)] st M ↔ uX7_power R 59 [x0, x1, x2, x3, some (.inl a)] (.inl a :: st) M := zU_step dX7_power_57 (Or.inl rfl)
theorem dX7_power_59 : decode cX7_power 59 = .ok (.i2l, 1) := by decide +kernel
theorem rX7_power_59 {R : zP} {x0 x1 x2 x3 x4 : Option zV} {st : List zV} {M : zM} {a : Int} : uX7_power R 59 [x0, x1, x2, x3, x4] (.inl a :: st) M ↔ (zIR a ∧ uX7_power R 60 [x0, x1, x2, x3, x4] (.inr (.inl a) :: st) M) := zU_step dX7_power_59 (Or.inl rfl)
theorem dX7_power_60 : decode cX7_power 60 = .ok (.getstatic 207, 3) := by decide +kernel
theorem rX7_power_60 {R : zP} {x0 x1 x2 x3 x4 : Option zV} {st : List zV} {M : zM} : uX7_power R 60 [x0, x1, x2, x3, x4] st M ↔ zopt (zFs fX7 207) (fun v => uX7_power R 63 [x0, x1, x2, x3, x4] (v :: st) M) := zU_step dX7_power_60 (Or.inl rfl)
theorem dX7_power_63 : decode cX7_power 63 = .ok (.iload 4, 2) := by decide +kernel
theorem rX7_power_63 {R : zP} {x0 x1 x2 x3 : Option zV} {st : List zV} {M : zM} {a : Int} : uX7_power R 63 [x0, x1, x2, x3, some (.inl a)] st M ↔ uX7_power R 65 [x0, x1, x2, x3, some (.inl a)] (.inl a :: st) M := zU_step dX7_power_63 (Or.inl rfl)
theorem dX7_power_65 : decode cX7_power 65 = .ok (.iconst 1, 1) := by decide +kernel
theorem rX7_power_65 {R : zP} {x0 x1 x2 x3 x4 : Option zV} {st : List zV} {M : zM} : uX7_power R 65 [x0, x1, x2, x3, x4] st M ↔ uX7_power R 66 [x0, x1, x2, x3, x4] (.inl (1) :: st) M := zU_step dX7_power_65 (Or.inl rfl)
theorem dX7_power_66 : decode cX7_power 66 = .ok (.isub, 1) := by decide +kernel
theorem rX7_power_66 {R : zP} {x0 x1 x2 x3 x4 : Option zV} {st : List zV} {M : zM} {a b : Int} : uX7_power R 66 [x0, x1, x2, x3, x4] (.inl b :: .inl a :: st) M ↔ uX7_power R 67 [x0, x1, x2, x3, x4] (.inl (a - b) :: st) M := zU_step dX7_power_66 (Or.inl rfl)
theorem dX7_power_67 : decode cX7_power 67 = .ok (.iaload, 1) := by decide +kernel
theorem rX7_power_67 {R : zP} {x0 x1 x2 x3 x4 : Option zV} {st : List zV} {M : zM} {i : Int} {r : Nat} : uX7_power R 67 [x0, x1, x2, x3, x4] (.inl i :: .inr (.inr r) :: st) M ↔ zread fX7 0 r M i (fun v => uX7_power R 68 [x0, x1, x2, x3, x4] (.inl v :: st) M) := zU_step dX7_power_67 (Or.inl rfl)
theorem dX7_power_68 : decode cX7_power 68 = .ok (.i2l, 1) := by decide +kernel
theorem rX7_power_68 {R : zP} {x0 x1 x2 x3 x4 : Option zV} {st : List zV} {M : zM} {a : Int} : uX7_power R 68 [x0, x1, x2, x3, x4] (.inl a :: st) M ↔ (zIR a ∧ uX7_power R 69 [x0, x1, x2, x3, x4] (.inr (.inl a) :: st) M) := zU_step dX7_power_68 (Or.inl rfl)
theorem dX7_power_69 : decode cX7_power 69 = .ok (.lmul, 1) := by decide +kernel
theorem rX7_power_69 {R : zP} {x0 x1 x2 x3 x4 : Option zV} {st : List zV} {M : zM} {a b : Int} : uX7_power R 69 [x0, x1, x2, x3, x4] (.inr (.inl b) :: .inr (.inl a) :: st) M ↔ uX7_power R 70 [x0, x1, x2, x3, x4] (.inr (.inl (a * b)) :: st) M := zU_step dX7_power_69 (Or.inl rfl)
theorem dX7_power_70 : decode cX7_power 70 = .ok (.invokevirtual 210, 3) := by decide +kernel
theorem rX7_power_70 {R : zP} {x0 x1 x2 x3 x4 : Option zV} {st : List zV} {M : zM} {a0 a1 a2 : zV} : uX7_power R 70 [x0, x1, x2, x3, x4] (a2 :: a1 :: a0 :: st) M ↔ (st.length ≤ 4 ∧ zcn (zv 0 tX0_settle) [a0, a1, a2] M (fun M => uX7_power R 73 [x0, x1, x2, x3, x4] st M)) := Iff.trans (zU_step dX7_power_70 (Or.inl rfl)) ⟨fun h => ⟨h.2.1, zcn_of h.2.2⟩, fun h => ⟨rfl, h.1, zcn_to h.2⟩⟩
theorem dX7_power_73 : decode cX7_power 73 = .ok (.aload_n 0, 1) := by decide +kernel
theorem rX7_power_73 {R : zP} {x1 x2 x3 x4 : Option zV} {st : List zV} {M : zM} {a : Nat} : uX7_power R 73 [some (.inr (.inr a)), x1, x2, x3, x4] st M ↔ uX7_power R 74 [some (.inr (.inr a)), x1, x2, x3, x4] (.inr (.inr a) :: st) M := zU_step dX7_power_73 (Or.inl rfl)
theorem dX7_power_74 : decode cX7_power 74 = .ok (.getfield 72, 3) := by decide +kernel
theorem rX7_power_74 {R : zP} {x0 x1 x2 x3 x4 : Option zV} {st : List zV} {M : zM} {r : Nat} : uX7_power R 74 [x0, x1, x2, x3, x4] (.inr (.inr r) :: st) M ↔ zgetx fX7 72 r M (fun v => uX7_power R 77 [x0, x1, x2, x3, x4] (v :: st) M) := zU_step dX7_power_74 (Or.inl rfl)
theorem dX7_power_77 : decode cX7_power 77 = .ok (.iload_n 3, 1) := by decide +kernel
theorem rX7_power_77 {R : zP} {x0 x1 x2 x4 : Option zV} {st : List zV} {M : zM} {a : Int} : uX7_power R 77 [x0, x1, x2, some (.inl a), x4] st M ↔ uX7_power R 78 [x0, x1, x2, some (.inl a), x4] (.inl a :: st) M := zU_step dX7_power_77 (Or.inl rfl)
theorem dX7_power_78 : decode cX7_power 78 = .ok (.invokevirtual 214, 3) := by decide +kernel
theorem rX7_power_78 {R : zP} {x0 x1 x2 x3 x4 : Option zV} {st : List zV} {M : zM} {a0 a1 : zV} : uX7_power R 78 [x0, x1, x2, x3, x4] (a1 :: a0 :: st) M ↔ (st.length ≤ 4 ∧ zcv (zv 0 tX0_tell) [a0, a1] M (fun v M => uX7_power R 81 [x0, x1, x2, x3, x4] (v :: st) M)) := Iff.trans (zU_step dX7_power_78 (Or.inl rfl)) ⟨fun h => ⟨h.2.1, zcv_of h.2.2⟩, fun h => ⟨rfl, h.1, zcv_to h.2⟩⟩
theorem dX7_power_81 : decode cX7_power 81 = .ok (.lreturn, 1) := by decide +kernel
theorem rX7_power_81 {R : zP} {x0 x1 x2 x3 x4 : Option zV} {M : zM} {a : Int} : uX7_power R 81 [x0, x1, x2, x3, x4] [.inr (.inl a)] M ↔ R (some (.inr (.inl a))) M := Iff.trans (zU_step dX7_power_81 (Or.inl rfl)) ⟨fun h => h.2.2, fun h => ⟨rfl, rfl, h⟩⟩
theorem eX7_power {R : zP} {M : zM} {a0 : Nat} {p0 : Int} {p1 : Int} {p2 : Int} : tX7_power [.inr (.inr a0), .inl p0, .inl p1, .inl p2] M R ↔ uX7_power R 0 [some (.inr (.inr a0)), some (.inl p0), some (.inl p1), some (.inl p2), none] [] M := ⟨fun h => h.2, fun h => ⟨show 4 ≤ 5 by decide, h⟩⟩
def uX7_speaksBy (R : zP) : zK := zU fX7 vX7_speaksBy cX7_speaksBy R
theorem dX7_speaksBy_0 : decode cX7_speaksBy 0 = .ok (.aload_n 0, 1) := by decide +kernel
theorem rX7_speaksBy_0 {R : zP} {x1 x2 x3 x4 : Option zV} {st : List zV} {M : zM} {a : Nat} : uX7_speaksBy R 0 [some (.inr (.inr a)), x1, x2, x3, x4] st M ↔ uX7_speaksBy R 1 [some (.inr (.inr a)), x1, x2, x3, x4] (.inr (.inr a) :: st) M := zU_step dX7_speaksBy_0 (Or.inl rfl)
theorem dX7_speaksBy_1 : decode cX7_speaksBy 1 = .ok (.getfield 59, 3) := by decide +kernel
theorem rX7_speaksBy_1 {R : zP} {x0 x1 x2 x3 x4 : Option zV} {st : List zV} {M : zM} {r : Nat} : uX7_speaksBy R 1 [x0, x1, x2, x3, x4] (.inr (.inr r) :: st) M ↔ zgetx fX7 59 r M (fun v => uX7_speaksBy R 4 [x0, x1, x2, x3, x4] (v :: st) M) := zU_step dX7_speaksBy_1 (Or.inl rfl)
theorem dX7_speaksBy_4 : decode cX7_speaksBy 4 = .ok (.aload_n 0, 1) := by decide +kernel
theorem rX7_speaksBy_4 {R : zP} {x1 x2 x3 x4 : Option zV} {st : List zV} {M : zM} {a : Nat} : uX7_speaksBy R 4 [some (.inr (.inr a)), x1, x2, x3, x4] st M ↔ uX7_speaksBy R 5 [some (.inr (.inr a)), x1, x2, x3, x4] (.inr (.inr a) :: st) M := zU_step dX7_speaksBy_4 (Or.inl rfl)
theorem dX7_speaksBy_5 : decode cX7_speaksBy 5 = .ok (.getfield 55, 3) := by decide +kernel
theorem rX7_speaksBy_5 {R : zP} {x0 x1 x2 x3 x4 : Option zV} {st : List zV} {M : zM} {r : Nat} : uX7_speaksBy R 5 [x0, x1, x2, x3, x4] (.inr (.inr r) :: st) M ↔ zgetx fX7 55 r M (fun v => uX7_speaksBy R 8 [x0, x1, x2, x3, x4] (v :: st) M) := zU_step dX7_speaksBy_5 (Or.inl rfl)
theorem dX7_speaksBy_8 : decode cX7_speaksBy 8 = .ok (.invokevirtual 380, 3) := by decide +kernel
theorem rX7_speaksBy_8 {R : zP} {x0 x1 x2 x3 x4 : Option zV} {st : List zV} {M : zM} {a0 a1 : zV} : uX7_speaksBy R 8 [x0, x1, x2, x3, x4] (a1 :: a0 :: st) M ↔ (st.length ≤ 4 ∧ zcn (zv 3 tX3_resemble) [a0, a1] M (fun M => uX7_speaksBy R 11 [x0, x1, x2, x3, x4] st M)) := Iff.trans (zU_step dX7_speaksBy_8 (Or.inl rfl)) ⟨fun h => ⟨h.2.1, zcn_of h.2.2⟩, fun h => ⟨rfl, h.1, zcn_to h.2⟩⟩
theorem dX7_speaksBy_11 : decode cX7_speaksBy 11 = .ok (.aload_n 0, 1) := by decide +kernel
theorem rX7_speaksBy_11 {R : zP} {x1 x2 x3 x4 : Option zV} {st : List zV} {M : zM} {a : Nat} : uX7_speaksBy R 11 [some (.inr (.inr a)), x1, x2, x3, x4] st M ↔ uX7_speaksBy R 12 [some (.inr (.inr a)), x1, x2, x3, x4] (.inr (.inr a) :: st) M := zU_step dX7_speaksBy_11 (Or.inl rfl)
theorem dX7_speaksBy_12 : decode cX7_speaksBy 12 = .ok (.getfield 59, 3) := by decide +kernel
theorem rX7_speaksBy_12 {R : zP} {x0 x1 x2 x3 x4 : Option zV} {st : List zV} {M : zM} {r : Nat} : uX7_speaksBy R 12 [x0, x1, x2, x3, x4] (.inr (.inr r) :: st) M ↔ zgetx fX7 59 r M (fun v => uX7_speaksBy R 15 [x0, x1, x2, x3, x4] (v :: st) M) := zU_step dX7_speaksBy_12 (Or.inl rfl)
theorem dX7_speaksBy_15 : decode cX7_speaksBy 15 = .ok (.aload_n 0, 1) := by decide +kernel
theorem rX7_speaksBy_15 {R : zP} {x1 x2 x3 x4 : Option zV} {st : List zV} {M : zM} {a : Nat} : uX7_speaksBy R 15 [some (.inr (.inr a)), x1, x2, x3, x4] st M ↔ uX7_speaksBy R 16 [some (.inr (.inr a)), x1, x2, x3, x4] (.inr (.inr a) :: st) M := zU_step dX7_speaksBy_15 (Or.inl rfl)
theorem dX7_speaksBy_16 : decode cX7_speaksBy 16 = .ok (.getfield 22, 3) := by decide +kernel
theorem rX7_speaksBy_16 {R : zP} {x0 x1 x2 x3 x4 : Option zV} {st : List zV} {M : zM} {r : Nat} : uX7_speaksBy R 16 [x0, x1, x2, x3, x4] (.inr (.inr r) :: st) M ↔ zgetx fX7 22 r M (fun v => uX7_speaksBy R 19 [x0, x1, x2, x3, x4] (v :: st) M) := zU_step dX7_speaksBy_16 (Or.inl rfl)
theorem dX7_speaksBy_19 : decode cX7_speaksBy 19 = .ok (.iload_n 1, 1) := by decide +kernel
theorem rX7_speaksBy_19 {R : zP} {x0 x2 x3 x4 : Option zV} {st : List zV} {M : zM} {a : Int} : uX7_speaksBy R 19 [x0, some (.inl a), x2, x3, x4] st M ↔ uX7_speaksBy R 20 [x0, some (.inl a), x2, x3, x4] (.inl a :: st) M := zU_step dX7_speaksBy_19 (Or.inl rfl)
theorem dX7_speaksBy_20 : decode cX7_speaksBy 20 = .ok (.invokevirtual 365, 3) := by decide +kernel
theorem rX7_speaksBy_20 {R : zP} {x0 x1 x2 x3 x4 : Option zV} {st : List zV} {M : zM} {a0 a1 a2 : zV} : uX7_speaksBy R 20 [x0, x1, x2, x3, x4] (a2 :: a1 :: a0 :: st) M ↔ (st.length ≤ 4 ∧ zcn (zv 3 tX3_drink) [a0, a1, a2] M (fun M => uX7_speaksBy R 23 [x0, x1, x2, x3, x4] st M)) := Iff.trans (zU_step dX7_speaksBy_20 (Or.inl rfl)) ⟨fun h => ⟨h.2.1, zcn_of h.2.2⟩, fun h => ⟨rfl, h.1, zcn_to h.2⟩⟩
theorem dX7_speaksBy_23 : decode cX7_speaksBy 23 = .ok (.iload_n 2, 1) := by decide +kernel
theorem rX7_speaksBy_23 {R : zP} {x0 x1 x3 x4 : Option zV} {st : List zV} {M : zM} {a : Int} : uX7_speaksBy R 23 [x0, x1, some (.inl a), x3, x4] st M ↔ uX7_speaksBy R 24 [x0, x1, some (.inl a), x3, x4] (.inl a :: st) M := zU_step dX7_speaksBy_23 (Or.inl rfl)
theorem dX7_speaksBy_24 : decode cX7_speaksBy 24 = .ok (.iconst (-1), 1) := by decide +kernel
theorem rX7_speaksBy_24 {R : zP} {x0 x1 x2 x3 x4 : Option zV} {st : List zV} {M : zM} : uX7_speaksBy R 24 [x0, x1, x2, x3, x4] st M ↔ uX7_speaksBy R 25 [x0, x1, x2, x3, x4] (.inl (-1) :: st) M := zU_step dX7_speaksBy_24 (Or.inl rfl)
theorem dX7_speaksBy_25 : decode cX7_speaksBy 25 = .ok (.if_icmp .eq 15, 3) := by decide +kernel
theorem rX7_speaksBy_25 {R : zP} {x0 x1 x2 x3 x4 : Option zV} {st : List zV} {M : zM} {a b : Int} : uX7_speaksBy R 25 [x0, x1, x2, x3, x4] (.inl b :: .inl a :: st) M ↔ ((zIR a ∧ zIR b) ∧ if a = b then uX7_speaksBy R 40 [x0, x1, x2, x3, x4] st M else uX7_speaksBy R 28 [x0, x1, x2, x3, x4] st M) := Iff.trans (zU_step dX7_speaksBy_25 (Or.inl rfl)) ⟨fun h => ⟨⟨h.1.1, h.1.2.1⟩, (zite (c := a = b)).mpr h.2⟩, fun h => ⟨⟨h.1.1, h.1.2, by decide⟩, (zite (c := a = b)).mp h.2⟩⟩
theorem dX7_speaksBy_28 : decode cX7_speaksBy 28 = .ok (.aload_n 0, 1) := by decide +kernel
theorem rX7_speaksBy_28 {R : zP} {x1 x2 x3 x4 : Option zV} {st : List zV} {M : zM} {a : Nat} : uX7_speaksBy R 28 [some (.inr (.inr a)), x1, x2, x3, x4] st M ↔ uX7_speaksBy R 29 [some (.inr (.inr a)), x1, x2, x3, x4] (.inr (.inr a) :: st) M := zU_step dX7_speaksBy_28 (Or.inl rfl)
theorem dX7_speaksBy_29 : decode cX7_speaksBy 29 = .ok (.getfield 59, 3) := by decide +kernel
theorem rX7_speaksBy_29 {R : zP} {x0 x1 x2 x3 x4 : Option zV} {st : List zV} {M : zM} {r : Nat} : uX7_speaksBy R 29 [x0, x1, x2, x3, x4] (.inr (.inr r) :: st) M ↔ zgetx fX7 59 r M (fun v => uX7_speaksBy R 32 [x0, x1, x2, x3, x4] (v :: st) M) := zU_step dX7_speaksBy_29 (Or.inl rfl)
theorem dX7_speaksBy_32 : decode cX7_speaksBy 32 = .ok (.aload_n 0, 1) := by decide +kernel
theorem rX7_speaksBy_32 {R : zP} {x1 x2 x3 x4 : Option zV} {st : List zV} {M : zM} {a : Nat} : uX7_speaksBy R 32 [some (.inr (.inr a)), x1, x2, x3, x4] st M ↔ uX7_speaksBy R 33 [some (.inr (.inr a)), x1, x2, x3, x4] (.inr (.inr a) :: st) M := zU_step dX7_speaksBy_32 (Or.inl rfl)
theorem dX7_speaksBy_33 : decode cX7_speaksBy 33 = .ok (.getfield 22, 3) := by decide +kernel
theorem rX7_speaksBy_33 {R : zP} {x0 x1 x2 x3 x4 : Option zV} {st : List zV} {M : zM} {r : Nat} : uX7_speaksBy R 33 [x0, x1, x2, x3, x4] (.inr (.inr r) :: st) M ↔ zgetx fX7 22 r M (fun v => uX7_speaksBy R 36 [x0, x1, x2, x3, x4] (v :: st) M) := zU_step dX7_speaksBy_33 (Or.inl rfl)
theorem dX7_speaksBy_36 : decode cX7_speaksBy 36 = .ok (.iload_n 2, 1) := by decide +kernel
theorem rX7_speaksBy_36 {R : zP} {x0 x1 x3 x4 : Option zV} {st : List zV} {M : zM} {a : Int} : uX7_speaksBy R 36 [x0, x1, some (.inl a), x3, x4] st M ↔ uX7_speaksBy R 37 [x0, x1, some (.inl a), x3, x4] (.inl a :: st) M := zU_step dX7_speaksBy_36 (Or.inl rfl)
theorem dX7_speaksBy_37 : decode cX7_speaksBy 37 = .ok (.invokevirtual 365, 3) := by decide +kernel
theorem rX7_speaksBy_37 {R : zP} {x0 x1 x2 x3 x4 : Option zV} {st : List zV} {M : zM} {a0 a1 a2 : zV} : uX7_speaksBy R 37 [x0, x1, x2, x3, x4] (a2 :: a1 :: a0 :: st) M ↔ (st.length ≤ 4 ∧ zcn (zv 3 tX3_drink) [a0, a1, a2] M (fun M => uX7_speaksBy R 40 [x0, x1, x2, x3, x4] st M)) := Iff.trans (zU_step dX7_speaksBy_37 (Or.inl rfl)) ⟨fun h => ⟨h.2.1, zcn_of h.2.2⟩, fun h => ⟨rfl, h.1, zcn_to h.2⟩⟩
theorem dX7_speaksBy_40 : decode cX7_speaksBy 40 = .ok (.aload_n 0, 1) := by decide +kernel
theorem rX7_speaksBy_40 {R : zP} {x1 x2 x3 x4 : Option zV} {st : List zV} {M : zM} {a : Nat} : uX7_speaksBy R 40 [some (.inr (.inr a)), x1, x2, x3, x4] st M ↔ uX7_speaksBy R 41 [some (.inr (.inr a)), x1, x2, x3, x4] (.inr (.inr a) :: st) M := zU_step dX7_speaksBy_40 (Or.inl rfl)
theorem dX7_speaksBy_41 : decode cX7_speaksBy 41 = .ok (.getfield 59, 3) := by decide +kernel
theorem rX7_speaksBy_41 {R : zP} {x0 x1 x2 x3 x4 : Option zV} {st : List zV} {M : zM} {r : Nat} : uX7_speaksBy R 41 [x0, x1, x2, x3, x4] (.inr (.inr r) :: st) M ↔ zgetx fX7 59 r M (fun v => uX7_speaksBy R 44 [x0, x1, x2, x3, x4] (v :: st) M) := zU_step dX7_speaksBy_41 (Or.inl rfl)
theorem dX7_speaksBy_44 : decode cX7_speaksBy 44 = .ok (.iload_n 3, 1) := by decide +kernel
theorem rX7_speaksBy_44 {R : zP} {x0 x1 x2 x4 : Option zV} {st : List zV} {M : zM} {a : Int} : uX7_speaksBy R 44 [x0, x1, x2, some (.inl a), x4] st M ↔ uX7_speaksBy R 45 [x0, x1, x2, some (.inl a), x4] (.inl a :: st) M := zU_step dX7_speaksBy_44 (Or.inl rfl)
theorem dX7_speaksBy_45 : decode cX7_speaksBy 45 = .ok (.iload 4, 2) := by decide +kernel
theorem rX7_speaksBy_45 {R : zP} {x0 x1 x2 x3 : Option zV} {st : List zV} {M : zM} {a : Int} : uX7_speaksBy R 45 [x0, x1, x2, x3, some (.inl a)] st M ↔ uX7_speaksBy R 47 [x0, x1, x2, x3, some (.inl a)] (.inl a :: st) M := zU_step dX7_speaksBy_45 (Or.inl rfl)
theorem dX7_speaksBy_47 : decode cX7_speaksBy 47 = .ok (.invokevirtual 372, 3) := by decide +kernel
theorem rX7_speaksBy_47 {R : zP} {x0 x1 x2 x3 x4 : Option zV} {st : List zV} {M : zM} {a0 a1 a2 : zV} : uX7_speaksBy R 47 [x0, x1, x2, x3, x4] (a2 :: a1 :: a0 :: st) M ↔ (st.length ≤ 4 ∧ zcv (zv 3 tX3_speaks) [a0, a1, a2] M (fun v M => uX7_speaksBy R 50 [x0, x1, x2, x3, x4] (v :: st) M)) := Iff.trans (zU_step dX7_speaksBy_47 (Or.inl rfl)) ⟨fun h => ⟨h.2.1, zcv_of h.2.2⟩, fun h => ⟨rfl, h.1, zcv_to h.2⟩⟩
theorem dX7_speaksBy_50 : decode cX7_speaksBy 50 = .ok (.ireturn, 1) := by decide +kernel
theorem rX7_speaksBy_50 {R : zP} {x0 x1 x2 x3 x4 : Option zV} {M : zM} {a : Int} : uX7_speaksBy R 50 [x0, x1, x2, x3, x4] [.inl a] M ↔ ((a = 0 ∨ a = 1) ∧ R (some (.inl a)) M) := Iff.trans (zU_step dX7_speaksBy_50 (Or.inl rfl)) ⟨fun h => ⟨zret2 rfl h.2.1, h.2.2⟩, fun h => ⟨rfl, Or.inr (Or.inl ⟨rfl, h.1⟩), h.2⟩⟩
theorem eX7_speaksBy {R : zP} {M : zM} {a0 : Nat} {p0 : Int} {p1 : Int} {p2 : Int} {p3 : Int} : tX7_speaksBy [.inr (.inr a0), .inl p0, .inl p1, .inl p2, .inl p3] M R ↔ uX7_speaksBy R 0 [some (.inr (.inr a0)), some (.inl p0), some (.inl p1), some (.inl p2), some (.inl p3)] [] M := ⟨fun h => h.2, fun h => ⟨show 5 ≤ 5 by decide, h⟩⟩
def uX7_planRear (R : zP) : zK := zU fX7 vX7_planRear cX7_planRear R
theorem dX7_planRear_0 : decode cX7_planRear 0 = .ok (.aload_n 0, 1) := by decide +kernel
theorem rX7_planRear_0 {R : zP} {x1 x2 x3 x4 x5 : Option zV} {st : List zV} {M : zM} {a : Nat} : uX7_planRear R 0 [some (.inr (.inr a)), x1, x2, x3, x4, x5] st M ↔ uX7_planRear R 1 [some (.inr (.inr a)), x1, x2, x3, x4, x5] (.inr (.inr a) :: st) M := zU_step dX7_planRear_0 (Or.inl rfl)
theorem dX7_planRear_1 : decode cX7_planRear 1 = .ok (.aload_n 0, 1) := by decide +kernel
theorem rX7_planRear_1 {R : zP} {x1 x2 x3 x4 x5 : Option zV} {st : List zV} {M : zM} {a : Nat} : uX7_planRear R 1 [some (.inr (.inr a)), x1, x2, x3, x4, x5] st M ↔ uX7_planRear R 2 [some (.inr (.inr a)), x1, x2, x3, x4, x5] (.inr (.inr a) :: st) M := zU_step dX7_planRear_1 (Or.inl rfl)
theorem dX7_planRear_2 : decode cX7_planRear 2 = .ok (.getfield 28, 3) := by decide +kernel
theorem rX7_planRear_2 {R : zP} {x0 x1 x2 x3 x4 x5 : Option zV} {st : List zV} {M : zM} {r : Nat} : uX7_planRear R 2 [x0, x1, x2, x3, x4, x5] (.inr (.inr r) :: st) M ↔ zgetx fX7 28 r M (fun v => uX7_planRear R 5 [x0, x1, x2, x3, x4, x5] (v :: st) M) := zU_step dX7_planRear_2 (Or.inl rfl)
theorem dX7_planRear_5 : decode cX7_planRear 5 = .ok (.iload_n 1, 1) := by decide +kernel
theorem rX7_planRear_5 {R : zP} {x0 x2 x3 x4 x5 : Option zV} {st : List zV} {M : zM} {a : Int} : uX7_planRear R 5 [x0, some (.inl a), x2, x3, x4, x5] st M ↔ uX7_planRear R 6 [x0, some (.inl a), x2, x3, x4, x5] (.inl a :: st) M := zU_step dX7_planRear_5 (Or.inl rfl)
theorem dX7_planRear_6 : decode cX7_planRear 6 = .ok (.bipush 19, 2) := by decide +kernel
theorem rX7_planRear_6 {R : zP} {x0 x1 x2 x3 x4 x5 : Option zV} {st : List zV} {M : zM} : uX7_planRear R 6 [x0, x1, x2, x3, x4, x5] st M ↔ uX7_planRear R 8 [x0, x1, x2, x3, x4, x5] (.inl (19) :: st) M := Iff.trans (zU_step dX7_planRear_6 (Or.inl rfl)) ⟨fun h => h.2, fun h => ⟨by decide, h⟩⟩
theorem dX7_planRear_8 : decode cX7_planRear 8 = .ok (.sipush 255, 3) := by decide +kernel
theorem rX7_planRear_8 {R : zP} {x0 x1 x2 x3 x4 x5 : Option zV} {st : List zV} {M : zM} : uX7_planRear R 8 [x0, x1, x2, x3, x4, x5] st M ↔ uX7_planRear R 11 [x0, x1, x2, x3, x4, x5] (.inl (255) :: st) M := Iff.trans (zU_step dX7_planRear_8 (Or.inl rfl)) ⟨fun h => h.2, fun h => ⟨by decide, h⟩⟩
theorem dX7_planRear_11 : decode cX7_planRear 11 = .ok (.invokevirtual 142, 3) := by decide +kernel
theorem rX7_planRear_11 {R : zP} {x0 x1 x2 x3 x4 x5 : Option zV} {st : List zV} {M : zM} {a0 a1 a2 a3 a4 : zV} : uX7_planRear R 11 [x0, x1, x2, x3, x4, x5] (a4 :: a3 :: a2 :: a1 :: a0 :: st) M ↔ (st.length ≤ 4 ∧ zcn (zv 7 tX7_raise) [a0, a1, a2, a3, a4] M (fun M => uX7_planRear R 14 [x0, x1, x2, x3, x4, x5] st M)) := Iff.trans (zU_step dX7_planRear_11 (Or.inl rfl)) ⟨fun h => ⟨h.2.1, zcn_of h.2.2⟩, fun h => ⟨rfl, h.1, zcn_to h.2⟩⟩
theorem dX7_planRear_14 : decode cX7_planRear 14 = .ok (.aload_n 0, 1) := by decide +kernel
theorem rX7_planRear_14 {R : zP} {x1 x2 x3 x4 x5 : Option zV} {st : List zV} {M : zM} {a : Nat} : uX7_planRear R 14 [some (.inr (.inr a)), x1, x2, x3, x4, x5] st M ↔ uX7_planRear R 15 [some (.inr (.inr a)), x1, x2, x3, x4, x5] (.inr (.inr a) :: st) M := zU_step dX7_planRear_14 (Or.inl rfl)
theorem dX7_planRear_15 : decode cX7_planRear 15 = .ok (.getfield 55, 3) := by decide +kernel
theorem rX7_planRear_15 {R : zP} {x0 x1 x2 x3 x4 x5 : Option zV} {st : List zV} {M : zM} {r : Nat} : uX7_planRear R 15 [x0, x1, x2, x3, x4, x5] (.inr (.inr r) :: st) M ↔ zgetx fX7 55 r M (fun v => uX7_planRear R 18 [x0, x1, x2, x3, x4, x5] (v :: st) M) := zU_step dX7_planRear_15 (Or.inl rfl)
theorem dX7_planRear_18 : decode cX7_planRear 18 = .ok (.iload_n 2, 1) := by decide +kernel
theorem rX7_planRear_18 {R : zP} {x0 x1 x3 x4 x5 : Option zV} {st : List zV} {M : zM} {a : Int} : uX7_planRear R 18 [x0, x1, some (.inl a), x3, x4, x5] st M ↔ uX7_planRear R 19 [x0, x1, some (.inl a), x3, x4, x5] (.inl a :: st) M := zU_step dX7_planRear_18 (Or.inl rfl)
theorem dX7_planRear_19 : decode cX7_planRear 19 = .ok (.iload_n 3, 1) := by decide +kernel
theorem rX7_planRear_19 {R : zP} {x0 x1 x2 x4 x5 : Option zV} {st : List zV} {M : zM} {a : Int} : uX7_planRear R 19 [x0, x1, x2, some (.inl a), x4, x5] st M ↔ uX7_planRear R 20 [x0, x1, x2, some (.inl a), x4, x5] (.inl a :: st) M := zU_step dX7_planRear_19 (Or.inl rfl)
theorem dX7_planRear_20 : decode cX7_planRear 20 = .ok (.invokevirtual 372, 3) := by decide +kernel
theorem rX7_planRear_20 {R : zP} {x0 x1 x2 x3 x4 x5 : Option zV} {st : List zV} {M : zM} {a0 a1 a2 : zV} : uX7_planRear R 20 [x0, x1, x2, x3, x4, x5] (a2 :: a1 :: a0 :: st) M ↔ (st.length ≤ 4 ∧ zcv (zv 3 tX3_speaks) [a0, a1, a2] M (fun v M => uX7_planRear R 23 [x0, x1, x2, x3, x4, x5] (v :: st) M)) := Iff.trans (zU_step dX7_planRear_20 (Or.inl rfl)) ⟨fun h => ⟨h.2.1, zcv_of h.2.2⟩, fun h => ⟨rfl, h.1, zcv_to h.2⟩⟩
theorem dX7_planRear_23 : decode cX7_planRear 23 = .ok (.ifCond .eq 14, 3) := by decide +kernel
theorem rX7_planRear_23 {R : zP} {x0 x1 x2 x3 x4 x5 : Option zV} {st : List zV} {M : zM} {a : Int} : uX7_planRear R 23 [x0, x1, x2, x3, x4, x5] (.inl a :: st) M ↔ (zIR a ∧ if a = 0 then uX7_planRear R 37 [x0, x1, x2, x3, x4, x5] st M else uX7_planRear R 26 [x0, x1, x2, x3, x4, x5] st M) := Iff.trans (zU_step dX7_planRear_23 (Or.inl rfl)) ⟨fun h => ⟨h.1.1, (zite (c := a = 0)).mpr h.2⟩, fun h => ⟨⟨h.1, by decide⟩, (zite (c := a = 0)).mp h.2⟩⟩
theorem dX7_planRear_26 : decode cX7_planRear 26 = .ok (.aload_n 0, 1) := by decide +kernel
theorem rX7_planRear_26 {R : zP} {x1 x2 x3 x4 x5 : Option zV} {st : List zV} {M : zM} {a : Nat} : uX7_planRear R 26 [some (.inr (.inr a)), x1, x2, x3, x4, x5] st M ↔ uX7_planRear R 27 [some (.inr (.inr a)), x1, x2, x3, x4, x5] (.inr (.inr a) :: st) M := zU_step dX7_planRear_26 (Or.inl rfl)
theorem dX7_planRear_27 : decode cX7_planRear 27 = .ok (.getfield 65, 3) := by decide +kernel
theorem rX7_planRear_27 {R : zP} {x0 x1 x2 x3 x4 x5 : Option zV} {st : List zV} {M : zM} {r : Nat} : uX7_planRear R 27 [x0, x1, x2, x3, x4, x5] (.inr (.inr r) :: st) M ↔ zgetx fX7 65 r M (fun v => uX7_planRear R 30 [x0, x1, x2, x3, x4, x5] (v :: st) M) := zU_step dX7_planRear_27 (Or.inl rfl)
theorem dX7_planRear_30 : decode cX7_planRear 30 = .ok (.iconst 0, 1) := by decide +kernel
theorem rX7_planRear_30 {R : zP} {x0 x1 x2 x3 x4 x5 : Option zV} {st : List zV} {M : zM} : uX7_planRear R 30 [x0, x1, x2, x3, x4, x5] st M ↔ uX7_planRear R 31 [x0, x1, x2, x3, x4, x5] (.inl (0) :: st) M := zU_step dX7_planRear_30 (Or.inl rfl)
theorem dX7_planRear_31 : decode cX7_planRear 31 = .ok (.iconst (-1), 1) := by decide +kernel
theorem rX7_planRear_31 {R : zP} {x0 x1 x2 x3 x4 x5 : Option zV} {st : List zV} {M : zM} : uX7_planRear R 31 [x0, x1, x2, x3, x4, x5] st M ↔ uX7_planRear R 32 [x0, x1, x2, x3, x4, x5] (.inl (-1) :: st) M := zU_step dX7_planRear_31 (Or.inl rfl)
theorem dX7_planRear_32 : decode cX7_planRear 32 = .ok (.iconst (-1), 1) := by decide +kernel
theorem rX7_planRear_32 {R : zP} {x0 x1 x2 x3 x4 x5 : Option zV} {st : List zV} {M : zM} : uX7_planRear R 32 [x0, x1, x2, x3, x4, x5] st M ↔ uX7_planRear R 33 [x0, x1, x2, x3, x4, x5] (.inl (-1) :: st) M := zU_step dX7_planRear_32 (Or.inl rfl)
theorem dX7_planRear_33 : decode cX7_planRear 33 = .ok (.invokevirtual 375, 3) := by decide +kernel
theorem rX7_planRear_33 {R : zP} {x0 x1 x2 x3 x4 x5 : Option zV} {st : List zV} {M : zM} {a0 a1 a2 a3 : zV} : uX7_planRear R 33 [x0, x1, x2, x3, x4, x5] (a3 :: a2 :: a1 :: a0 :: st) M ↔ (st.length ≤ 4 ∧ zcn (zv 2 tX2_become) [a0, a1, a2, a3] M (fun M => uX7_planRear R 36 [x0, x1, x2, x3, x4, x5] st M)) := Iff.trans (zU_step dX7_planRear_33 (Or.inl rfl)) ⟨fun h => ⟨h.2.1, zcn_of h.2.2⟩, fun h => ⟨rfl, h.1, zcn_to h.2⟩⟩
theorem dX7_planRear_36 : decode cX7_planRear 36 = .ok (.return_, 1) := by decide +kernel
theorem rX7_planRear_36 {R : zP} {x0 x1 x2 x3 x4 x5 : Option zV} {M : zM} : uX7_planRear R 36 [x0, x1, x2, x3, x4, x5] [] M ↔ R none M := Iff.trans (zU_step dX7_planRear_36 (Or.inl rfl)) ⟨fun h => h.2.2, fun h => ⟨rfl, rfl, h⟩⟩
theorem dX7_planRear_37 : decode cX7_planRear 37 = .ok (.iconst 0, 1) := by decide +kernel
theorem rX7_planRear_37 {R : zP} {x0 x1 x2 x3 x4 x5 : Option zV} {st : List zV} {M : zM} : uX7_planRear R 37 [x0, x1, x2, x3, x4, x5] st M ↔ uX7_planRear R 38 [x0, x1, x2, x3, x4, x5] (.inl (0) :: st) M := zU_step dX7_planRear_37 (Or.inl rfl)
theorem dX7_planRear_38 : decode cX7_planRear 38 = .ok (.istore 4, 2) := by decide +kernel
theorem rX7_planRear_38 {R : zP} {x0 x1 x2 x4 x5 : Option zV} {st : List zV} {M : zM} {a : Int} {y : Int} : uX7_planRear R 38 [x0, x1, x2, some (.inl y), x4, x5] (.inl a :: st) M ↔ uX7_planRear R 40 [x0, x1, x2, some (.inl y), some (.inl a), x5] st M := Iff.trans (zU_step dX7_planRear_38 (Or.inl rfl)) ⟨fun h => h.2, fun h => ⟨show 4 < 6 by decide, h⟩⟩
theorem rX7_planRear_38z {R : zP} {x0 x1 x2 x3 x4 x5 : Option zV} {st : List zV} {M : zM} {a : Int} : uX7_planRear R 38 [x0, x1, x2, x3, x4, x5] (.inl a :: st) M ↔ uX7_planRear R 40 [x0, x1, x2, zkeep x3, some (.inl a), x5] st M := Iff.trans (zU_step dX7_planRear_38 (Or.inl rfl)) ⟨fun h => h.2, fun h => ⟨show 4 < 6 by decide, h⟩⟩
theorem dX7_planRear_40 : decode cX7_planRear 40 = .ok (.iload 4, 2) := by decide +kernel
theorem rX7_planRear_40 {R : zP} {x0 x1 x2 x3 x5 : Option zV} {st : List zV} {M : zM} {a : Int} : uX7_planRear R 40 [x0, x1, x2, x3, some (.inl a), x5] st M ↔ uX7_planRear R 42 [x0, x1, x2, x3, some (.inl a), x5] (.inl a :: st) M := zU_step dX7_planRear_40 (Or.inl rfl)
theorem dX7_planRear_42 : decode cX7_planRear 42 = .ok (.aload_n 0, 1) := by decide +kernel
theorem rX7_planRear_42 {R : zP} {x1 x2 x3 x4 x5 : Option zV} {st : List zV} {M : zM} {a : Nat} : uX7_planRear R 42 [some (.inr (.inr a)), x1, x2, x3, x4, x5] st M ↔ uX7_planRear R 43 [some (.inr (.inr a)), x1, x2, x3, x4, x5] (.inr (.inr a) :: st) M := zU_step dX7_planRear_42 (Or.inl rfl)
theorem dX7_planRear_43 : decode cX7_planRear 43 = .ok (.getfield 22, 3) := by decide +kernel
theorem rX7_planRear_43 {R : zP} {x0 x1 x2 x3 x4 x5 : Option zV} {st : List zV} {M : zM} {r : Nat} : uX7_planRear R 43 [x0, x1, x2, x3, x4, x5] (.inr (.inr r) :: st) M ↔ zgetx fX7 22 r M (fun v => uX7_planRear R 46 [x0, x1, x2, x3, x4, x5] (v :: st) M) := zU_step dX7_planRear_43 (Or.inl rfl)
theorem dX7_planRear_46 : decode cX7_planRear 46 = .ok (.getfield 116, 3) := by decide +kernel
theorem rX7_planRear_46 {R : zP} {x0 x1 x2 x3 x4 x5 : Option zV} {st : List zV} {M : zM} {r : Nat} : uX7_planRear R 46 [x0, x1, x2, x3, x4, x5] (.inr (.inr r) :: st) M ↔ zgetx fX7 116 r M (fun v => uX7_planRear R 49 [x0, x1, x2, x3, x4, x5] (v :: st) M) := zU_step dX7_planRear_46 (Or.inl rfl)
theorem dX7_planRear_49 : decode cX7_planRear 49 = .ok (.if_icmp .ge 33, 3) := by decide +kernel
theorem rX7_planRear_49 {R : zP} {x0 x1 x2 x3 x4 x5 : Option zV} {st : List zV} {M : zM} {a b : Int} : uX7_planRear R 49 [x0, x1, x2, x3, x4, x5] (.inl b :: .inl a :: st) M ↔ ((zIR a ∧ zIR b) ∧ if b ≤ a then uX7_planRear R 82 [x0, x1, x2, x3, x4, x5] st M else uX7_planRear R 52 [x0, x1, x2, x3, x4, x5] st M) := Iff.trans (zU_step dX7_planRear_49 (Or.inl rfl)) ⟨fun h => ⟨⟨h.1.1, h.1.2.1⟩, (zite (c := b ≤ a)).mpr h.2⟩, fun h => ⟨⟨h.1.1, h.1.2, by decide⟩, (zite (c := b ≤ a)).mp h.2⟩⟩
theorem dX7_planRear_52 : decode cX7_planRear 52 = .ok (.aload_n 0, 1) := by decide +kernel
theorem rX7_planRear_52 {R : zP} {x1 x2 x3 x4 x5 : Option zV} {st : List zV} {M : zM} {a : Nat} : uX7_planRear R 52 [some (.inr (.inr a)), x1, x2, x3, x4, x5] st M ↔ uX7_planRear R 53 [some (.inr (.inr a)), x1, x2, x3, x4, x5] (.inr (.inr a) :: st) M := zU_step dX7_planRear_52 (Or.inl rfl)
theorem dX7_planRear_53 : decode cX7_planRear 53 = .ok (.iload 4, 2) := by decide +kernel
theorem rX7_planRear_53 {R : zP} {x0 x1 x2 x3 x5 : Option zV} {st : List zV} {M : zM} {a : Int} : uX7_planRear R 53 [x0, x1, x2, x3, some (.inl a), x5] st M ↔ uX7_planRear R 55 [x0, x1, x2, x3, some (.inl a), x5] (.inl a :: st) M := zU_step dX7_planRear_53 (Or.inl rfl)
theorem dX7_planRear_55 : decode cX7_planRear 55 = .ok (.iconst (-1), 1) := by decide +kernel
theorem rX7_planRear_55 {R : zP} {x0 x1 x2 x3 x4 x5 : Option zV} {st : List zV} {M : zM} : uX7_planRear R 55 [x0, x1, x2, x3, x4, x5] st M ↔ uX7_planRear R 56 [x0, x1, x2, x3, x4, x5] (.inl (-1) :: st) M := zU_step dX7_planRear_55 (Or.inl rfl)
theorem dX7_planRear_56 : decode cX7_planRear 56 = .ok (.iload_n 2, 1) := by decide +kernel
theorem rX7_planRear_56 {R : zP} {x0 x1 x3 x4 x5 : Option zV} {st : List zV} {M : zM} {a : Int} : uX7_planRear R 56 [x0, x1, some (.inl a), x3, x4, x5] st M ↔ uX7_planRear R 57 [x0, x1, some (.inl a), x3, x4, x5] (.inl a :: st) M := zU_step dX7_planRear_56 (Or.inl rfl)
theorem dX7_planRear_57 : decode cX7_planRear 57 = .ok (.iload_n 3, 1) := by decide +kernel
theorem rX7_planRear_57 {R : zP} {x0 x1 x2 x4 x5 : Option zV} {st : List zV} {M : zM} {a : Int} : uX7_planRear R 57 [x0, x1, x2, some (.inl a), x4, x5] st M ↔ uX7_planRear R 58 [x0, x1, x2, some (.inl a), x4, x5] (.inl a :: st) M := zU_step dX7_planRear_57 (Or.inl rfl)
theorem dX7_planRear_58 : decode cX7_planRear 58 = .ok (.invokevirtual 377, 3) := by decide +kernel
theorem rX7_planRear_58 {R : zP} {x0 x1 x2 x3 x4 x5 : Option zV} {st : List zV} {M : zM} {a0 a1 a2 a3 a4 : zV} : uX7_planRear R 58 [x0, x1, x2, x3, x4, x5] (a4 :: a3 :: a2 :: a1 :: a0 :: st) M ↔ (st.length ≤ 4 ∧ zcv (zv 7 tX7_speaksBy) [a0, a1, a2, a3, a4] M (fun v M => uX7_planRear R 61 [x0, x1, x2, x3, x4, x5] (v :: st) M)) := Iff.trans (zU_step dX7_planRear_58 (Or.inl rfl)) ⟨fun h => ⟨h.2.1, zcv_of h.2.2⟩, fun h => ⟨rfl, h.1, zcv_to h.2⟩⟩
theorem dX7_planRear_61 : decode cX7_planRear 61 = .ok (.ifCond .eq 15, 3) := by decide +kernel
theorem rX7_planRear_61 {R : zP} {x0 x1 x2 x3 x4 x5 : Option zV} {st : List zV} {M : zM} {a : Int} : uX7_planRear R 61 [x0, x1, x2, x3, x4, x5] (.inl a :: st) M ↔ (zIR a ∧ if a = 0 then uX7_planRear R 76 [x0, x1, x2, x3, x4, x5] st M else uX7_planRear R 64 [x0, x1, x2, x3, x4, x5] st M) := Iff.trans (zU_step dX7_planRear_61 (Or.inl rfl)) ⟨fun h => ⟨h.1.1, (zite (c := a = 0)).mpr h.2⟩, fun h => ⟨⟨h.1, by decide⟩, (zite (c := a = 0)).mp h.2⟩⟩
theorem dX7_planRear_64 : decode cX7_planRear 64 = .ok (.aload_n 0, 1) := by decide +kernel
theorem rX7_planRear_64 {R : zP} {x1 x2 x3 x4 x5 : Option zV} {st : List zV} {M : zM} {a : Nat} : uX7_planRear R 64 [some (.inr (.inr a)), x1, x2, x3, x4, x5] st M ↔ uX7_planRear R 65 [some (.inr (.inr a)), x1, x2, x3, x4, x5] (.inr (.inr a) :: st) M := zU_step dX7_planRear_64 (Or.inl rfl)
theorem dX7_planRear_65 : decode cX7_planRear 65 = .ok (.getfield 65, 3) := by decide +kernel
theorem rX7_planRear_65 {R : zP} {x0 x1 x2 x3 x4 x5 : Option zV} {st : List zV} {M : zM} {r : Nat} : uX7_planRear R 65 [x0, x1, x2, x3, x4, x5] (.inr (.inr r) :: st) M ↔ zgetx fX7 65 r M (fun v => uX7_planRear R 68 [x0, x1, x2, x3, x4, x5] (v :: st) M) := zU_step dX7_planRear_65 (Or.inl rfl)
theorem dX7_planRear_68 : decode cX7_planRear 68 = .ok (.iconst 1, 1) := by decide +kernel
theorem rX7_planRear_68 {R : zP} {x0 x1 x2 x3 x4 x5 : Option zV} {st : List zV} {M : zM} : uX7_planRear R 68 [x0, x1, x2, x3, x4, x5] st M ↔ uX7_planRear R 69 [x0, x1, x2, x3, x4, x5] (.inl (1) :: st) M := zU_step dX7_planRear_68 (Or.inl rfl)
theorem dX7_planRear_69 : decode cX7_planRear 69 = .ok (.iload 4, 2) := by decide +kernel
theorem rX7_planRear_69 {R : zP} {x0 x1 x2 x3 x5 : Option zV} {st : List zV} {M : zM} {a : Int} : uX7_planRear R 69 [x0, x1, x2, x3, some (.inl a), x5] st M ↔ uX7_planRear R 71 [x0, x1, x2, x3, some (.inl a), x5] (.inl a :: st) M := zU_step dX7_planRear_69 (Or.inl rfl)
theorem dX7_planRear_71 : decode cX7_planRear 71 = .ok (.iconst (-1), 1) := by decide +kernel
theorem rX7_planRear_71 {R : zP} {x0 x1 x2 x3 x4 x5 : Option zV} {st : List zV} {M : zM} : uX7_planRear R 71 [x0, x1, x2, x3, x4, x5] st M ↔ uX7_planRear R 72 [x0, x1, x2, x3, x4, x5] (.inl (-1) :: st) M := zU_step dX7_planRear_71 (Or.inl rfl)
theorem dX7_planRear_72 : decode cX7_planRear 72 = .ok (.invokevirtual 375, 3) := by decide +kernel
theorem rX7_planRear_72 {R : zP} {x0 x1 x2 x3 x4 x5 : Option zV} {st : List zV} {M : zM} {a0 a1 a2 a3 : zV} : uX7_planRear R 72 [x0, x1, x2, x3, x4, x5] (a3 :: a2 :: a1 :: a0 :: st) M ↔ (st.length ≤ 4 ∧ zcn (zv 2 tX2_become) [a0, a1, a2, a3] M (fun M => uX7_planRear R 75 [x0, x1, x2, x3, x4, x5] st M)) := Iff.trans (zU_step dX7_planRear_72 (Or.inl rfl)) ⟨fun h => ⟨h.2.1, zcn_of h.2.2⟩, fun h => ⟨rfl, h.1, zcn_to h.2⟩⟩
theorem dX7_planRear_75 : decode cX7_planRear 75 = .ok (.return_, 1) := by decide +kernel
theorem rX7_planRear_75 {R : zP} {x0 x1 x2 x3 x4 x5 : Option zV} {M : zM} : uX7_planRear R 75 [x0, x1, x2, x3, x4, x5] [] M ↔ R none M := Iff.trans (zU_step dX7_planRear_75 (Or.inl rfl)) ⟨fun h => h.2.2, fun h => ⟨rfl, rfl, h⟩⟩
theorem dX7_planRear_76 : decode cX7_planRear 76 = .ok (.iinc 4 1, 3) := by decide +kernel
theorem rX7_planRear_76 {R : zP} {x0 x1 x2 x5 : Option zV} {st : List zV} {M : zM} {a : Int} {y : Int} : uX7_planRear R 76 [x0, x1, x2, some (.inl y), some (.inl a), x5] st M ↔ uX7_planRear R 79 [x0, x1, x2, some (.inl y), some (.inl (a + (1))), x5] st M := Iff.trans (zU_step dX7_planRear_76 (Or.inl rfl)) ⟨fun h => h.2, fun h => ⟨show 4 < 6 by decide, h⟩⟩
theorem rX7_planRear_76z {R : zP} {x0 x1 x2 x3 x5 : Option zV} {st : List zV} {M : zM} {a : Int} : uX7_planRear R 76 [x0, x1, x2, x3, some (.inl a), x5] st M ↔ uX7_planRear R 79 [x0, x1, x2, zkeep x3, some (.inl (a + (1))), x5] st M := Iff.trans (zU_step dX7_planRear_76 (Or.inl rfl)) ⟨fun h => h.2, fun h => ⟨show 4 < 6 by decide, h⟩⟩
theorem dX7_planRear_79 : decode cX7_planRear 79 = .ok (.goto (-39), 3) := by decide +kernel
theorem rX7_planRear_79 {R : zP} {x0 x1 x2 x3 x4 x5 : Option zV} {st : List zV} {M : zM} : uX7_planRear R 79 [x0, x1, x2, x3, x4, x5] st M ↔ uX7_planRear R 40 [x0, x1, x2, x3, x4, x5] st M := Iff.trans (zU_step dX7_planRear_79 (Or.inl rfl)) ⟨fun h => h.2, fun h => ⟨by decide, h⟩⟩
theorem dX7_planRear_82 : decode cX7_planRear 82 = .ok (.iconst 0, 1) := by decide +kernel
theorem rX7_planRear_82 {R : zP} {x0 x1 x2 x3 x4 x5 : Option zV} {st : List zV} {M : zM} : uX7_planRear R 82 [x0, x1, x2, x3, x4, x5] st M ↔ uX7_planRear R 83 [x0, x1, x2, x3, x4, x5] (.inl (0) :: st) M := zU_step dX7_planRear_82 (Or.inl rfl)
theorem dX7_planRear_83 : decode cX7_planRear 83 = .ok (.istore 4, 2) := by decide +kernel
theorem rX7_planRear_83 {R : zP} {x0 x1 x2 x4 x5 : Option zV} {st : List zV} {M : zM} {a : Int} {y : Int} : uX7_planRear R 83 [x0, x1, x2, some (.inl y), x4, x5] (.inl a :: st) M ↔ uX7_planRear R 85 [x0, x1, x2, some (.inl y), some (.inl a), x5] st M := Iff.trans (zU_step dX7_planRear_83 (Or.inl rfl)) ⟨fun h => h.2, fun h => ⟨show 4 < 6 by decide, h⟩⟩
theorem rX7_planRear_83z {R : zP} {x0 x1 x2 x3 x4 x5 : Option zV} {st : List zV} {M : zM} {a : Int} : uX7_planRear R 83 [x0, x1, x2, x3, x4, x5] (.inl a :: st) M ↔ uX7_planRear R 85 [x0, x1, x2, zkeep x3, some (.inl a), x5] st M := Iff.trans (zU_step dX7_planRear_83 (Or.inl rfl)) ⟨fun h => h.2, fun h => ⟨show 4 < 6 by decide, h⟩⟩
theorem dX7_planRear_85 : decode cX7_planRear 85 = .ok (.iload 4, 2) := by decide +kernel
theorem rX7_planRear_85 {R : zP} {x0 x1 x2 x3 x5 : Option zV} {st : List zV} {M : zM} {a : Int} : uX7_planRear R 85 [x0, x1, x2, x3, some (.inl a), x5] st M ↔ uX7_planRear R 87 [x0, x1, x2, x3, some (.inl a), x5] (.inl a :: st) M := zU_step dX7_planRear_85 (Or.inl rfl)
theorem dX7_planRear_87 : decode cX7_planRear 87 = .ok (.aload_n 0, 1) := by decide +kernel
theorem rX7_planRear_87 {R : zP} {x1 x2 x3 x4 x5 : Option zV} {st : List zV} {M : zM} {a : Nat} : uX7_planRear R 87 [some (.inr (.inr a)), x1, x2, x3, x4, x5] st M ↔ uX7_planRear R 88 [some (.inr (.inr a)), x1, x2, x3, x4, x5] (.inr (.inr a) :: st) M := zU_step dX7_planRear_87 (Or.inl rfl)
theorem dX7_planRear_88 : decode cX7_planRear 88 = .ok (.getfield 22, 3) := by decide +kernel
theorem rX7_planRear_88 {R : zP} {x0 x1 x2 x3 x4 x5 : Option zV} {st : List zV} {M : zM} {r : Nat} : uX7_planRear R 88 [x0, x1, x2, x3, x4, x5] (.inr (.inr r) :: st) M ↔ zgetx fX7 22 r M (fun v => uX7_planRear R 91 [x0, x1, x2, x3, x4, x5] (v :: st) M) := zU_step dX7_planRear_88 (Or.inl rfl)
theorem dX7_planRear_91 : decode cX7_planRear 91 = .ok (.getfield 116, 3) := by decide +kernel
theorem rX7_planRear_91 {R : zP} {x0 x1 x2 x3 x4 x5 : Option zV} {st : List zV} {M : zM} {r : Nat} : uX7_planRear R 91 [x0, x1, x2, x3, x4, x5] (.inr (.inr r) :: st) M ↔ zgetx fX7 116 r M (fun v => uX7_planRear R 94 [x0, x1, x2, x3, x4, x5] (v :: st) M) := zU_step dX7_planRear_91 (Or.inl rfl)
theorem dX7_planRear_94 : decode cX7_planRear 94 = .ok (.if_icmp .ge 56, 3) := by decide +kernel
theorem rX7_planRear_94 {R : zP} {x0 x1 x2 x3 x4 x5 : Option zV} {st : List zV} {M : zM} {a b : Int} : uX7_planRear R 94 [x0, x1, x2, x3, x4, x5] (.inl b :: .inl a :: st) M ↔ ((zIR a ∧ zIR b) ∧ if b ≤ a then uX7_planRear R 150 [x0, x1, x2, x3, x4, x5] st M else uX7_planRear R 97 [x0, x1, x2, x3, x4, x5] st M) := Iff.trans (zU_step dX7_planRear_94 (Or.inl rfl)) ⟨fun h => ⟨⟨h.1.1, h.1.2.1⟩, (zite (c := b ≤ a)).mpr h.2⟩, fun h => ⟨⟨h.1.1, h.1.2, by decide⟩, (zite (c := b ≤ a)).mp h.2⟩⟩
theorem dX7_planRear_97 : decode cX7_planRear 97 = .ok (.iconst 0, 1) := by decide +kernel
theorem rX7_planRear_97 {R : zP} {x0 x1 x2 x3 x4 x5 : Option zV} {st : List zV} {M : zM} : uX7_planRear R 97 [x0, x1, x2, x3, x4, x5] st M ↔ uX7_planRear R 98 [x0, x1, x2, x3, x4, x5] (.inl (0) :: st) M := zU_step dX7_planRear_97 (Or.inl rfl)
theorem dX7_planRear_98 : decode cX7_planRear 98 = .ok (.istore 5, 2) := by decide +kernel
theorem rX7_planRear_98 {R : zP} {x0 x1 x2 x3 x5 : Option zV} {st : List zV} {M : zM} {a : Int} {y : Int} : uX7_planRear R 98 [x0, x1, x2, x3, some (.inl y), x5] (.inl a :: st) M ↔ uX7_planRear R 100 [x0, x1, x2, x3, some (.inl y), some (.inl a)] st M := Iff.trans (zU_step dX7_planRear_98 (Or.inl rfl)) ⟨fun h => h.2, fun h => ⟨show 5 < 6 by decide, h⟩⟩
theorem rX7_planRear_98z {R : zP} {x0 x1 x2 x3 x4 x5 : Option zV} {st : List zV} {M : zM} {a : Int} : uX7_planRear R 98 [x0, x1, x2, x3, x4, x5] (.inl a :: st) M ↔ uX7_planRear R 100 [x0, x1, x2, x3, zkeep x4, some (.inl a)] st M := Iff.trans (zU_step dX7_planRear_98 (Or.inl rfl)) ⟨fun h => h.2, fun h => ⟨show 5 < 6 by decide, h⟩⟩
theorem dX7_planRear_100 : decode cX7_planRear 100 = .ok (.iload 5, 2) := by decide +kernel
theorem rX7_planRear_100 {R : zP} {x0 x1 x2 x3 x4 : Option zV} {st : List zV} {M : zM} {a : Int} : uX7_planRear R 100 [x0, x1, x2, x3, x4, some (.inl a)] st M ↔ uX7_planRear R 102 [x0, x1, x2, x3, x4, some (.inl a)] (.inl a :: st) M := zU_step dX7_planRear_100 (Or.inl rfl)
theorem dX7_planRear_102 : decode cX7_planRear 102 = .ok (.aload_n 0, 1) := by decide +kernel
theorem rX7_planRear_102 {R : zP} {x1 x2 x3 x4 x5 : Option zV} {st : List zV} {M : zM} {a : Nat} : uX7_planRear R 102 [some (.inr (.inr a)), x1, x2, x3, x4, x5] st M ↔ uX7_planRear R 103 [some (.inr (.inr a)), x1, x2, x3, x4, x5] (.inr (.inr a) :: st) M := zU_step dX7_planRear_102 (Or.inl rfl)
theorem dX7_planRear_103 : decode cX7_planRear 103 = .ok (.getfield 22, 3) := by decide +kernel
theorem rX7_planRear_103 {R : zP} {x0 x1 x2 x3 x4 x5 : Option zV} {st : List zV} {M : zM} {r : Nat} : uX7_planRear R 103 [x0, x1, x2, x3, x4, x5] (.inr (.inr r) :: st) M ↔ zgetx fX7 22 r M (fun v => uX7_planRear R 106 [x0, x1, x2, x3, x4, x5] (v :: st) M) := zU_step dX7_planRear_103 (Or.inl rfl)
theorem dX7_planRear_106 : decode cX7_planRear 106 = .ok (.getfield 116, 3) := by decide +kernel
theorem rX7_planRear_106 {R : zP} {x0 x1 x2 x3 x4 x5 : Option zV} {st : List zV} {M : zM} {r : Nat} : uX7_planRear R 106 [x0, x1, x2, x3, x4, x5] (.inr (.inr r) :: st) M ↔ zgetx fX7 116 r M (fun v => uX7_planRear R 109 [x0, x1, x2, x3, x4, x5] (v :: st) M) := zU_step dX7_planRear_106 (Or.inl rfl)
theorem dX7_planRear_109 : decode cX7_planRear 109 = .ok (.if_icmp .ge 35, 3) := by decide +kernel
theorem rX7_planRear_109 {R : zP} {x0 x1 x2 x3 x4 x5 : Option zV} {st : List zV} {M : zM} {a b : Int} : uX7_planRear R 109 [x0, x1, x2, x3, x4, x5] (.inl b :: .inl a :: st) M ↔ ((zIR a ∧ zIR b) ∧ if b ≤ a then uX7_planRear R 144 [x0, x1, x2, x3, x4, x5] st M else uX7_planRear R 112 [x0, x1, x2, x3, x4, x5] st M) := Iff.trans (zU_step dX7_planRear_109 (Or.inl rfl)) ⟨fun h => ⟨⟨h.1.1, h.1.2.1⟩, (zite (c := b ≤ a)).mpr h.2⟩, fun h => ⟨⟨h.1.1, h.1.2, by decide⟩, (zite (c := b ≤ a)).mp h.2⟩⟩
theorem dX7_planRear_112 : decode cX7_planRear 112 = .ok (.aload_n 0, 1) := by decide +kernel
theorem rX7_planRear_112 {R : zP} {x1 x2 x3 x4 x5 : Option zV} {st : List zV} {M : zM} {a : Nat} : uX7_planRear R 112 [some (.inr (.inr a)), x1, x2, x3, x4, x5] st M ↔ uX7_planRear R 113 [some (.inr (.inr a)), x1, x2, x3, x4, x5] (.inr (.inr a) :: st) M := zU_step dX7_planRear_112 (Or.inl rfl)
theorem dX7_planRear_113 : decode cX7_planRear 113 = .ok (.iload 4, 2) := by decide +kernel
theorem rX7_planRear_113 {R : zP} {x0 x1 x2 x3 x5 : Option zV} {st : List zV} {M : zM} {a : Int} : uX7_planRear R 113 [x0, x1, x2, x3, some (.inl a), x5] st M ↔ uX7_planRear R 115 [x0, x1, x2, x3, some (.inl a), x5] (.inl a :: st) M := zU_step dX7_planRear_113 (Or.inl rfl)
theorem dX7_planRear_115 : decode cX7_planRear 115 = .ok (.iload 5, 2) := by decide +kernel
theorem rX7_planRear_115 {R : zP} {x0 x1 x2 x3 x4 : Option zV} {st : List zV} {M : zM} {a : Int} : uX7_planRear R 115 [x0, x1, x2, x3, x4, some (.inl a)] st M ↔ uX7_planRear R 117 [x0, x1, x2, x3, x4, some (.inl a)] (.inl a :: st) M := zU_step dX7_planRear_115 (Or.inl rfl)
theorem dX7_planRear_117 : decode cX7_planRear 117 = .ok (.iload_n 2, 1) := by decide +kernel
theorem rX7_planRear_117 {R : zP} {x0 x1 x3 x4 x5 : Option zV} {st : List zV} {M : zM} {a : Int} : uX7_planRear R 117 [x0, x1, some (.inl a), x3, x4, x5] st M ↔ uX7_planRear R 118 [x0, x1, some (.inl a), x3, x4, x5] (.inl a :: st) M := zU_step dX7_planRear_117 (Or.inl rfl)
theorem dX7_planRear_118 : decode cX7_planRear 118 = .ok (.iload_n 3, 1) := by decide +kernel
theorem rX7_planRear_118 {R : zP} {x0 x1 x2 x4 x5 : Option zV} {st : List zV} {M : zM} {a : Int} : uX7_planRear R 118 [x0, x1, x2, some (.inl a), x4, x5] st M ↔ uX7_planRear R 119 [x0, x1, x2, some (.inl a), x4, x5] (.inl a :: st) M := zU_step dX7_planRear_118 (Or.inl rfl)
theorem dX7_planRear_119 : decode cX7_planRear 119 = .ok (.invokevirtual 377, 3) := by decide +kernel
theorem rX7_planRear_119 {R : zP} {x0 x1 x2 x3 x4 x5 : Option zV} {st : List zV} {M : zM} {a0 a1 a2 a3 a4 : zV} : uX7_planRear R 119 [x0, x1, x2, x3, x4, x5] (a4 :: a3 :: a2 :: a1 :: a0 :: st) M ↔ (st.length ≤ 4 ∧ zcv (zv 7 tX7_speaksBy) [a0, a1, a2, a3, a4] M (fun v M => uX7_planRear R 122 [x0, x1, x2, x3, x4, x5] (v :: st) M)) := Iff.trans (zU_step dX7_planRear_119 (Or.inl rfl)) ⟨fun h => ⟨h.2.1, zcv_of h.2.2⟩, fun h => ⟨rfl, h.1, zcv_to h.2⟩⟩
theorem dX7_planRear_122 : decode cX7_planRear 122 = .ok (.ifCond .eq 16, 3) := by decide +kernel
theorem rX7_planRear_122 {R : zP} {x0 x1 x2 x3 x4 x5 : Option zV} {st : List zV} {M : zM} {a : Int} : uX7_planRear R 122 [x0, x1, x2, x3, x4, x5] (.inl a :: st) M ↔ (zIR a ∧ if a = 0 then uX7_planRear R 138 [x0, x1, x2, x3, x4, x5] st M else uX7_planRear R 125 [x0, x1, x2, x3, x4, x5] st M) := Iff.trans (zU_step dX7_planRear_122 (Or.inl rfl)) ⟨fun h => ⟨h.1.1, (zite (c := a = 0)).mpr h.2⟩, fun h => ⟨⟨h.1, by decide⟩, (zite (c := a = 0)).mp h.2⟩⟩
theorem dX7_planRear_125 : decode cX7_planRear 125 = .ok (.aload_n 0, 1) := by decide +kernel
theorem rX7_planRear_125 {R : zP} {x1 x2 x3 x4 x5 : Option zV} {st : List zV} {M : zM} {a : Nat} : uX7_planRear R 125 [some (.inr (.inr a)), x1, x2, x3, x4, x5] st M ↔ uX7_planRear R 126 [some (.inr (.inr a)), x1, x2, x3, x4, x5] (.inr (.inr a) :: st) M := zU_step dX7_planRear_125 (Or.inl rfl)
theorem dX7_planRear_126 : decode cX7_planRear 126 = .ok (.getfield 65, 3) := by decide +kernel
theorem rX7_planRear_126 {R : zP} {x0 x1 x2 x3 x4 x5 : Option zV} {st : List zV} {M : zM} {r : Nat} : uX7_planRear R 126 [x0, x1, x2, x3, x4, x5] (.inr (.inr r) :: st) M ↔ zgetx fX7 65 r M (fun v => uX7_planRear R 129 [x0, x1, x2, x3, x4, x5] (v :: st) M) := zU_step dX7_planRear_126 (Or.inl rfl)
theorem dX7_planRear_129 : decode cX7_planRear 129 = .ok (.iconst 2, 1) := by decide +kernel
theorem rX7_planRear_129 {R : zP} {x0 x1 x2 x3 x4 x5 : Option zV} {st : List zV} {M : zM} : uX7_planRear R 129 [x0, x1, x2, x3, x4, x5] st M ↔ uX7_planRear R 130 [x0, x1, x2, x3, x4, x5] (.inl (2) :: st) M := zU_step dX7_planRear_129 (Or.inl rfl)
theorem dX7_planRear_130 : decode cX7_planRear 130 = .ok (.iload 4, 2) := by decide +kernel
theorem rX7_planRear_130 {R : zP} {x0 x1 x2 x3 x5 : Option zV} {st : List zV} {M : zM} {a : Int} : uX7_planRear R 130 [x0, x1, x2, x3, some (.inl a), x5] st M ↔ uX7_planRear R 132 [x0, x1, x2, x3, some (.inl a), x5] (.inl a :: st) M := zU_step dX7_planRear_130 (Or.inl rfl)
theorem dX7_planRear_132 : decode cX7_planRear 132 = .ok (.iload 5, 2) := by decide +kernel
theorem rX7_planRear_132 {R : zP} {x0 x1 x2 x3 x4 : Option zV} {st : List zV} {M : zM} {a : Int} : uX7_planRear R 132 [x0, x1, x2, x3, x4, some (.inl a)] st M ↔ uX7_planRear R 134 [x0, x1, x2, x3, x4, some (.inl a)] (.inl a :: st) M := zU_step dX7_planRear_132 (Or.inl rfl)
theorem dX7_planRear_134 : decode cX7_planRear 134 = .ok (.invokevirtual 375, 3) := by decide +kernel
theorem rX7_planRear_134 {R : zP} {x0 x1 x2 x3 x4 x5 : Option zV} {st : List zV} {M : zM} {a0 a1 a2 a3 : zV} : uX7_planRear R 134 [x0, x1, x2, x3, x4, x5] (a3 :: a2 :: a1 :: a0 :: st) M ↔ (st.length ≤ 4 ∧ zcn (zv 2 tX2_become) [a0, a1, a2, a3] M (fun M => uX7_planRear R 137 [x0, x1, x2, x3, x4, x5] st M)) := Iff.trans (zU_step dX7_planRear_134 (Or.inl rfl)) ⟨fun h => ⟨h.2.1, zcn_of h.2.2⟩, fun h => ⟨rfl, h.1, zcn_to h.2⟩⟩
theorem dX7_planRear_137 : decode cX7_planRear 137 = .ok (.return_, 1) := by decide +kernel
theorem rX7_planRear_137 {R : zP} {x0 x1 x2 x3 x4 x5 : Option zV} {M : zM} : uX7_planRear R 137 [x0, x1, x2, x3, x4, x5] [] M ↔ R none M := Iff.trans (zU_step dX7_planRear_137 (Or.inl rfl)) ⟨fun h => h.2.2, fun h => ⟨rfl, rfl, h⟩⟩
theorem dX7_planRear_138 : decode cX7_planRear 138 = .ok (.iinc 5 1, 3) := by decide +kernel
theorem rX7_planRear_138 {R : zP} {x0 x1 x2 x3 : Option zV} {st : List zV} {M : zM} {a : Int} {y : Int} : uX7_planRear R 138 [x0, x1, x2, x3, some (.inl y), some (.inl a)] st M ↔ uX7_planRear R 141 [x0, x1, x2, x3, some (.inl y), some (.inl (a + (1)))] st M := Iff.trans (zU_step dX7_planRear_138 (Or.inl rfl)) ⟨fun h => h.2, fun h => ⟨show 5 < 6 by decide, h⟩⟩
theorem rX7_planRear_138z {R : zP} {x0 x1 x2 x3 x4 : Option zV} {st : List zV} {M : zM} {a : Int} : uX7_planRear R 138 [x0, x1, x2, x3, x4, some (.inl a)] st M ↔ uX7_planRear R 141 [x0, x1, x2, x3, zkeep x4, some (.inl (a + (1)))] st M := Iff.trans (zU_step dX7_planRear_138 (Or.inl rfl)) ⟨fun h => h.2, fun h => ⟨show 5 < 6 by decide, h⟩⟩
theorem dX7_planRear_141 : decode cX7_planRear 141 = .ok (.goto (-41), 3) := by decide +kernel
theorem rX7_planRear_141 {R : zP} {x0 x1 x2 x3 x4 x5 : Option zV} {st : List zV} {M : zM} : uX7_planRear R 141 [x0, x1, x2, x3, x4, x5] st M ↔ uX7_planRear R 100 [x0, x1, x2, x3, x4, x5] st M := Iff.trans (zU_step dX7_planRear_141 (Or.inl rfl)) ⟨fun h => h.2, fun h => ⟨by decide, h⟩⟩
theorem dX7_planRear_144 : decode cX7_planRear 144 = .ok (.iinc 4 1, 3) := by decide +kernel
theorem rX7_planRear_144 {R : zP} {x0 x1 x2 x5 : Option zV} {st : List zV} {M : zM} {a : Int} {y : Int} : uX7_planRear R 144 [x0, x1, x2, some (.inl y), some (.inl a), x5] st M ↔ uX7_planRear R 147 [x0, x1, x2, some (.inl y), some (.inl (a + (1))), x5] st M := Iff.trans (zU_step dX7_planRear_144 (Or.inl rfl)) ⟨fun h => h.2, fun h => ⟨show 4 < 6 by decide, h⟩⟩
theorem rX7_planRear_144z {R : zP} {x0 x1 x2 x3 x5 : Option zV} {st : List zV} {M : zM} {a : Int} : uX7_planRear R 144 [x0, x1, x2, x3, some (.inl a), x5] st M ↔ uX7_planRear R 147 [x0, x1, x2, zkeep x3, some (.inl (a + (1))), x5] st M := Iff.trans (zU_step dX7_planRear_144 (Or.inl rfl)) ⟨fun h => h.2, fun h => ⟨show 4 < 6 by decide, h⟩⟩
theorem dX7_planRear_147 : decode cX7_planRear 147 = .ok (.goto (-62), 3) := by decide +kernel
theorem rX7_planRear_147 {R : zP} {x0 x1 x2 x3 x4 x5 : Option zV} {st : List zV} {M : zM} : uX7_planRear R 147 [x0, x1, x2, x3, x4, x5] st M ↔ uX7_planRear R 85 [x0, x1, x2, x3, x4, x5] st M := Iff.trans (zU_step dX7_planRear_147 (Or.inl rfl)) ⟨fun h => h.2, fun h => ⟨by decide, h⟩⟩
theorem dX7_planRear_150 : decode cX7_planRear 150 = .ok (.aload_n 0, 1) := by decide +kernel
theorem rX7_planRear_150 {R : zP} {x1 x2 x3 x4 x5 : Option zV} {st : List zV} {M : zM} {a : Nat} : uX7_planRear R 150 [some (.inr (.inr a)), x1, x2, x3, x4, x5] st M ↔ uX7_planRear R 151 [some (.inr (.inr a)), x1, x2, x3, x4, x5] (.inr (.inr a) :: st) M := zU_step dX7_planRear_150 (Or.inl rfl)
theorem dX7_planRear_151 : decode cX7_planRear 151 = .ok (.getfield 65, 3) := by decide +kernel
theorem rX7_planRear_151 {R : zP} {x0 x1 x2 x3 x4 x5 : Option zV} {st : List zV} {M : zM} {r : Nat} : uX7_planRear R 151 [x0, x1, x2, x3, x4, x5] (.inr (.inr r) :: st) M ↔ zgetx fX7 65 r M (fun v => uX7_planRear R 154 [x0, x1, x2, x3, x4, x5] (v :: st) M) := zU_step dX7_planRear_151 (Or.inl rfl)
theorem dX7_planRear_154 : decode cX7_planRear 154 = .ok (.iconst (-1), 1) := by decide +kernel
theorem rX7_planRear_154 {R : zP} {x0 x1 x2 x3 x4 x5 : Option zV} {st : List zV} {M : zM} : uX7_planRear R 154 [x0, x1, x2, x3, x4, x5] st M ↔ uX7_planRear R 155 [x0, x1, x2, x3, x4, x5] (.inl (-1) :: st) M := zU_step dX7_planRear_154 (Or.inl rfl)
theorem dX7_planRear_155 : decode cX7_planRear 155 = .ok (.iconst (-1), 1) := by decide +kernel
theorem rX7_planRear_155 {R : zP} {x0 x1 x2 x3 x4 x5 : Option zV} {st : List zV} {M : zM} : uX7_planRear R 155 [x0, x1, x2, x3, x4, x5] st M ↔ uX7_planRear R 156 [x0, x1, x2, x3, x4, x5] (.inl (-1) :: st) M := zU_step dX7_planRear_155 (Or.inl rfl)
theorem dX7_planRear_156 : decode cX7_planRear 156 = .ok (.iconst (-1), 1) := by decide +kernel
theorem rX7_planRear_156 {R : zP} {x0 x1 x2 x3 x4 x5 : Option zV} {st : List zV} {M : zM} : uX7_planRear R 156 [x0, x1, x2, x3, x4, x5] st M ↔ uX7_planRear R 157 [x0, x1, x2, x3, x4, x5] (.inl (-1) :: st) M := zU_step dX7_planRear_156 (Or.inl rfl)
theorem dX7_planRear_157 : decode cX7_planRear 157 = .ok (.invokevirtual 375, 3) := by decide +kernel
theorem rX7_planRear_157 {R : zP} {x0 x1 x2 x3 x4 x5 : Option zV} {st : List zV} {M : zM} {a0 a1 a2 a3 : zV} : uX7_planRear R 157 [x0, x1, x2, x3, x4, x5] (a3 :: a2 :: a1 :: a0 :: st) M ↔ (st.length ≤ 4 ∧ zcn (zv 2 tX2_become) [a0, a1, a2, a3] M (fun M => uX7_planRear R 160 [x0, x1, x2, x3, x4, x5] st M)) := Iff.trans (zU_step dX7_planRear_157 (Or.inl rfl)) ⟨fun h => ⟨h.2.1, zcn_of h.2.2⟩, fun h => ⟨rfl, h.1, zcn_to h.2⟩⟩
theorem dX7_planRear_160 : decode cX7_planRear 160 = .ok (.return_, 1) := by decide +kernel
theorem rX7_planRear_160 {R : zP} {x0 x1 x2 x3 x4 x5 : Option zV} {M : zM} : uX7_planRear R 160 [x0, x1, x2, x3, x4, x5] [] M ↔ R none M := Iff.trans (zU_step dX7_planRear_160 (Or.inl rfl)) ⟨fun h => h.2.2, fun h => ⟨rfl, rfl, h⟩⟩
theorem eX7_planRear {R : zP} {M : zM} {a0 : Nat} {p0 : Int} {p1 : Int} {p2 : Int} : tX7_planRear [.inr (.inr a0), .inl p0, .inl p1, .inl p2] M R ↔ uX7_planRear R 0 [some (.inr (.inr a0)), some (.inl p0), some (.inl p1), some (.inl p2), none, none] [] M := ⟨fun h => h.2, fun h => ⟨show 4 ≤ 6 by decide, h⟩⟩
def uX7_rear (R : zP) : zK := zU fX7 vX7_rear cX7_rear R
theorem dX7_rear_0 : decode cX7_rear 0 = .ok (.iload_n 1, 1) := by decide +kernel
theorem rX7_rear_0 {R : zP} {x0 x2 x3 x4 : Option zV} {st : List zV} {M : zM} {a : Int} : uX7_rear R 0 [x0, some (.inl a), x2, x3, x4] st M ↔ uX7_rear R 1 [x0, some (.inl a), x2, x3, x4] (.inl a :: st) M := zU_step dX7_rear_0 (Or.inl rfl)
theorem dX7_rear_1 : decode cX7_rear 1 = .ok (.aload_n 0, 1) := by decide +kernel
theorem rX7_rear_1 {R : zP} {x1 x2 x3 x4 : Option zV} {st : List zV} {M : zM} {a : Nat} : uX7_rear R 1 [some (.inr (.inr a)), x1, x2, x3, x4] st M ↔ uX7_rear R 2 [some (.inr (.inr a)), x1, x2, x3, x4] (.inr (.inr a) :: st) M := zU_step dX7_rear_1 (Or.inl rfl)
theorem dX7_rear_2 : decode cX7_rear 2 = .ok (.getfield 14, 3) := by decide +kernel
theorem rX7_rear_2 {R : zP} {x0 x1 x2 x3 x4 : Option zV} {st : List zV} {M : zM} {r : Nat} : uX7_rear R 2 [x0, x1, x2, x3, x4] (.inr (.inr r) :: st) M ↔ zgetx fX7 14 r M (fun v => uX7_rear R 5 [x0, x1, x2, x3, x4] (v :: st) M) := zU_step dX7_rear_2 (Or.inl rfl)
theorem dX7_rear_5 : decode cX7_rear 5 = .ok (.getfield 116, 3) := by decide +kernel
theorem rX7_rear_5 {R : zP} {x0 x1 x2 x3 x4 : Option zV} {st : List zV} {M : zM} {r : Nat} : uX7_rear R 5 [x0, x1, x2, x3, x4] (.inr (.inr r) :: st) M ↔ zgetx fX7 116 r M (fun v => uX7_rear R 8 [x0, x1, x2, x3, x4] (v :: st) M) := zU_step dX7_rear_5 (Or.inl rfl)
theorem dX7_rear_8 : decode cX7_rear 8 = .ok (.invokestatic 94, 3) := by decide +kernel
theorem rX7_rear_8 {R : zP} {x0 x1 x2 x3 x4 : Option zV} {st : List zV} {M : zM} {a0 a1 : zV} : uX7_rear R 8 [x0, x1, x2, x3, x4] (a1 :: a0 :: st) M ↔ (st.length ≤ 4 ∧ zcv tX7_outside [a0, a1] M (fun v M => uX7_rear R 11 [x0, x1, x2, x3, x4] (v :: st) M)) := Iff.trans (zU_step dX7_rear_8 (Or.inl rfl)) ⟨fun h => ⟨h.2.1, zcv_of h.2.2⟩, fun h => ⟨rfl, h.1, zcv_to h.2⟩⟩
theorem dX7_rear_11 : decode cX7_rear 11 = .ok (.ifCond .ne 32, 3) := by decide +kernel
theorem rX7_rear_11 {R : zP} {x0 x1 x2 x3 x4 : Option zV} {st : List zV} {M : zM} {a : Int} : uX7_rear R 11 [x0, x1, x2, x3, x4] (.inl a :: st) M ↔ (zIR a ∧ if a ≠ 0 then uX7_rear R 43 [x0, x1, x2, x3, x4] st M else uX7_rear R 14 [x0, x1, x2, x3, x4] st M) := Iff.trans (zU_step dX7_rear_11 (Or.inl rfl)) ⟨fun h => ⟨h.1.1, (zite (c := a ≠ 0)).mpr h.2⟩, fun h => ⟨⟨h.1, by decide⟩, (zite (c := a ≠ 0)).mp h.2⟩⟩
theorem dX7_rear_14 : decode cX7_rear 14 = .ok (.iload_n 2, 1) := by decide +kernel
theorem rX7_rear_14 {R : zP} {x0 x1 x3 x4 : Option zV} {st : List zV} {M : zM} {a : Int} : uX7_rear R 14 [x0, x1, some (.inl a), x3, x4] st M ↔ uX7_rear R 15 [x0, x1, some (.inl a), x3, x4] (.inl a :: st) M := zU_step dX7_rear_14 (Or.inl rfl)
theorem dX7_rear_15 : decode cX7_rear 15 = .ok (.iconst 4, 1) := by decide +kernel
theorem rX7_rear_15 {R : zP} {x0 x1 x2 x3 x4 : Option zV} {st : List zV} {M : zM} : uX7_rear R 15 [x0, x1, x2, x3, x4] st M ↔ uX7_rear R 16 [x0, x1, x2, x3, x4] (.inl (4) :: st) M := zU_step dX7_rear_15 (Or.inl rfl)
theorem dX7_rear_16 : decode cX7_rear 16 = .ok (.invokestatic 94, 3) := by decide +kernel
theorem rX7_rear_16 {R : zP} {x0 x1 x2 x3 x4 : Option zV} {st : List zV} {M : zM} {a0 a1 : zV} : uX7_rear R 16 [x0, x1, x2, x3, x4] (a1 :: a0 :: st) M ↔ (st.length ≤ 4 ∧ zcv tX7_outside [a0, a1] M (fun v M => uX7_rear R 19 [x0, x1, x2, x3, x4] (v :: st) M)) := Iff.trans (zU_step dX7_rear_16 (Or.inl rfl)) ⟨fun h => ⟨h.2.1, zcv_of h.2.2⟩, fun h => ⟨rfl, h.1, zcv_to h.2⟩⟩
theorem dX7_rear_19 : decode cX7_rear 19 = .ok (.ifCond .ne 24, 3) := by decide +kernel
theorem rX7_rear_19 {R : zP} {x0 x1 x2 x3 x4 : Option zV} {st : List zV} {M : zM} {a : Int} : uX7_rear R 19 [x0, x1, x2, x3, x4] (.inl a :: st) M ↔ (zIR a ∧ if a ≠ 0 then uX7_rear R 43 [x0, x1, x2, x3, x4] st M else uX7_rear R 22 [x0, x1, x2, x3, x4] st M) := Iff.trans (zU_step dX7_rear_19 (Or.inl rfl)) ⟨fun h => ⟨h.1.1, (zite (c := a ≠ 0)).mpr h.2⟩, fun h => ⟨⟨h.1, by decide⟩, (zite (c := a ≠ 0)).mp h.2⟩⟩
theorem dX7_rear_22 : decode cX7_rear 22 = .ok (.iload_n 3, 1) := by decide +kernel
theorem rX7_rear_22 {R : zP} {x0 x1 x2 x4 : Option zV} {st : List zV} {M : zM} {a : Int} : uX7_rear R 22 [x0, x1, x2, some (.inl a), x4] st M ↔ uX7_rear R 23 [x0, x1, x2, some (.inl a), x4] (.inl a :: st) M := zU_step dX7_rear_22 (Or.inl rfl)
theorem dX7_rear_23 : decode cX7_rear 23 = .ok (.bipush 10, 2) := by decide +kernel
theorem rX7_rear_23 {R : zP} {x0 x1 x2 x3 x4 : Option zV} {st : List zV} {M : zM} : uX7_rear R 23 [x0, x1, x2, x3, x4] st M ↔ uX7_rear R 25 [x0, x1, x2, x3, x4] (.inl (10) :: st) M := Iff.trans (zU_step dX7_rear_23 (Or.inl rfl)) ⟨fun h => h.2, fun h => ⟨by decide, h⟩⟩
theorem dX7_rear_25 : decode cX7_rear 25 = .ok (.invokestatic 94, 3) := by decide +kernel
theorem rX7_rear_25 {R : zP} {x0 x1 x2 x3 x4 : Option zV} {st : List zV} {M : zM} {a0 a1 : zV} : uX7_rear R 25 [x0, x1, x2, x3, x4] (a1 :: a0 :: st) M ↔ (st.length ≤ 4 ∧ zcv tX7_outside [a0, a1] M (fun v M => uX7_rear R 28 [x0, x1, x2, x3, x4] (v :: st) M)) := Iff.trans (zU_step dX7_rear_25 (Or.inl rfl)) ⟨fun h => ⟨h.2.1, zcv_of h.2.2⟩, fun h => ⟨rfl, h.1, zcv_to h.2⟩⟩
theorem dX7_rear_28 : decode cX7_rear 28 = .ok (.ifCond .ne 15, 3) := by decide +kernel
theorem rX7_rear_28 {R : zP} {x0 x1 x2 x3 x4 : Option zV} {st : List zV} {M : zM} {a : Int} : uX7_rear R 28 [x0, x1, x2, x3, x4] (.inl a :: st) M ↔ (zIR a ∧ if a ≠ 0 then uX7_rear R 43 [x0, x1, x2, x3, x4] st M else uX7_rear R 31 [x0, x1, x2, x3, x4] st M) := Iff.trans (zU_step dX7_rear_28 (Or.inl rfl)) ⟨fun h => ⟨h.1.1, (zite (c := a ≠ 0)).mpr h.2⟩, fun h => ⟨⟨h.1, by decide⟩, (zite (c := a ≠ 0)).mp h.2⟩⟩
theorem dX7_rear_31 : decode cX7_rear 31 = .ok (.iload 4, 2) := by decide +kernel
theorem rX7_rear_31 {R : zP} {x0 x1 x2 x3 : Option zV} {st : List zV} {M : zM} {a : Int} : uX7_rear R 31 [x0, x1, x2, x3, some (.inl a)] st M ↔ uX7_rear R 33 [x0, x1, x2, x3, some (.inl a)] (.inl a :: st) M := zU_step dX7_rear_31 (Or.inl rfl)
theorem dX7_rear_33 : decode cX7_rear 33 = .ok (.iconst (-1), 1) := by decide +kernel
theorem rX7_rear_33 {R : zP} {x0 x1 x2 x3 x4 : Option zV} {st : List zV} {M : zM} : uX7_rear R 33 [x0, x1, x2, x3, x4] st M ↔ uX7_rear R 34 [x0, x1, x2, x3, x4] (.inl (-1) :: st) M := zU_step dX7_rear_33 (Or.inl rfl)
theorem dX7_rear_34 : decode cX7_rear 34 = .ok (.if_icmp .lt 9, 3) := by decide +kernel
theorem rX7_rear_34 {R : zP} {x0 x1 x2 x3 x4 : Option zV} {st : List zV} {M : zM} {a b : Int} : uX7_rear R 34 [x0, x1, x2, x3, x4] (.inl b :: .inl a :: st) M ↔ ((zIR a ∧ zIR b) ∧ if a < b then uX7_rear R 43 [x0, x1, x2, x3, x4] st M else uX7_rear R 37 [x0, x1, x2, x3, x4] st M) := Iff.trans (zU_step dX7_rear_34 (Or.inl rfl)) ⟨fun h => ⟨⟨h.1.1, h.1.2.1⟩, (zite (c := a < b)).mpr h.2⟩, fun h => ⟨⟨h.1.1, h.1.2, by decide⟩, (zite (c := a < b)).mp h.2⟩⟩
theorem dX7_rear_37 : decode cX7_rear 37 = .ok (.iload 4, 2) := by decide +kernel
theorem rX7_rear_37 {R : zP} {x0 x1 x2 x3 : Option zV} {st : List zV} {M : zM} {a : Int} : uX7_rear R 37 [x0, x1, x2, x3, some (.inl a)] st M ↔ uX7_rear R 39 [x0, x1, x2, x3, some (.inl a)] (.inl a :: st) M := zU_step dX7_rear_37 (Or.inl rfl)
theorem dX7_rear_39 : decode cX7_rear 39 = .ok (.iconst 1, 1) := by decide +kernel
theorem rX7_rear_39 {R : zP} {x0 x1 x2 x3 x4 : Option zV} {st : List zV} {M : zM} : uX7_rear R 39 [x0, x1, x2, x3, x4] st M ↔ uX7_rear R 40 [x0, x1, x2, x3, x4] (.inl (1) :: st) M := zU_step dX7_rear_39 (Or.inl rfl)
theorem dX7_rear_40 : decode cX7_rear 40 = .ok (.if_icmp .le 6, 3) := by decide +kernel
theorem rX7_rear_40 {R : zP} {x0 x1 x2 x3 x4 : Option zV} {st : List zV} {M : zM} {a b : Int} : uX7_rear R 40 [x0, x1, x2, x3, x4] (.inl b :: .inl a :: st) M ↔ ((zIR a ∧ zIR b) ∧ if a ≤ b then uX7_rear R 46 [x0, x1, x2, x3, x4] st M else uX7_rear R 43 [x0, x1, x2, x3, x4] st M) := Iff.trans (zU_step dX7_rear_40 (Or.inl rfl)) ⟨fun h => ⟨⟨h.1.1, h.1.2.1⟩, (zite (c := a ≤ b)).mpr h.2⟩, fun h => ⟨⟨h.1.1, h.1.2, by decide⟩, (zite (c := a ≤ b)).mp h.2⟩⟩
theorem dX7_rear_43 : decode cX7_rear 43 = .ok (.bipush (-2), 2) := by decide +kernel
theorem rX7_rear_43 {R : zP} {x0 x1 x2 x3 x4 : Option zV} {st : List zV} {M : zM} : uX7_rear R 43 [x0, x1, x2, x3, x4] st M ↔ uX7_rear R 45 [x0, x1, x2, x3, x4] (.inl (-2) :: st) M := Iff.trans (zU_step dX7_rear_43 (Or.inl rfl)) ⟨fun h => h.2, fun h => ⟨by decide, h⟩⟩
theorem dX7_rear_45 : decode cX7_rear 45 = .ok (.ireturn, 1) := by decide +kernel
theorem rX7_rear_45 {R : zP} {x0 x1 x2 x3 x4 : Option zV} {M : zM} {a : Int} : uX7_rear R 45 [x0, x1, x2, x3, x4] [.inl a] M ↔ R (some (.inl a)) M := Iff.trans (zU_step dX7_rear_45 (Or.inl rfl)) ⟨fun h => h.2.2, fun h => ⟨rfl, Or.inl rfl, h⟩⟩
theorem dX7_rear_46 : decode cX7_rear 46 = .ok (.aload_n 0, 1) := by decide +kernel
theorem rX7_rear_46 {R : zP} {x1 x2 x3 x4 : Option zV} {st : List zV} {M : zM} {a : Nat} : uX7_rear R 46 [some (.inr (.inr a)), x1, x2, x3, x4] st M ↔ uX7_rear R 47 [some (.inr (.inr a)), x1, x2, x3, x4] (.inr (.inr a) :: st) M := zU_step dX7_rear_46 (Or.inl rfl)
theorem dX7_rear_47 : decode cX7_rear 47 = .ok (.iload_n 1, 1) := by decide +kernel
theorem rX7_rear_47 {R : zP} {x0 x2 x3 x4 : Option zV} {st : List zV} {M : zM} {a : Int} : uX7_rear R 47 [x0, some (.inl a), x2, x3, x4] st M ↔ uX7_rear R 48 [x0, some (.inl a), x2, x3, x4] (.inl a :: st) M := zU_step dX7_rear_47 (Or.inl rfl)
theorem dX7_rear_48 : decode cX7_rear 48 = .ok (.iload_n 2, 1) := by decide +kernel
theorem rX7_rear_48 {R : zP} {x0 x1 x3 x4 : Option zV} {st : List zV} {M : zM} {a : Int} : uX7_rear R 48 [x0, x1, some (.inl a), x3, x4] st M ↔ uX7_rear R 49 [x0, x1, some (.inl a), x3, x4] (.inl a :: st) M := zU_step dX7_rear_48 (Or.inl rfl)
theorem dX7_rear_49 : decode cX7_rear 49 = .ok (.iload_n 3, 1) := by decide +kernel
theorem rX7_rear_49 {R : zP} {x0 x1 x2 x4 : Option zV} {st : List zV} {M : zM} {a : Int} : uX7_rear R 49 [x0, x1, x2, some (.inl a), x4] st M ↔ uX7_rear R 50 [x0, x1, x2, some (.inl a), x4] (.inl a :: st) M := zU_step dX7_rear_49 (Or.inl rfl)
theorem dX7_rear_50 : decode cX7_rear 50 = .ok (.invokevirtual 217, 3) := by decide +kernel
theorem rX7_rear_50 {R : zP} {x0 x1 x2 x3 x4 : Option zV} {st : List zV} {M : zM} {a0 a1 a2 a3 : zV} : uX7_rear R 50 [x0, x1, x2, x3, x4] (a3 :: a2 :: a1 :: a0 :: st) M ↔ (st.length ≤ 4 ∧ zcn (zv 7 tX7_planRear) [a0, a1, a2, a3] M (fun M => uX7_rear R 53 [x0, x1, x2, x3, x4] st M)) := Iff.trans (zU_step dX7_rear_50 (Or.inl rfl)) ⟨fun h => ⟨h.2.1, zcn_of h.2.2⟩, fun h => ⟨rfl, h.1, zcn_to h.2⟩⟩
theorem dX7_rear_53 : decode cX7_rear 53 = .ok (.aload_n 0, 1) := by decide +kernel
theorem rX7_rear_53 {R : zP} {x1 x2 x3 x4 : Option zV} {st : List zV} {M : zM} {a : Nat} : uX7_rear R 53 [some (.inr (.inr a)), x1, x2, x3, x4] st M ↔ uX7_rear R 54 [some (.inr (.inr a)), x1, x2, x3, x4] (.inr (.inr a) :: st) M := zU_step dX7_rear_53 (Or.inl rfl)
theorem dX7_rear_54 : decode cX7_rear 54 = .ok (.getfield 65, 3) := by decide +kernel
theorem rX7_rear_54 {R : zP} {x0 x1 x2 x3 x4 : Option zV} {st : List zV} {M : zM} {r : Nat} : uX7_rear R 54 [x0, x1, x2, x3, x4] (.inr (.inr r) :: st) M ↔ zgetx fX7 65 r M (fun v => uX7_rear R 57 [x0, x1, x2, x3, x4] (v :: st) M) := zU_step dX7_rear_54 (Or.inl rfl)
theorem dX7_rear_57 : decode cX7_rear 57 = .ok (.iload 4, 2) := by decide +kernel
theorem rX7_rear_57 {R : zP} {x0 x1 x2 x3 : Option zV} {st : List zV} {M : zM} {a : Int} : uX7_rear R 57 [x0, x1, x2, x3, some (.inl a)] st M ↔ uX7_rear R 59 [x0, x1, x2, x3, some (.inl a)] (.inl a :: st) M := zU_step dX7_rear_57 (Or.inl rfl)
theorem dX7_rear_59 : decode cX7_rear 59 = .ok (.invokevirtual 221, 3) := by decide +kernel
theorem rX7_rear_59 {R : zP} {x0 x1 x2 x3 x4 : Option zV} {st : List zV} {M : zM} {a0 a1 : zV} : uX7_rear R 59 [x0, x1, x2, x3, x4] (a1 :: a0 :: st) M ↔ (st.length ≤ 4 ∧ zcv (zv 2 tX2_tell) [a0, a1] M (fun v M => uX7_rear R 62 [x0, x1, x2, x3, x4] (v :: st) M)) := Iff.trans (zU_step dX7_rear_59 (Or.inl rfl)) ⟨fun h => ⟨h.2.1, zcv_of h.2.2⟩, fun h => ⟨rfl, h.1, zcv_to h.2⟩⟩
theorem dX7_rear_62 : decode cX7_rear 62 = .ok (.ireturn, 1) := by decide +kernel
theorem rX7_rear_62 {R : zP} {x0 x1 x2 x3 x4 : Option zV} {M : zM} {a : Int} : uX7_rear R 62 [x0, x1, x2, x3, x4] [.inl a] M ↔ R (some (.inl a)) M := Iff.trans (zU_step dX7_rear_62 (Or.inl rfl)) ⟨fun h => h.2.2, fun h => ⟨rfl, Or.inl rfl, h⟩⟩
theorem eX7_rear {R : zP} {M : zM} {a0 : Nat} {p0 : Int} {p1 : Int} {p2 : Int} {p3 : Int} : tX7_rear [.inr (.inr a0), .inl p0, .inl p1, .inl p2, .inl p3] M R ↔ uX7_rear R 0 [some (.inr (.inr a0)), some (.inl p0), some (.inl p1), some (.inl p2), some (.inl p3)] [] M := ⟨fun h => h.2, fun h => ⟨show 5 ≤ 5 by decide, h⟩⟩
def uX7_saysAyeWith (R : zP) : zK := zU fX7 vX7_saysAyeWith cX7_saysAyeWith R
theorem dX7_saysAyeWith_0 : decode cX7_saysAyeWith 0 = .ok (.aload_n 0, 1) := by decide +kernel
theorem rX7_saysAyeWith_0 {R : zP} {x1 x2 x3 x4 x5 : Option zV} {st : List zV} {M : zM} {a : Nat} : uX7_saysAyeWith R 0 [some (.inr (.inr a)), x1, x2, x3, x4, x5] st M ↔ uX7_saysAyeWith R 1 [some (.inr (.inr a)), x1, x2, x3, x4, x5] (.inr (.inr a) :: st) M := zU_step dX7_saysAyeWith_0 (Or.inl rfl)
theorem dX7_saysAyeWith_1 : decode cX7_saysAyeWith 1 = .ok (.getfield 55, 3) := by decide +kernel
theorem rX7_saysAyeWith_1 {R : zP} {x0 x1 x2 x3 x4 x5 : Option zV} {st : List zV} {M : zM} {r : Nat} : uX7_saysAyeWith R 1 [x0, x1, x2, x3, x4, x5] (.inr (.inr r) :: st) M ↔ zgetx fX7 55 r M (fun v => uX7_saysAyeWith R 4 [x0, x1, x2, x3, x4, x5] (v :: st) M) := zU_step dX7_saysAyeWith_1 (Or.inl rfl)
theorem dX7_saysAyeWith_4 : decode cX7_saysAyeWith 4 = .ok (.aload_n 0, 1) := by decide +kernel
theorem rX7_saysAyeWith_4 {R : zP} {x1 x2 x3 x4 x5 : Option zV} {st : List zV} {M : zM} {a : Nat} : uX7_saysAyeWith R 4 [some (.inr (.inr a)), x1, x2, x3, x4, x5] st M ↔ uX7_saysAyeWith R 5 [some (.inr (.inr a)), x1, x2, x3, x4, x5] (.inr (.inr a) :: st) M := zU_step dX7_saysAyeWith_4 (Or.inl rfl)
theorem dX7_saysAyeWith_5 : decode cX7_saysAyeWith 5 = .ok (.getfield 14, 3) := by decide +kernel
theorem rX7_saysAyeWith_5 {R : zP} {x0 x1 x2 x3 x4 x5 : Option zV} {st : List zV} {M : zM} {r : Nat} : uX7_saysAyeWith R 5 [x0, x1, x2, x3, x4, x5] (.inr (.inr r) :: st) M ↔ zgetx fX7 14 r M (fun v => uX7_saysAyeWith R 8 [x0, x1, x2, x3, x4, x5] (v :: st) M) := zU_step dX7_saysAyeWith_5 (Or.inl rfl)
theorem dX7_saysAyeWith_8 : decode cX7_saysAyeWith 8 = .ok (.iload_n 1, 1) := by decide +kernel
theorem rX7_saysAyeWith_8 {R : zP} {x0 x2 x3 x4 x5 : Option zV} {st : List zV} {M : zM} {a : Int} : uX7_saysAyeWith R 8 [x0, some (.inl a), x2, x3, x4, x5] st M ↔ uX7_saysAyeWith R 9 [x0, some (.inl a), x2, x3, x4, x5] (.inl a :: st) M := zU_step dX7_saysAyeWith_8 (Or.inl rfl)
theorem dX7_saysAyeWith_9 : decode cX7_saysAyeWith 9 = .ok (.invokevirtual 238, 3) := by decide +kernel
theorem rX7_saysAyeWith_9 {R : zP} {x0 x1 x2 x3 x4 x5 : Option zV} {st : List zV} {M : zM} {a0 a1 a2 : zV} : uX7_saysAyeWith R 9 [x0, x1, x2, x3, x4, x5] (a2 :: a1 :: a0 :: st) M ↔ (st.length ≤ 4 ∧ zcn (zv 3 tX3_enter) [a0, a1, a2] M (fun M => uX7_saysAyeWith R 12 [x0, x1, x2, x3, x4, x5] st M)) := Iff.trans (zU_step dX7_saysAyeWith_9 (Or.inl rfl)) ⟨fun h => ⟨h.2.1, zcn_of h.2.2⟩, fun h => ⟨rfl, h.1, zcn_to h.2⟩⟩
theorem dX7_saysAyeWith_12 : decode cX7_saysAyeWith 12 = .ok (.aload_n 0, 1) := by decide +kernel
theorem rX7_saysAyeWith_12 {R : zP} {x1 x2 x3 x4 x5 : Option zV} {st : List zV} {M : zM} {a : Nat} : uX7_saysAyeWith R 12 [some (.inr (.inr a)), x1, x2, x3, x4, x5] st M ↔ uX7_saysAyeWith R 13 [some (.inr (.inr a)), x1, x2, x3, x4, x5] (.inr (.inr a) :: st) M := zU_step dX7_saysAyeWith_12 (Or.inl rfl)
theorem dX7_saysAyeWith_13 : decode cX7_saysAyeWith 13 = .ok (.aload_n 0, 1) := by decide +kernel
theorem rX7_saysAyeWith_13 {R : zP} {x1 x2 x3 x4 x5 : Option zV} {st : List zV} {M : zM} {a : Nat} : uX7_saysAyeWith R 13 [some (.inr (.inr a)), x1, x2, x3, x4, x5] st M ↔ uX7_saysAyeWith R 14 [some (.inr (.inr a)), x1, x2, x3, x4, x5] (.inr (.inr a) :: st) M := zU_step dX7_saysAyeWith_13 (Or.inl rfl)
theorem dX7_saysAyeWith_14 : decode cX7_saysAyeWith 14 = .ok (.getfield 28, 3) := by decide +kernel
theorem rX7_saysAyeWith_14 {R : zP} {x0 x1 x2 x3 x4 x5 : Option zV} {st : List zV} {M : zM} {r : Nat} : uX7_saysAyeWith R 14 [x0, x1, x2, x3, x4, x5] (.inr (.inr r) :: st) M ↔ zgetx fX7 28 r M (fun v => uX7_saysAyeWith R 17 [x0, x1, x2, x3, x4, x5] (v :: st) M) := zU_step dX7_saysAyeWith_14 (Or.inl rfl)
theorem dX7_saysAyeWith_17 : decode cX7_saysAyeWith 17 = .ok (.iload_n 1, 1) := by decide +kernel
theorem rX7_saysAyeWith_17 {R : zP} {x0 x2 x3 x4 x5 : Option zV} {st : List zV} {M : zM} {a : Int} : uX7_saysAyeWith R 17 [x0, some (.inl a), x2, x3, x4, x5] st M ↔ uX7_saysAyeWith R 18 [x0, some (.inl a), x2, x3, x4, x5] (.inl a :: st) M := zU_step dX7_saysAyeWith_17 (Or.inl rfl)
theorem dX7_saysAyeWith_18 : decode cX7_saysAyeWith 18 = .ok (.iconst 0, 1) := by decide +kernel
theorem rX7_saysAyeWith_18 {R : zP} {x0 x1 x2 x3 x4 x5 : Option zV} {st : List zV} {M : zM} : uX7_saysAyeWith R 18 [x0, x1, x2, x3, x4, x5] st M ↔ uX7_saysAyeWith R 19 [x0, x1, x2, x3, x4, x5] (.inl (0) :: st) M := zU_step dX7_saysAyeWith_18 (Or.inl rfl)
theorem dX7_saysAyeWith_19 : decode cX7_saysAyeWith 19 = .ok (.iload_n 3, 1) := by decide +kernel
theorem rX7_saysAyeWith_19 {R : zP} {x0 x1 x2 x4 x5 : Option zV} {st : List zV} {M : zM} {a : Int} : uX7_saysAyeWith R 19 [x0, x1, x2, some (.inl a), x4, x5] st M ↔ uX7_saysAyeWith R 20 [x0, x1, x2, some (.inl a), x4, x5] (.inl a :: st) M := zU_step dX7_saysAyeWith_19 (Or.inl rfl)
theorem dX7_saysAyeWith_20 : decode cX7_saysAyeWith 20 = .ok (.sipush 255, 3) := by decide +kernel
theorem rX7_saysAyeWith_20 {R : zP} {x0 x1 x2 x3 x4 x5 : Option zV} {st : List zV} {M : zM} : uX7_saysAyeWith R 20 [x0, x1, x2, x3, x4, x5] st M ↔ uX7_saysAyeWith R 23 [x0, x1, x2, x3, x4, x5] (.inl (255) :: st) M := Iff.trans (zU_step dX7_saysAyeWith_20 (Or.inl rfl)) ⟨fun h => h.2, fun h => ⟨by decide, h⟩⟩
theorem dX7_saysAyeWith_23 : decode cX7_saysAyeWith 23 = .ok (.invokevirtual 368, 3) := by decide +kernel
theorem rX7_saysAyeWith_23 {R : zP} {x0 x1 x2 x3 x4 x5 : Option zV} {st : List zV} {M : zM} {a0 a1 a2 a3 a4 a5 : zV} : uX7_saysAyeWith R 23 [x0, x1, x2, x3, x4, x5] (a5 :: a4 :: a3 :: a2 :: a1 :: a0 :: st) M ↔ (st.length ≤ 4 ∧ zcv (zv 7 tX7_bringUp) [a0, a1, a2, a3, a4, a5] M (fun v M => uX7_saysAyeWith R 26 [x0, x1, x2, x3, x4, x5] (v :: st) M)) := Iff.trans (zU_step dX7_saysAyeWith_23 (Or.inl rfl)) ⟨fun h => ⟨h.2.1, zcv_of h.2.2⟩, fun h => ⟨rfl, h.1, zcv_to h.2⟩⟩
theorem dX7_saysAyeWith_26 : decode cX7_saysAyeWith 26 = .ok (.istore 5, 2) := by decide +kernel
theorem rX7_saysAyeWith_26 {R : zP} {x0 x1 x2 x3 x5 : Option zV} {st : List zV} {M : zM} {a : Int} {y : Int} : uX7_saysAyeWith R 26 [x0, x1, x2, x3, some (.inl y), x5] (.inl a :: st) M ↔ uX7_saysAyeWith R 28 [x0, x1, x2, x3, some (.inl y), some (.inl a)] st M := Iff.trans (zU_step dX7_saysAyeWith_26 (Or.inl rfl)) ⟨fun h => h.2, fun h => ⟨show 5 < 6 by decide, h⟩⟩
theorem rX7_saysAyeWith_26z {R : zP} {x0 x1 x2 x3 x4 x5 : Option zV} {st : List zV} {M : zM} {a : Int} : uX7_saysAyeWith R 26 [x0, x1, x2, x3, x4, x5] (.inl a :: st) M ↔ uX7_saysAyeWith R 28 [x0, x1, x2, x3, zkeep x4, some (.inl a)] st M := Iff.trans (zU_step dX7_saysAyeWith_26 (Or.inl rfl)) ⟨fun h => h.2, fun h => ⟨show 5 < 6 by decide, h⟩⟩
theorem dX7_saysAyeWith_28 : decode cX7_saysAyeWith 28 = .ok (.aload_n 0, 1) := by decide +kernel
theorem rX7_saysAyeWith_28 {R : zP} {x1 x2 x3 x4 x5 : Option zV} {st : List zV} {M : zM} {a : Nat} : uX7_saysAyeWith R 28 [some (.inr (.inr a)), x1, x2, x3, x4, x5] st M ↔ uX7_saysAyeWith R 29 [some (.inr (.inr a)), x1, x2, x3, x4, x5] (.inr (.inr a) :: st) M := zU_step dX7_saysAyeWith_28 (Or.inl rfl)
theorem dX7_saysAyeWith_29 : decode cX7_saysAyeWith 29 = .ok (.getfield 55, 3) := by decide +kernel
theorem rX7_saysAyeWith_29 {R : zP} {x0 x1 x2 x3 x4 x5 : Option zV} {st : List zV} {M : zM} {r : Nat} : uX7_saysAyeWith R 29 [x0, x1, x2, x3, x4, x5] (.inr (.inr r) :: st) M ↔ zgetx fX7 55 r M (fun v => uX7_saysAyeWith R 32 [x0, x1, x2, x3, x4, x5] (v :: st) M) := zU_step dX7_saysAyeWith_29 (Or.inl rfl)
theorem dX7_saysAyeWith_32 : decode cX7_saysAyeWith 32 = .ok (.aload_n 0, 1) := by decide +kernel
theorem rX7_saysAyeWith_32 {R : zP} {x1 x2 x3 x4 x5 : Option zV} {st : List zV} {M : zM} {a : Nat} : uX7_saysAyeWith R 32 [some (.inr (.inr a)), x1, x2, x3, x4, x5] st M ↔ uX7_saysAyeWith R 33 [some (.inr (.inr a)), x1, x2, x3, x4, x5] (.inr (.inr a) :: st) M := zU_step dX7_saysAyeWith_32 (Or.inl rfl)
theorem dX7_saysAyeWith_33 : decode cX7_saysAyeWith 33 = .ok (.getfield 22, 3) := by decide +kernel
theorem rX7_saysAyeWith_33 {R : zP} {x0 x1 x2 x3 x4 x5 : Option zV} {st : List zV} {M : zM} {r : Nat} : uX7_saysAyeWith R 33 [x0, x1, x2, x3, x4, x5] (.inr (.inr r) :: st) M ↔ zgetx fX7 22 r M (fun v => uX7_saysAyeWith R 36 [x0, x1, x2, x3, x4, x5] (v :: st) M) := zU_step dX7_saysAyeWith_33 (Or.inl rfl)
theorem dX7_saysAyeWith_36 : decode cX7_saysAyeWith 36 = .ok (.iload_n 2, 1) := by decide +kernel
theorem rX7_saysAyeWith_36 {R : zP} {x0 x1 x3 x4 x5 : Option zV} {st : List zV} {M : zM} {a : Int} : uX7_saysAyeWith R 36 [x0, x1, some (.inl a), x3, x4, x5] st M ↔ uX7_saysAyeWith R 37 [x0, x1, some (.inl a), x3, x4, x5] (.inl a :: st) M := zU_step dX7_saysAyeWith_36 (Or.inl rfl)
theorem dX7_saysAyeWith_37 : decode cX7_saysAyeWith 37 = .ok (.invokevirtual 365, 3) := by decide +kernel
theorem rX7_saysAyeWith_37 {R : zP} {x0 x1 x2 x3 x4 x5 : Option zV} {st : List zV} {M : zM} {a0 a1 a2 : zV} : uX7_saysAyeWith R 37 [x0, x1, x2, x3, x4, x5] (a2 :: a1 :: a0 :: st) M ↔ (st.length ≤ 4 ∧ zcn (zv 3 tX3_drink) [a0, a1, a2] M (fun M => uX7_saysAyeWith R 40 [x0, x1, x2, x3, x4, x5] st M)) := Iff.trans (zU_step dX7_saysAyeWith_37 (Or.inl rfl)) ⟨fun h => ⟨h.2.1, zcn_of h.2.2⟩, fun h => ⟨rfl, h.1, zcn_to h.2⟩⟩
theorem dX7_saysAyeWith_40 : decode cX7_saysAyeWith 40 = .ok (.aload_n 0, 1) := by decide +kernel
theorem rX7_saysAyeWith_40 {R : zP} {x1 x2 x3 x4 x5 : Option zV} {st : List zV} {M : zM} {a : Nat} : uX7_saysAyeWith R 40 [some (.inr (.inr a)), x1, x2, x3, x4, x5] st M ↔ uX7_saysAyeWith R 41 [some (.inr (.inr a)), x1, x2, x3, x4, x5] (.inr (.inr a) :: st) M := zU_step dX7_saysAyeWith_40 (Or.inl rfl)
theorem dX7_saysAyeWith_41 : decode cX7_saysAyeWith 41 = .ok (.aload_n 0, 1) := by decide +kernel
theorem rX7_saysAyeWith_41 {R : zP} {x1 x2 x3 x4 x5 : Option zV} {st : List zV} {M : zM} {a : Nat} : uX7_saysAyeWith R 41 [some (.inr (.inr a)), x1, x2, x3, x4, x5] st M ↔ uX7_saysAyeWith R 42 [some (.inr (.inr a)), x1, x2, x3, x4, x5] (.inr (.inr a) :: st) M := zU_step dX7_saysAyeWith_41 (Or.inl rfl)
theorem dX7_saysAyeWith_42 : decode cX7_saysAyeWith 42 = .ok (.getfield 28, 3) := by decide +kernel
theorem rX7_saysAyeWith_42 {R : zP} {x0 x1 x2 x3 x4 x5 : Option zV} {st : List zV} {M : zM} {r : Nat} : uX7_saysAyeWith R 42 [x0, x1, x2, x3, x4, x5] (.inr (.inr r) :: st) M ↔ zgetx fX7 28 r M (fun v => uX7_saysAyeWith R 45 [x0, x1, x2, x3, x4, x5] (v :: st) M) := zU_step dX7_saysAyeWith_42 (Or.inl rfl)
theorem dX7_saysAyeWith_45 : decode cX7_saysAyeWith 45 = .ok (.iload_n 1, 1) := by decide +kernel
theorem rX7_saysAyeWith_45 {R : zP} {x0 x2 x3 x4 x5 : Option zV} {st : List zV} {M : zM} {a : Int} : uX7_saysAyeWith R 45 [x0, some (.inl a), x2, x3, x4, x5] st M ↔ uX7_saysAyeWith R 46 [x0, some (.inl a), x2, x3, x4, x5] (.inl a :: st) M := zU_step dX7_saysAyeWith_45 (Or.inl rfl)
theorem dX7_saysAyeWith_46 : decode cX7_saysAyeWith 46 = .ok (.iload 5, 2) := by decide +kernel
theorem rX7_saysAyeWith_46 {R : zP} {x0 x1 x2 x3 x4 : Option zV} {st : List zV} {M : zM} {a : Int} : uX7_saysAyeWith R 46 [x0, x1, x2, x3, x4, some (.inl a)] st M ↔ uX7_saysAyeWith R 48 [x0, x1, x2, x3, x4, some (.inl a)] (.inl a :: st) M := zU_step dX7_saysAyeWith_46 (Or.inl rfl)
theorem dX7_saysAyeWith_48 : decode cX7_saysAyeWith 48 = .ok (.bipush 19, 2) := by decide +kernel
theorem rX7_saysAyeWith_48 {R : zP} {x0 x1 x2 x3 x4 x5 : Option zV} {st : List zV} {M : zM} : uX7_saysAyeWith R 48 [x0, x1, x2, x3, x4, x5] st M ↔ uX7_saysAyeWith R 50 [x0, x1, x2, x3, x4, x5] (.inl (19) :: st) M := Iff.trans (zU_step dX7_saysAyeWith_48 (Or.inl rfl)) ⟨fun h => h.2, fun h => ⟨by decide, h⟩⟩
theorem dX7_saysAyeWith_50 : decode cX7_saysAyeWith 50 = .ok (.sipush 255, 3) := by decide +kernel
theorem rX7_saysAyeWith_50 {R : zP} {x0 x1 x2 x3 x4 x5 : Option zV} {st : List zV} {M : zM} : uX7_saysAyeWith R 50 [x0, x1, x2, x3, x4, x5] st M ↔ uX7_saysAyeWith R 53 [x0, x1, x2, x3, x4, x5] (.inl (255) :: st) M := Iff.trans (zU_step dX7_saysAyeWith_50 (Or.inl rfl)) ⟨fun h => h.2, fun h => ⟨by decide, h⟩⟩
theorem dX7_saysAyeWith_53 : decode cX7_saysAyeWith 53 = .ok (.invokevirtual 368, 3) := by decide +kernel
theorem rX7_saysAyeWith_53 {R : zP} {x0 x1 x2 x3 x4 x5 : Option zV} {st : List zV} {M : zM} {a0 a1 a2 a3 a4 a5 : zV} : uX7_saysAyeWith R 53 [x0, x1, x2, x3, x4, x5] (a5 :: a4 :: a3 :: a2 :: a1 :: a0 :: st) M ↔ (st.length ≤ 4 ∧ zcv (zv 7 tX7_bringUp) [a0, a1, a2, a3, a4, a5] M (fun v M => uX7_saysAyeWith R 56 [x0, x1, x2, x3, x4, x5] (v :: st) M)) := Iff.trans (zU_step dX7_saysAyeWith_53 (Or.inl rfl)) ⟨fun h => ⟨h.2.1, zcv_of h.2.2⟩, fun h => ⟨rfl, h.1, zcv_to h.2⟩⟩
theorem dX7_saysAyeWith_56 : decode cX7_saysAyeWith 56 = .ok (.pop, 1) := by decide +kernel
theorem rX7_saysAyeWith_56 {R : zP} {x0 x1 x2 x3 x4 x5 : Option zV} {st : List zV} {M : zM} {a : Int} : uX7_saysAyeWith R 56 [x0, x1, x2, x3, x4, x5] (.inl a :: st) M ↔ uX7_saysAyeWith R 57 [x0, x1, x2, x3, x4, x5] st M := zU_step dX7_saysAyeWith_56 (Or.inl rfl)
theorem dX7_saysAyeWith_57 : decode cX7_saysAyeWith 57 = .ok (.aload_n 0, 1) := by decide +kernel
theorem rX7_saysAyeWith_57 {R : zP} {x1 x2 x3 x4 x5 : Option zV} {st : List zV} {M : zM} {a : Nat} : uX7_saysAyeWith R 57 [some (.inr (.inr a)), x1, x2, x3, x4, x5] st M ↔ uX7_saysAyeWith R 58 [some (.inr (.inr a)), x1, x2, x3, x4, x5] (.inr (.inr a) :: st) M := zU_step dX7_saysAyeWith_57 (Or.inl rfl)
theorem dX7_saysAyeWith_58 : decode cX7_saysAyeWith 58 = .ok (.getfield 55, 3) := by decide +kernel
theorem rX7_saysAyeWith_58 {R : zP} {x0 x1 x2 x3 x4 x5 : Option zV} {st : List zV} {M : zM} {r : Nat} : uX7_saysAyeWith R 58 [x0, x1, x2, x3, x4, x5] (.inr (.inr r) :: st) M ↔ zgetx fX7 55 r M (fun v => uX7_saysAyeWith R 61 [x0, x1, x2, x3, x4, x5] (v :: st) M) := zU_step dX7_saysAyeWith_58 (Or.inl rfl)
theorem dX7_saysAyeWith_61 : decode cX7_saysAyeWith 61 = .ok (.getfield 146, 3) := by decide +kernel
theorem rX7_saysAyeWith_61 {R : zP} {x0 x1 x2 x3 x4 x5 : Option zV} {st : List zV} {M : zM} {r : Nat} : uX7_saysAyeWith R 61 [x0, x1, x2, x3, x4, x5] (.inr (.inr r) :: st) M ↔ zgetx fX7 146 r M (fun v => uX7_saysAyeWith R 64 [x0, x1, x2, x3, x4, x5] (v :: st) M) := zU_step dX7_saysAyeWith_61 (Or.inl rfl)
theorem dX7_saysAyeWith_64 : decode cX7_saysAyeWith 64 = .ok (.iload 4, 2) := by decide +kernel
theorem rX7_saysAyeWith_64 {R : zP} {x0 x1 x2 x3 x5 : Option zV} {st : List zV} {M : zM} {a : Int} : uX7_saysAyeWith R 64 [x0, x1, x2, x3, some (.inl a), x5] st M ↔ uX7_saysAyeWith R 66 [x0, x1, x2, x3, some (.inl a), x5] (.inl a :: st) M := zU_step dX7_saysAyeWith_64 (Or.inl rfl)
theorem dX7_saysAyeWith_66 : decode cX7_saysAyeWith 66 = .ok (.iaload, 1) := by decide +kernel
theorem rX7_saysAyeWith_66 {R : zP} {x0 x1 x2 x3 x4 x5 : Option zV} {st : List zV} {M : zM} {i : Int} {r : Nat} : uX7_saysAyeWith R 66 [x0, x1, x2, x3, x4, x5] (.inl i :: .inr (.inr r) :: st) M ↔ zread fX7 0 r M i (fun v => uX7_saysAyeWith R 67 [x0, x1, x2, x3, x4, x5] (.inl v :: st) M) := zU_step dX7_saysAyeWith_66 (Or.inl rfl)
theorem dX7_saysAyeWith_67 : decode cX7_saysAyeWith 67 = .ok (.iconst 5, 1) := by decide +kernel
theorem rX7_saysAyeWith_67 {R : zP} {x0 x1 x2 x3 x4 x5 : Option zV} {st : List zV} {M : zM} : uX7_saysAyeWith R 67 [x0, x1, x2, x3, x4, x5] st M ↔ uX7_saysAyeWith R 68 [x0, x1, x2, x3, x4, x5] (.inl (5) :: st) M := zU_step dX7_saysAyeWith_67 (Or.inl rfl)
theorem dX7_saysAyeWith_68 : decode cX7_saysAyeWith 68 = .ok (.if_icmp .lt 7, 3) := by decide +kernel
theorem rX7_saysAyeWith_68 {R : zP} {x0 x1 x2 x3 x4 x5 : Option zV} {st : List zV} {M : zM} {a b : Int} : uX7_saysAyeWith R 68 [x0, x1, x2, x3, x4, x5] (.inl b :: .inl a :: st) M ↔ ((zIR a ∧ zIR b) ∧ if a < b then uX7_saysAyeWith R 75 [x0, x1, x2, x3, x4, x5] st M else uX7_saysAyeWith R 71 [x0, x1, x2, x3, x4, x5] st M) := Iff.trans (zU_step dX7_saysAyeWith_68 (Or.inl rfl)) ⟨fun h => ⟨⟨h.1.1, h.1.2.1⟩, (zite (c := a < b)).mpr h.2⟩, fun h => ⟨⟨h.1.1, h.1.2, by decide⟩, (zite (c := a < b)).mp h.2⟩⟩
theorem dX7_saysAyeWith_71 : decode cX7_saysAyeWith 71 = .ok (.iconst 1, 1) := by decide +kernel
theorem rX7_saysAyeWith_71 {R : zP} {x0 x1 x2 x3 x4 x5 : Option zV} {st : List zV} {M : zM} : uX7_saysAyeWith R 71 [x0, x1, x2, x3, x4, x5] st M ↔ uX7_saysAyeWith R 72 [x0, x1, x2, x3, x4, x5] (.inl (1) :: st) M := zU_step dX7_saysAyeWith_71 (Or.inl rfl)
theorem dX7_saysAyeWith_72 : decode cX7_saysAyeWith 72 = .ok (.goto 4, 3) := by decide +kernel
theorem rX7_saysAyeWith_72 {R : zP} {x0 x1 x2 x3 x4 x5 : Option zV} {st : List zV} {M : zM} : uX7_saysAyeWith R 72 [x0, x1, x2, x3, x4, x5] st M ↔ uX7_saysAyeWith R 76 [x0, x1, x2, x3, x4, x5] st M := Iff.trans (zU_step dX7_saysAyeWith_72 (Or.inl rfl)) ⟨fun h => h.2, fun h => ⟨by decide, h⟩⟩
theorem dX7_saysAyeWith_75 : decode cX7_saysAyeWith 75 = .ok (.iconst 0, 1) := by decide +kernel
theorem rX7_saysAyeWith_75 {R : zP} {x0 x1 x2 x3 x4 x5 : Option zV} {st : List zV} {M : zM} : uX7_saysAyeWith R 75 [x0, x1, x2, x3, x4, x5] st M ↔ uX7_saysAyeWith R 76 [x0, x1, x2, x3, x4, x5] (.inl (0) :: st) M := zU_step dX7_saysAyeWith_75 (Or.inl rfl)
theorem dX7_saysAyeWith_76 : decode cX7_saysAyeWith 76 = .ok (.ireturn, 1) := by decide +kernel
theorem rX7_saysAyeWith_76 {R : zP} {x0 x1 x2 x3 x4 x5 : Option zV} {M : zM} {a : Int} : uX7_saysAyeWith R 76 [x0, x1, x2, x3, x4, x5] [.inl a] M ↔ ((a = 0 ∨ a = 1) ∧ R (some (.inl a)) M) := Iff.trans (zU_step dX7_saysAyeWith_76 (Or.inl rfl)) ⟨fun h => ⟨zret2 rfl h.2.1, h.2.2⟩, fun h => ⟨rfl, Or.inr (Or.inl ⟨rfl, h.1⟩), h.2⟩⟩
theorem eX7_saysAyeWith {R : zP} {M : zM} {a0 : Nat} {p0 : Int} {p1 : Int} {p2 : Int} {p3 : Int} : tX7_saysAyeWith [.inr (.inr a0), .inl p0, .inl p1, .inl p2, .inl p3] M R ↔ uX7_saysAyeWith R 0 [some (.inr (.inr a0)), some (.inl p0), some (.inl p1), some (.inl p2), some (.inl p3), none] [] M := ⟨fun h => h.2, fun h => ⟨show 5 ≤ 6 by decide, h⟩⟩
def uX7_carry (R : zP) : zK := zU fX7 vX7_carry cX7_carry R
theorem dX7_carry_0 : decode cX7_carry 0 = .ok (.iload_n 1, 1) := by decide +kernel
theorem rX7_carry_0 {R : zP} {x0 x2 x3 x4 x5 x6 x7 x8 x9 x10 x11 : Option zV} {st : List zV} {M : zM} {a : Int} : uX7_carry R 0 [x0, some (.inl a), x2, x3, x4, x5, x6, x7, x8, x9, x10, x11] st M ↔ uX7_carry R 1 [x0, some (.inl a), x2, x3, x4, x5, x6, x7, x8, x9, x10, x11] (.inl a :: st) M := zU_step dX7_carry_0 (Or.inl rfl)
theorem dX7_carry_1 : decode cX7_carry 1 = .ok (.bipush 20, 2) := by decide +kernel
theorem rX7_carry_1 {R : zP} {x0 x1 x2 x3 x4 x5 x6 x7 x8 x9 x10 x11 : Option zV} {st : List zV} {M : zM} : uX7_carry R 1 [x0, x1, x2, x3, x4, x5, x6, x7, x8, x9, x10, x11] st M ↔ uX7_carry R 3 [x0, x1, x2, x3, x4, x5, x6, x7, x8, x9, x10, x11] (.inl (20) :: st) M := Iff.trans (zU_step dX7_carry_1 (Or.inl rfl)) ⟨fun h => h.2, fun h => ⟨by decide, h⟩⟩
theorem dX7_carry_3 : decode cX7_carry 3 = .ok (.invokestatic 94, 3) := by decide +kernel
theorem rX7_carry_3 {R : zP} {x0 x1 x2 x3 x4 x5 x6 x7 x8 x9 x10 x11 : Option zV} {st : List zV} {M : zM} {a0 a1 : zV} : uX7_carry R 3 [x0, x1, x2, x3, x4, x5, x6, x7, x8, x9, x10, x11] (a1 :: a0 :: st) M ↔ (st.length ≤ 4 ∧ zcv tX7_outside [a0, a1] M (fun v M => uX7_carry R 6 [x0, x1, x2, x3, x4, x5, x6, x7, x8, x9, x10, x11] (v :: st) M)) := Iff.trans (zU_step dX7_carry_3 (Or.inl rfl)) ⟨fun h => ⟨h.2.1, zcv_of h.2.2⟩, fun h => ⟨rfl, h.1, zcv_to h.2⟩⟩
theorem dX7_carry_6 : decode cX7_carry 6 = .ok (.ifCond .ne 19, 3) := by decide +kernel
theorem rX7_carry_6 {R : zP} {x0 x1 x2 x3 x4 x5 x6 x7 x8 x9 x10 x11 : Option zV} {st : List zV} {M : zM} {a : Int} : uX7_carry R 6 [x0, x1, x2, x3, x4, x5, x6, x7, x8, x9, x10, x11] (.inl a :: st) M ↔ (zIR a ∧ if a ≠ 0 then uX7_carry R 25 [x0, x1, x2, x3, x4, x5, x6, x7, x8, x9, x10, x11] st M else uX7_carry R 9 [x0, x1, x2, x3, x4, x5, x6, x7, x8, x9, x10, x11] st M) := Iff.trans (zU_step dX7_carry_6 (Or.inl rfl)) ⟨fun h => ⟨h.1.1, (zite (c := a ≠ 0)).mpr h.2⟩, fun h => ⟨⟨h.1, by decide⟩, (zite (c := a ≠ 0)).mp h.2⟩⟩
theorem dX7_carry_9 : decode cX7_carry 9 = .ok (.iload_n 2, 1) := by decide +kernel
theorem rX7_carry_9 {R : zP} {x0 x1 x3 x4 x5 x6 x7 x8 x9 x10 x11 : Option zV} {st : List zV} {M : zM} {a : Int} : uX7_carry R 9 [x0, x1, some (.inl a), x3, x4, x5, x6, x7, x8, x9, x10, x11] st M ↔ uX7_carry R 10 [x0, x1, some (.inl a), x3, x4, x5, x6, x7, x8, x9, x10, x11] (.inl a :: st) M := zU_step dX7_carry_9 (Or.inl rfl)
theorem dX7_carry_10 : decode cX7_carry 10 = .ok (.iconst 4, 1) := by decide +kernel
theorem rX7_carry_10 {R : zP} {x0 x1 x2 x3 x4 x5 x6 x7 x8 x9 x10 x11 : Option zV} {st : List zV} {M : zM} : uX7_carry R 10 [x0, x1, x2, x3, x4, x5, x6, x7, x8, x9, x10, x11] st M ↔ uX7_carry R 11 [x0, x1, x2, x3, x4, x5, x6, x7, x8, x9, x10, x11] (.inl (4) :: st) M := zU_step dX7_carry_10 (Or.inl rfl)
theorem dX7_carry_11 : decode cX7_carry 11 = .ok (.invokestatic 94, 3) := by decide +kernel
theorem rX7_carry_11 {R : zP} {x0 x1 x2 x3 x4 x5 x6 x7 x8 x9 x10 x11 : Option zV} {st : List zV} {M : zM} {a0 a1 : zV} : uX7_carry R 11 [x0, x1, x2, x3, x4, x5, x6, x7, x8, x9, x10, x11] (a1 :: a0 :: st) M ↔ (st.length ≤ 4 ∧ zcv tX7_outside [a0, a1] M (fun v M => uX7_carry R 14 [x0, x1, x2, x3, x4, x5, x6, x7, x8, x9, x10, x11] (v :: st) M)) := Iff.trans (zU_step dX7_carry_11 (Or.inl rfl)) ⟨fun h => ⟨h.2.1, zcv_of h.2.2⟩, fun h => ⟨rfl, h.1, zcv_to h.2⟩⟩
theorem dX7_carry_14 : decode cX7_carry 14 = .ok (.ifCond .ne 11, 3) := by decide +kernel
theorem rX7_carry_14 {R : zP} {x0 x1 x2 x3 x4 x5 x6 x7 x8 x9 x10 x11 : Option zV} {st : List zV} {M : zM} {a : Int} : uX7_carry R 14 [x0, x1, x2, x3, x4, x5, x6, x7, x8, x9, x10, x11] (.inl a :: st) M ↔ (zIR a ∧ if a ≠ 0 then uX7_carry R 25 [x0, x1, x2, x3, x4, x5, x6, x7, x8, x9, x10, x11] st M else uX7_carry R 17 [x0, x1, x2, x3, x4, x5, x6, x7, x8, x9, x10, x11] st M) := Iff.trans (zU_step dX7_carry_14 (Or.inl rfl)) ⟨fun h => ⟨h.1.1, (zite (c := a ≠ 0)).mpr h.2⟩, fun h => ⟨⟨h.1, by decide⟩, (zite (c := a ≠ 0)).mp h.2⟩⟩
theorem dX7_carry_17 : decode cX7_carry 17 = .ok (.iload_n 3, 1) := by decide +kernel
theorem rX7_carry_17 {R : zP} {x0 x1 x2 x4 x5 x6 x7 x8 x9 x10 x11 : Option zV} {st : List zV} {M : zM} {a : Int} : uX7_carry R 17 [x0, x1, x2, some (.inl a), x4, x5, x6, x7, x8, x9, x10, x11] st M ↔ uX7_carry R 18 [x0, x1, x2, some (.inl a), x4, x5, x6, x7, x8, x9, x10, x11] (.inl a :: st) M := zU_step dX7_carry_17 (Or.inl rfl)
theorem dX7_carry_18 : decode cX7_carry 18 = .ok (.iconst 3, 1) := by decide +kernel
theorem rX7_carry_18 {R : zP} {x0 x1 x2 x3 x4 x5 x6 x7 x8 x9 x10 x11 : Option zV} {st : List zV} {M : zM} : uX7_carry R 18 [x0, x1, x2, x3, x4, x5, x6, x7, x8, x9, x10, x11] st M ↔ uX7_carry R 19 [x0, x1, x2, x3, x4, x5, x6, x7, x8, x9, x10, x11] (.inl (3) :: st) M := zU_step dX7_carry_18 (Or.inl rfl)
theorem dX7_carry_19 : decode cX7_carry 19 = .ok (.invokestatic 94, 3) := by decide +kernel
theorem rX7_carry_19 {R : zP} {x0 x1 x2 x3 x4 x5 x6 x7 x8 x9 x10 x11 : Option zV} {st : List zV} {M : zM} {a0 a1 : zV} : uX7_carry R 19 [x0, x1, x2, x3, x4, x5, x6, x7, x8, x9, x10, x11] (a1 :: a0 :: st) M ↔ (st.length ≤ 4 ∧ zcv tX7_outside [a0, a1] M (fun v M => uX7_carry R 22 [x0, x1, x2, x3, x4, x5, x6, x7, x8, x9, x10, x11] (v :: st) M)) := Iff.trans (zU_step dX7_carry_19 (Or.inl rfl)) ⟨fun h => ⟨h.2.1, zcv_of h.2.2⟩, fun h => ⟨rfl, h.1, zcv_to h.2⟩⟩
theorem dX7_carry_22 : decode cX7_carry 22 = .ok (.ifCond .eq 6, 3) := by decide +kernel
theorem rX7_carry_22 {R : zP} {x0 x1 x2 x3 x4 x5 x6 x7 x8 x9 x10 x11 : Option zV} {st : List zV} {M : zM} {a : Int} : uX7_carry R 22 [x0, x1, x2, x3, x4, x5, x6, x7, x8, x9, x10, x11] (.inl a :: st) M ↔ (zIR a ∧ if a = 0 then uX7_carry R 28 [x0, x1, x2, x3, x4, x5, x6, x7, x8, x9, x10, x11] st M else uX7_carry R 25 [x0, x1, x2, x3, x4, x5, x6, x7, x8, x9, x10, x11] st M) := Iff.trans (zU_step dX7_carry_22 (Or.inl rfl)) ⟨fun h => ⟨h.1.1, (zite (c := a = 0)).mpr h.2⟩, fun h => ⟨⟨h.1, by decide⟩, (zite (c := a = 0)).mp h.2⟩⟩
theorem dX7_carry_25 : decode cX7_carry 25 = .ok (.bipush (-2), 2) := by decide +kernel
theorem rX7_carry_25 {R : zP} {x0 x1 x2 x3 x4 x5 x6 x7 x8 x9 x10 x11 : Option zV} {st : List zV} {M : zM} : uX7_carry R 25 [x0, x1, x2, x3, x4, x5, x6, x7, x8, x9, x10, x11] st M ↔ uX7_carry R 27 [x0, x1, x2, x3, x4, x5, x6, x7, x8, x9, x10, x11] (.inl (-2) :: st) M := Iff.trans (zU_step dX7_carry_25 (Or.inl rfl)) ⟨fun h => h.2, fun h => ⟨by decide, h⟩⟩
theorem dX7_carry_27 : decode cX7_carry 27 = .ok (.ireturn, 1) := by decide +kernel
theorem rX7_carry_27 {R : zP} {x0 x1 x2 x3 x4 x5 x6 x7 x8 x9 x10 x11 : Option zV} {M : zM} {a : Int} : uX7_carry R 27 [x0, x1, x2, x3, x4, x5, x6, x7, x8, x9, x10, x11] [.inl a] M ↔ R (some (.inl a)) M := Iff.trans (zU_step dX7_carry_27 (Or.inl rfl)) ⟨fun h => h.2.2, fun h => ⟨rfl, Or.inl rfl, h⟩⟩
theorem dX7_carry_28 : decode cX7_carry 28 = .ok (.aload_n 0, 1) := by decide +kernel
theorem rX7_carry_28 {R : zP} {x1 x2 x3 x4 x5 x6 x7 x8 x9 x10 x11 : Option zV} {st : List zV} {M : zM} {a : Nat} : uX7_carry R 28 [some (.inr (.inr a)), x1, x2, x3, x4, x5, x6, x7, x8, x9, x10, x11] st M ↔ uX7_carry R 29 [some (.inr (.inr a)), x1, x2, x3, x4, x5, x6, x7, x8, x9, x10, x11] (.inr (.inr a) :: st) M := zU_step dX7_carry_28 (Or.inl rfl)
theorem dX7_carry_29 : decode cX7_carry 29 = .ok (.bipush 19, 2) := by decide +kernel
theorem rX7_carry_29 {R : zP} {x0 x1 x2 x3 x4 x5 x6 x7 x8 x9 x10 x11 : Option zV} {st : List zV} {M : zM} : uX7_carry R 29 [x0, x1, x2, x3, x4, x5, x6, x7, x8, x9, x10, x11] st M ↔ uX7_carry R 31 [x0, x1, x2, x3, x4, x5, x6, x7, x8, x9, x10, x11] (.inl (19) :: st) M := Iff.trans (zU_step dX7_carry_29 (Or.inl rfl)) ⟨fun h => h.2, fun h => ⟨by decide, h⟩⟩
theorem dX7_carry_31 : decode cX7_carry 31 = .ok (.iload_n 2, 1) := by decide +kernel
theorem rX7_carry_31 {R : zP} {x0 x1 x3 x4 x5 x6 x7 x8 x9 x10 x11 : Option zV} {st : List zV} {M : zM} {a : Int} : uX7_carry R 31 [x0, x1, some (.inl a), x3, x4, x5, x6, x7, x8, x9, x10, x11] st M ↔ uX7_carry R 32 [x0, x1, some (.inl a), x3, x4, x5, x6, x7, x8, x9, x10, x11] (.inl a :: st) M := zU_step dX7_carry_31 (Or.inl rfl)
theorem dX7_carry_32 : decode cX7_carry 32 = .ok (.invokevirtual 169, 3) := by decide +kernel
theorem rX7_carry_32 {R : zP} {x0 x1 x2 x3 x4 x5 x6 x7 x8 x9 x10 x11 : Option zV} {st : List zV} {M : zM} {a0 a1 a2 : zV} : uX7_carry R 32 [x0, x1, x2, x3, x4, x5, x6, x7, x8, x9, x10, x11] (a2 :: a1 :: a0 :: st) M ↔ (st.length ≤ 4 ∧ zcv (zv 7 tX7_ayes) [a0, a1, a2] M (fun v M => uX7_carry R 35 [x0, x1, x2, x3, x4, x5, x6, x7, x8, x9, x10, x11] (v :: st) M)) := Iff.trans (zU_step dX7_carry_32 (Or.inl rfl)) ⟨fun h => ⟨h.2.1, zcv_of h.2.2⟩, fun h => ⟨rfl, h.1, zcv_to h.2⟩⟩
theorem dX7_carry_35 : decode cX7_carry 35 = .ok (.istore 4, 2) := by decide +kernel
theorem rX7_carry_35 {R : zP} {x0 x1 x2 x4 x5 x6 x7 x8 x9 x10 x11 : Option zV} {st : List zV} {M : zM} {a : Int} {y : Int} : uX7_carry R 35 [x0, x1, x2, some (.inl y), x4, x5, x6, x7, x8, x9, x10, x11] (.inl a :: st) M ↔ uX7_carry R 37 [x0, x1, x2, some (.inl y), some (.inl a), x5, x6, x7, x8, x9, x10, x11] st M := Iff.trans (zU_step dX7_carry_35 (Or.inl rfl)) ⟨fun h => h.2, fun h => ⟨show 4 < 12 by decide, h⟩⟩
theorem rX7_carry_35z {R : zP} {x0 x1 x2 x3 x4 x5 x6 x7 x8 x9 x10 x11 : Option zV} {st : List zV} {M : zM} {a : Int} : uX7_carry R 35 [x0, x1, x2, x3, x4, x5, x6, x7, x8, x9, x10, x11] (.inl a :: st) M ↔ uX7_carry R 37 [x0, x1, x2, zkeep x3, some (.inl a), x5, x6, x7, x8, x9, x10, x11] st M := Iff.trans (zU_step dX7_carry_35 (Or.inl rfl)) ⟨fun h => h.2, fun h => ⟨show 4 < 12 by decide, h⟩⟩
theorem dX7_carry_37 : decode cX7_carry 37 = .ok (.iconst (-1), 1) := by decide +kernel
theorem rX7_carry_37 {R : zP} {x0 x1 x2 x3 x4 x5 x6 x7 x8 x9 x10 x11 : Option zV} {st : List zV} {M : zM} : uX7_carry R 37 [x0, x1, x2, x3, x4, x5, x6, x7, x8, x9, x10, x11] st M ↔ uX7_carry R 38 [x0, x1, x2, x3, x4, x5, x6, x7, x8, x9, x10, x11] (.inl (-1) :: st) M := zU_step dX7_carry_37 (Or.inl rfl)
theorem dX7_carry_38 : decode cX7_carry 38 = .ok (.istore 5, 2) := by decide +kernel
theorem rX7_carry_38 {R : zP} {x0 x1 x2 x3 x5 x6 x7 x8 x9 x10 x11 : Option zV} {st : List zV} {M : zM} {a : Int} {y : Int} : uX7_carry R 38 [x0, x1, x2, x3, some (.inl y), x5, x6, x7, x8, x9, x10, x11] (.inl a :: st) M ↔ uX7_carry R 40 [x0, x1, x2, x3, some (.inl y), some (.inl a), x6, x7, x8, x9, x10, x11] st M := Iff.trans (zU_step dX7_carry_38 (Or.inl rfl)) ⟨fun h => h.2, fun h => ⟨show 5 < 12 by decide, h⟩⟩
theorem rX7_carry_38z {R : zP} {x0 x1 x2 x3 x4 x5 x6 x7 x8 x9 x10 x11 : Option zV} {st : List zV} {M : zM} {a : Int} : uX7_carry R 38 [x0, x1, x2, x3, x4, x5, x6, x7, x8, x9, x10, x11] (.inl a :: st) M ↔ uX7_carry R 40 [x0, x1, x2, x3, zkeep x4, some (.inl a), x6, x7, x8, x9, x10, x11] st M := Iff.trans (zU_step dX7_carry_38 (Or.inl rfl)) ⟨fun h => h.2, fun h => ⟨show 5 < 12 by decide, h⟩⟩
theorem dX7_carry_40 : decode cX7_carry 40 = .ok (.iconst (-1), 1) := by decide +kernel
theorem rX7_carry_40 {R : zP} {x0 x1 x2 x3 x4 x5 x6 x7 x8 x9 x10 x11 : Option zV} {st : List zV} {M : zM} : uX7_carry R 40 [x0, x1, x2, x3, x4, x5, x6, x7, x8, x9, x10, x11] st M ↔ uX7_carry R 41 [x0, x1, x2, x3, x4, x5, x6, x7, x8, x9, x10, x11] (.inl (-1) :: st) M := zU_step dX7_carry_40 (Or.inl rfl)
theorem dX7_carry_41 : decode cX7_carry 41 = .ok (.istore 6, 2) := by decide +kernel
theorem rX7_carry_41 {R : zP} {x0 x1 x2 x3 x4 x6 x7 x8 x9 x10 x11 : Option zV} {st : List zV} {M : zM} {a : Int} {y : Int} : uX7_carry R 41 [x0, x1, x2, x3, x4, some (.inl y), x6, x7, x8, x9, x10, x11] (.inl a :: st) M ↔ uX7_carry R 43 [x0, x1, x2, x3, x4, some (.inl y), some (.inl a), x7, x8, x9, x10, x11] st M := Iff.trans (zU_step dX7_carry_41 (Or.inl rfl)) ⟨fun h => h.2, fun h => ⟨show 6 < 12 by decide, h⟩⟩
theorem rX7_carry_41z {R : zP} {x0 x1 x2 x3 x4 x5 x6 x7 x8 x9 x10 x11 : Option zV} {st : List zV} {M : zM} {a : Int} : uX7_carry R 41 [x0, x1, x2, x3, x4, x5, x6, x7, x8, x9, x10, x11] (.inl a :: st) M ↔ uX7_carry R 43 [x0, x1, x2, x3, x4, zkeep x5, some (.inl a), x7, x8, x9, x10, x11] st M := Iff.trans (zU_step dX7_carry_41 (Or.inl rfl)) ⟨fun h => h.2, fun h => ⟨show 6 < 12 by decide, h⟩⟩
theorem dX7_carry_43 : decode cX7_carry 43 = .ok (.iconst (-1), 1) := by decide +kernel
theorem rX7_carry_43 {R : zP} {x0 x1 x2 x3 x4 x5 x6 x7 x8 x9 x10 x11 : Option zV} {st : List zV} {M : zM} : uX7_carry R 43 [x0, x1, x2, x3, x4, x5, x6, x7, x8, x9, x10, x11] st M ↔ uX7_carry R 44 [x0, x1, x2, x3, x4, x5, x6, x7, x8, x9, x10, x11] (.inl (-1) :: st) M := zU_step dX7_carry_43 (Or.inl rfl)
theorem dX7_carry_44 : decode cX7_carry 44 = .ok (.istore 7, 2) := by decide +kernel
theorem rX7_carry_44 {R : zP} {x0 x1 x2 x3 x4 x5 x7 x8 x9 x10 x11 : Option zV} {st : List zV} {M : zM} {a : Int} {y : Int} : uX7_carry R 44 [x0, x1, x2, x3, x4, x5, some (.inl y), x7, x8, x9, x10, x11] (.inl a :: st) M ↔ uX7_carry R 46 [x0, x1, x2, x3, x4, x5, some (.inl y), some (.inl a), x8, x9, x10, x11] st M := Iff.trans (zU_step dX7_carry_44 (Or.inl rfl)) ⟨fun h => h.2, fun h => ⟨show 7 < 12 by decide, h⟩⟩
theorem rX7_carry_44z {R : zP} {x0 x1 x2 x3 x4 x5 x6 x7 x8 x9 x10 x11 : Option zV} {st : List zV} {M : zM} {a : Int} : uX7_carry R 44 [x0, x1, x2, x3, x4, x5, x6, x7, x8, x9, x10, x11] (.inl a :: st) M ↔ uX7_carry R 46 [x0, x1, x2, x3, x4, x5, zkeep x6, some (.inl a), x8, x9, x10, x11] st M := Iff.trans (zU_step dX7_carry_44 (Or.inl rfl)) ⟨fun h => h.2, fun h => ⟨show 7 < 12 by decide, h⟩⟩
theorem dX7_carry_46 : decode cX7_carry 46 = .ok (.iconst 0, 1) := by decide +kernel
theorem rX7_carry_46 {R : zP} {x0 x1 x2 x3 x4 x5 x6 x7 x8 x9 x10 x11 : Option zV} {st : List zV} {M : zM} : uX7_carry R 46 [x0, x1, x2, x3, x4, x5, x6, x7, x8, x9, x10, x11] st M ↔ uX7_carry R 47 [x0, x1, x2, x3, x4, x5, x6, x7, x8, x9, x10, x11] (.inl (0) :: st) M := zU_step dX7_carry_46 (Or.inl rfl)
theorem dX7_carry_47 : decode cX7_carry 47 = .ok (.istore 8, 2) := by decide +kernel
theorem rX7_carry_47 {R : zP} {x0 x1 x2 x3 x4 x5 x6 x8 x9 x10 x11 : Option zV} {st : List zV} {M : zM} {a : Int} {y : Int} : uX7_carry R 47 [x0, x1, x2, x3, x4, x5, x6, some (.inl y), x8, x9, x10, x11] (.inl a :: st) M ↔ uX7_carry R 49 [x0, x1, x2, x3, x4, x5, x6, some (.inl y), some (.inl a), x9, x10, x11] st M := Iff.trans (zU_step dX7_carry_47 (Or.inl rfl)) ⟨fun h => h.2, fun h => ⟨show 8 < 12 by decide, h⟩⟩
theorem rX7_carry_47z {R : zP} {x0 x1 x2 x3 x4 x5 x6 x7 x8 x9 x10 x11 : Option zV} {st : List zV} {M : zM} {a : Int} : uX7_carry R 47 [x0, x1, x2, x3, x4, x5, x6, x7, x8, x9, x10, x11] (.inl a :: st) M ↔ uX7_carry R 49 [x0, x1, x2, x3, x4, x5, x6, zkeep x7, some (.inl a), x9, x10, x11] st M := Iff.trans (zU_step dX7_carry_47 (Or.inl rfl)) ⟨fun h => h.2, fun h => ⟨show 8 < 12 by decide, h⟩⟩
theorem dX7_carry_49 : decode cX7_carry 49 = .ok (.iload 8, 2) := by decide +kernel
theorem rX7_carry_49 {R : zP} {x0 x1 x2 x3 x4 x5 x6 x7 x9 x10 x11 : Option zV} {st : List zV} {M : zM} {a : Int} : uX7_carry R 49 [x0, x1, x2, x3, x4, x5, x6, x7, some (.inl a), x9, x10, x11] st M ↔ uX7_carry R 51 [x0, x1, x2, x3, x4, x5, x6, x7, some (.inl a), x9, x10, x11] (.inl a :: st) M := zU_step dX7_carry_49 (Or.inl rfl)
theorem dX7_carry_51 : decode cX7_carry 51 = .ok (.aload_n 0, 1) := by decide +kernel
theorem rX7_carry_51 {R : zP} {x1 x2 x3 x4 x5 x6 x7 x8 x9 x10 x11 : Option zV} {st : List zV} {M : zM} {a : Nat} : uX7_carry R 51 [some (.inr (.inr a)), x1, x2, x3, x4, x5, x6, x7, x8, x9, x10, x11] st M ↔ uX7_carry R 52 [some (.inr (.inr a)), x1, x2, x3, x4, x5, x6, x7, x8, x9, x10, x11] (.inr (.inr a) :: st) M := zU_step dX7_carry_51 (Or.inl rfl)
theorem dX7_carry_52 : decode cX7_carry 52 = .ok (.getfield 14, 3) := by decide +kernel
theorem rX7_carry_52 {R : zP} {x0 x1 x2 x3 x4 x5 x6 x7 x8 x9 x10 x11 : Option zV} {st : List zV} {M : zM} {r : Nat} : uX7_carry R 52 [x0, x1, x2, x3, x4, x5, x6, x7, x8, x9, x10, x11] (.inr (.inr r) :: st) M ↔ zgetx fX7 14 r M (fun v => uX7_carry R 55 [x0, x1, x2, x3, x4, x5, x6, x7, x8, x9, x10, x11] (v :: st) M) := zU_step dX7_carry_52 (Or.inl rfl)
theorem dX7_carry_55 : decode cX7_carry 55 = .ok (.getfield 116, 3) := by decide +kernel
theorem rX7_carry_55 {R : zP} {x0 x1 x2 x3 x4 x5 x6 x7 x8 x9 x10 x11 : Option zV} {st : List zV} {M : zM} {r : Nat} : uX7_carry R 55 [x0, x1, x2, x3, x4, x5, x6, x7, x8, x9, x10, x11] (.inr (.inr r) :: st) M ↔ zgetx fX7 116 r M (fun v => uX7_carry R 58 [x0, x1, x2, x3, x4, x5, x6, x7, x8, x9, x10, x11] (v :: st) M) := zU_step dX7_carry_55 (Or.inl rfl)
theorem dX7_carry_58 : decode cX7_carry 58 = .ok (.if_icmp .ge 81, 3) := by decide +kernel
theorem rX7_carry_58 {R : zP} {x0 x1 x2 x3 x4 x5 x6 x7 x8 x9 x10 x11 : Option zV} {st : List zV} {M : zM} {a b : Int} : uX7_carry R 58 [x0, x1, x2, x3, x4, x5, x6, x7, x8, x9, x10, x11] (.inl b :: .inl a :: st) M ↔ ((zIR a ∧ zIR b) ∧ if b ≤ a then uX7_carry R 139 [x0, x1, x2, x3, x4, x5, x6, x7, x8, x9, x10, x11] st M else uX7_carry R 61 [x0, x1, x2, x3, x4, x5, x6, x7, x8, x9, x10, x11] st M) := Iff.trans (zU_step dX7_carry_58 (Or.inl rfl)) ⟨fun h => ⟨⟨h.1.1, h.1.2.1⟩, (zite (c := b ≤ a)).mpr h.2⟩, fun h => ⟨⟨h.1.1, h.1.2, by decide⟩, (zite (c := b ≤ a)).mp h.2⟩⟩
theorem dX7_carry_61 : decode cX7_carry 61 = .ok (.iload 4, 2) := by decide +kernel
theorem rX7_carry_61 {R : zP} {x0 x1 x2 x3 x5 x6 x7 x8 x9 x10 x11 : Option zV} {st : List zV} {M : zM} {a : Int} : uX7_carry R 61 [x0, x1, x2, x3, some (.inl a), x5, x6, x7, x8, x9, x10, x11] st M ↔ uX7_carry R 63 [x0, x1, x2, x3, some (.inl a), x5, x6, x7, x8, x9, x10, x11] (.inl a :: st) M := zU_step dX7_carry_61 (Or.inl rfl)
theorem dX7_carry_63 : decode cX7_carry 63 = .ok (.iconst 1, 1) := by decide +kernel
theorem rX7_carry_63 {R : zP} {x0 x1 x2 x3 x4 x5 x6 x7 x8 x9 x10 x11 : Option zV} {st : List zV} {M : zM} : uX7_carry R 63 [x0, x1, x2, x3, x4, x5, x6, x7, x8, x9, x10, x11] st M ↔ uX7_carry R 64 [x0, x1, x2, x3, x4, x5, x6, x7, x8, x9, x10, x11] (.inl (1) :: st) M := zU_step dX7_carry_63 (Or.inl rfl)
theorem dX7_carry_64 : decode cX7_carry 64 = .ok (.iload 8, 2) := by decide +kernel
theorem rX7_carry_64 {R : zP} {x0 x1 x2 x3 x4 x5 x6 x7 x9 x10 x11 : Option zV} {st : List zV} {M : zM} {a : Int} : uX7_carry R 64 [x0, x1, x2, x3, x4, x5, x6, x7, some (.inl a), x9, x10, x11] st M ↔ uX7_carry R 66 [x0, x1, x2, x3, x4, x5, x6, x7, some (.inl a), x9, x10, x11] (.inl a :: st) M := zU_step dX7_carry_64 (Or.inl rfl)
theorem dX7_carry_66 : decode cX7_carry 66 = .ok (.ishl, 1) := by decide +kernel
theorem rX7_carry_66 {R : zP} {x0 x1 x2 x3 x4 x5 x6 x7 x8 x9 x10 x11 : Option zV} {st : List zV} {M : zM} {a b : Int} : uX7_carry R 66 [x0, x1, x2, x3, x4, x5, x6, x7, x8, x9, x10, x11] (.inl b :: .inl a :: st) M ↔ uX7_carry R 67 [x0, x1, x2, x3, x4, x5, x6, x7, x8, x9, x10, x11] (.inl (zshl a b) :: st) M := zU_step dX7_carry_66 (Or.inl rfl)
theorem dX7_carry_67 : decode cX7_carry 67 = .ok (.iconst (-1), 1) := by decide +kernel
theorem rX7_carry_67 {R : zP} {x0 x1 x2 x3 x4 x5 x6 x7 x8 x9 x10 x11 : Option zV} {st : List zV} {M : zM} : uX7_carry R 67 [x0, x1, x2, x3, x4, x5, x6, x7, x8, x9, x10, x11] st M ↔ uX7_carry R 68 [x0, x1, x2, x3, x4, x5, x6, x7, x8, x9, x10, x11] (.inl (-1) :: st) M := zU_step dX7_carry_67 (Or.inl rfl)
theorem dX7_carry_68 : decode cX7_carry 68 = .ok (.ixor, 1) := by decide +kernel
theorem rX7_carry_68 {R : zP} {x0 x1 x2 x3 x4 x5 x6 x7 x8 x9 x10 x11 : Option zV} {st : List zV} {M : zM} {a b : Int} : uX7_carry R 68 [x0, x1, x2, x3, x4, x5, x6, x7, x8, x9, x10, x11] (.inl b :: .inl a :: st) M ↔ uX7_carry R 69 [x0, x1, x2, x3, x4, x5, x6, x7, x8, x9, x10, x11] (.inl (zxor a b) :: st) M := zU_step dX7_carry_68 (Or.inl rfl)
theorem dX7_carry_69 : decode cX7_carry 69 = .ok (.iand, 1) := by decide +kernel
theorem rX7_carry_69 {R : zP} {x0 x1 x2 x3 x4 x5 x6 x7 x8 x9 x10 x11 : Option zV} {st : List zV} {M : zM} {a b : Int} : uX7_carry R 69 [x0, x1, x2, x3, x4, x5, x6, x7, x8, x9, x10, x11] (.inl b :: .inl a :: st) M ↔ uX7_carry R 70 [x0, x1, x2, x3, x4, x5, x6, x7, x8, x9, x10, x11] (.inl (zand a b) :: st) M := zU_step dX7_carry_69 (Or.inl rfl)
theorem dX7_carry_70 : decode cX7_carry 70 = .ok (.invokestatic 173, 3) := by decide +kernel
theorem rX7_carry_70 {R : zP} {x0 x1 x2 x3 x4 x5 x6 x7 x8 x9 x10 x11 : Option zV} {st : List zV} {M : zM} {a0 : zV} : uX7_carry R 70 [x0, x1, x2, x3, x4, x5, x6, x7, x8, x9, x10, x11] (a0 :: st) M ↔ (st.length ≤ 4 ∧ zcv tJ6_bitCount_0f7a4 [a0] M (fun v M => uX7_carry R 73 [x0, x1, x2, x3, x4, x5, x6, x7, x8, x9, x10, x11] (v :: st) M)) := Iff.trans (zU_step dX7_carry_70 (Or.inl rfl)) ⟨fun h => ⟨h.2.1, zcv_of h.2.2⟩, fun h => ⟨rfl, h.1, zcv_to h.2⟩⟩
theorem dX7_carry_73 : decode cX7_carry 73 = .ok (.istore 9, 2) := by decide +kernel
theorem rX7_carry_73 {R : zP} {x0 x1 x2 x3 x4 x5 x6 x7 x9 x10 x11 : Option zV} {st : List zV} {M : zM} {a : Int} {y : Int} : uX7_carry R 73 [x0, x1, x2, x3, x4, x5, x6, x7, some (.inl y), x9, x10, x11] (.inl a :: st) M ↔ uX7_carry R 75 [x0, x1, x2, x3, x4, x5, x6, x7, some (.inl y), some (.inl a), x10, x11] st M := Iff.trans (zU_step dX7_carry_73 (Or.inl rfl)) ⟨fun h => h.2, fun h => ⟨show 9 < 12 by decide, h⟩⟩
theorem rX7_carry_73z {R : zP} {x0 x1 x2 x3 x4 x5 x6 x7 x8 x9 x10 x11 : Option zV} {st : List zV} {M : zM} {a : Int} : uX7_carry R 73 [x0, x1, x2, x3, x4, x5, x6, x7, x8, x9, x10, x11] (.inl a :: st) M ↔ uX7_carry R 75 [x0, x1, x2, x3, x4, x5, x6, x7, zkeep x8, some (.inl a), x10, x11] st M := Iff.trans (zU_step dX7_carry_73 (Or.inl rfl)) ⟨fun h => h.2, fun h => ⟨show 9 < 12 by decide, h⟩⟩
theorem dX7_carry_75 : decode cX7_carry 75 = .ok (.iconst 0, 1) := by decide +kernel
theorem rX7_carry_75 {R : zP} {x0 x1 x2 x3 x4 x5 x6 x7 x8 x9 x10 x11 : Option zV} {st : List zV} {M : zM} : uX7_carry R 75 [x0, x1, x2, x3, x4, x5, x6, x7, x8, x9, x10, x11] st M ↔ uX7_carry R 76 [x0, x1, x2, x3, x4, x5, x6, x7, x8, x9, x10, x11] (.inl (0) :: st) M := zU_step dX7_carry_75 (Or.inl rfl)
theorem dX7_carry_76 : decode cX7_carry 76 = .ok (.istore 10, 2) := by decide +kernel
theorem rX7_carry_76 {R : zP} {x0 x1 x2 x3 x4 x5 x6 x7 x8 x10 x11 : Option zV} {st : List zV} {M : zM} {a : Int} {y : Int} : uX7_carry R 76 [x0, x1, x2, x3, x4, x5, x6, x7, x8, some (.inl y), x10, x11] (.inl a :: st) M ↔ uX7_carry R 78 [x0, x1, x2, x3, x4, x5, x6, x7, x8, some (.inl y), some (.inl a), x11] st M := Iff.trans (zU_step dX7_carry_76 (Or.inl rfl)) ⟨fun h => h.2, fun h => ⟨show 10 < 12 by decide, h⟩⟩
theorem rX7_carry_76z {R : zP} {x0 x1 x2 x3 x4 x5 x6 x7 x8 x9 x10 x11 : Option zV} {st : List zV} {M : zM} {a : Int} : uX7_carry R 76 [x0, x1, x2, x3, x4, x5, x6, x7, x8, x9, x10, x11] (.inl a :: st) M ↔ uX7_carry R 78 [x0, x1, x2, x3, x4, x5, x6, x7, x8, zkeep x9, some (.inl a), x11] st M := Iff.trans (zU_step dX7_carry_76 (Or.inl rfl)) ⟨fun h => h.2, fun h => ⟨show 10 < 12 by decide, h⟩⟩
theorem dX7_carry_78 : decode cX7_carry 78 = .ok (.iload 10, 2) := by decide +kernel
theorem rX7_carry_78 {R : zP} {x0 x1 x2 x3 x4 x5 x6 x7 x8 x9 x11 : Option zV} {st : List zV} {M : zM} {a : Int} : uX7_carry R 78 [x0, x1, x2, x3, x4, x5, x6, x7, x8, x9, some (.inl a), x11] st M ↔ uX7_carry R 80 [x0, x1, x2, x3, x4, x5, x6, x7, x8, x9, some (.inl a), x11] (.inl a :: st) M := zU_step dX7_carry_78 (Or.inl rfl)
theorem dX7_carry_80 : decode cX7_carry 80 = .ok (.aload_n 0, 1) := by decide +kernel
theorem rX7_carry_80 {R : zP} {x1 x2 x3 x4 x5 x6 x7 x8 x9 x10 x11 : Option zV} {st : List zV} {M : zM} {a : Nat} : uX7_carry R 80 [some (.inr (.inr a)), x1, x2, x3, x4, x5, x6, x7, x8, x9, x10, x11] st M ↔ uX7_carry R 81 [some (.inr (.inr a)), x1, x2, x3, x4, x5, x6, x7, x8, x9, x10, x11] (.inr (.inr a) :: st) M := zU_step dX7_carry_80 (Or.inl rfl)
theorem dX7_carry_81 : decode cX7_carry 81 = .ok (.getfield 22, 3) := by decide +kernel
theorem rX7_carry_81 {R : zP} {x0 x1 x2 x3 x4 x5 x6 x7 x8 x9 x10 x11 : Option zV} {st : List zV} {M : zM} {r : Nat} : uX7_carry R 81 [x0, x1, x2, x3, x4, x5, x6, x7, x8, x9, x10, x11] (.inr (.inr r) :: st) M ↔ zgetx fX7 22 r M (fun v => uX7_carry R 84 [x0, x1, x2, x3, x4, x5, x6, x7, x8, x9, x10, x11] (v :: st) M) := zU_step dX7_carry_81 (Or.inl rfl)
theorem dX7_carry_84 : decode cX7_carry 84 = .ok (.getfield 116, 3) := by decide +kernel
theorem rX7_carry_84 {R : zP} {x0 x1 x2 x3 x4 x5 x6 x7 x8 x9 x10 x11 : Option zV} {st : List zV} {M : zM} {r : Nat} : uX7_carry R 84 [x0, x1, x2, x3, x4, x5, x6, x7, x8, x9, x10, x11] (.inr (.inr r) :: st) M ↔ zgetx fX7 116 r M (fun v => uX7_carry R 87 [x0, x1, x2, x3, x4, x5, x6, x7, x8, x9, x10, x11] (v :: st) M) := zU_step dX7_carry_84 (Or.inl rfl)
theorem dX7_carry_87 : decode cX7_carry 87 = .ok (.if_icmp .ge 46, 3) := by decide +kernel
theorem rX7_carry_87 {R : zP} {x0 x1 x2 x3 x4 x5 x6 x7 x8 x9 x10 x11 : Option zV} {st : List zV} {M : zM} {a b : Int} : uX7_carry R 87 [x0, x1, x2, x3, x4, x5, x6, x7, x8, x9, x10, x11] (.inl b :: .inl a :: st) M ↔ ((zIR a ∧ zIR b) ∧ if b ≤ a then uX7_carry R 133 [x0, x1, x2, x3, x4, x5, x6, x7, x8, x9, x10, x11] st M else uX7_carry R 90 [x0, x1, x2, x3, x4, x5, x6, x7, x8, x9, x10, x11] st M) := Iff.trans (zU_step dX7_carry_87 (Or.inl rfl)) ⟨fun h => ⟨⟨h.1.1, h.1.2.1⟩, (zite (c := b ≤ a)).mpr h.2⟩, fun h => ⟨⟨h.1.1, h.1.2, by decide⟩, (zite (c := b ≤ a)).mp h.2⟩⟩
theorem dX7_carry_90 : decode cX7_carry 90 = .ok (.iload 9, 2) := by decide +kernel
theorem rX7_carry_90 {R : zP} {x0 x1 x2 x3 x4 x5 x6 x7 x8 x10 x11 : Option zV} {st : List zV} {M : zM} {a : Int} : uX7_carry R 90 [x0, x1, x2, x3, x4, x5, x6, x7, x8, some (.inl a), x10, x11] st M ↔ uX7_carry R 92 [x0, x1, x2, x3, x4, x5, x6, x7, x8, some (.inl a), x10, x11] (.inl a :: st) M := zU_step dX7_carry_90 (Or.inl rfl)
theorem dX7_carry_92 : decode cX7_carry 92 = .ok (.aload_n 0, 1) := by decide +kernel
theorem rX7_carry_92 {R : zP} {x1 x2 x3 x4 x5 x6 x7 x8 x9 x10 x11 : Option zV} {st : List zV} {M : zM} {a : Nat} : uX7_carry R 92 [some (.inr (.inr a)), x1, x2, x3, x4, x5, x6, x7, x8, x9, x10, x11] st M ↔ uX7_carry R 93 [some (.inr (.inr a)), x1, x2, x3, x4, x5, x6, x7, x8, x9, x10, x11] (.inr (.inr a) :: st) M := zU_step dX7_carry_92 (Or.inl rfl)
theorem dX7_carry_93 : decode cX7_carry 93 = .ok (.iload 8, 2) := by decide +kernel
theorem rX7_carry_93 {R : zP} {x0 x1 x2 x3 x4 x5 x6 x7 x9 x10 x11 : Option zV} {st : List zV} {M : zM} {a : Int} : uX7_carry R 93 [x0, x1, x2, x3, x4, x5, x6, x7, some (.inl a), x9, x10, x11] st M ↔ uX7_carry R 95 [x0, x1, x2, x3, x4, x5, x6, x7, some (.inl a), x9, x10, x11] (.inl a :: st) M := zU_step dX7_carry_93 (Or.inl rfl)
theorem dX7_carry_95 : decode cX7_carry 95 = .ok (.iload 10, 2) := by decide +kernel
theorem rX7_carry_95 {R : zP} {x0 x1 x2 x3 x4 x5 x6 x7 x8 x9 x11 : Option zV} {st : List zV} {M : zM} {a : Int} : uX7_carry R 95 [x0, x1, x2, x3, x4, x5, x6, x7, x8, x9, some (.inl a), x11] st M ↔ uX7_carry R 97 [x0, x1, x2, x3, x4, x5, x6, x7, x8, x9, some (.inl a), x11] (.inl a :: st) M := zU_step dX7_carry_95 (Or.inl rfl)
theorem dX7_carry_97 : decode cX7_carry 97 = .ok (.iload_n 1, 1) := by decide +kernel
theorem rX7_carry_97 {R : zP} {x0 x2 x3 x4 x5 x6 x7 x8 x9 x10 x11 : Option zV} {st : List zV} {M : zM} {a : Int} : uX7_carry R 97 [x0, some (.inl a), x2, x3, x4, x5, x6, x7, x8, x9, x10, x11] st M ↔ uX7_carry R 98 [x0, some (.inl a), x2, x3, x4, x5, x6, x7, x8, x9, x10, x11] (.inl a :: st) M := zU_step dX7_carry_97 (Or.inl rfl)
theorem dX7_carry_98 : decode cX7_carry 98 = .ok (.iload_n 2, 1) := by decide +kernel
theorem rX7_carry_98 {R : zP} {x0 x1 x3 x4 x5 x6 x7 x8 x9 x10 x11 : Option zV} {st : List zV} {M : zM} {a : Int} : uX7_carry R 98 [x0, x1, some (.inl a), x3, x4, x5, x6, x7, x8, x9, x10, x11] st M ↔ uX7_carry R 99 [x0, x1, some (.inl a), x3, x4, x5, x6, x7, x8, x9, x10, x11] (.inl a :: st) M := zU_step dX7_carry_98 (Or.inl rfl)
theorem dX7_carry_99 : decode cX7_carry 99 = .ok (.invokevirtual 223, 3) := by decide +kernel
theorem rX7_carry_99 {R : zP} {x0 x1 x2 x3 x4 x5 x6 x7 x8 x9 x10 x11 : Option zV} {st : List zV} {M : zM} {a0 a1 a2 a3 a4 : zV} : uX7_carry R 99 [x0, x1, x2, x3, x4, x5, x6, x7, x8, x9, x10, x11] (a4 :: a3 :: a2 :: a1 :: a0 :: st) M ↔ (st.length ≤ 4 ∧ zcv (zv 7 tX7_saysAyeWith) [a0, a1, a2, a3, a4] M (fun v M => uX7_carry R 102 [x0, x1, x2, x3, x4, x5, x6, x7, x8, x9, x10, x11] (v :: st) M)) := Iff.trans (zU_step dX7_carry_99 (Or.inl rfl)) ⟨fun h => ⟨h.2.1, zcv_of h.2.2⟩, fun h => ⟨rfl, h.1, zcv_to h.2⟩⟩
theorem dX7_carry_102 : decode cX7_carry 102 = .ok (.invokestatic 155, 3) := by decide +kernel
theorem rX7_carry_102 {R : zP} {x0 x1 x2 x3 x4 x5 x6 x7 x8 x9 x10 x11 : Option zV} {st : List zV} {M : zM} {a0 : zV} : uX7_carry R 102 [x0, x1, x2, x3, x4, x5, x6, x7, x8, x9, x10, x11] (a0 :: st) M ↔ (st.length ≤ 4 ∧ zcv tX7_bit [a0] M (fun v M => uX7_carry R 105 [x0, x1, x2, x3, x4, x5, x6, x7, x8, x9, x10, x11] (v :: st) M)) := Iff.trans (zU_step dX7_carry_102 (Or.inl rfl)) ⟨fun h => ⟨h.2.1, zcv_of h.2.2⟩, fun h => ⟨rfl, h.1, zcv_to h.2⟩⟩
theorem dX7_carry_105 : decode cX7_carry 105 = .ok (.iadd, 1) := by decide +kernel
theorem rX7_carry_105 {R : zP} {x0 x1 x2 x3 x4 x5 x6 x7 x8 x9 x10 x11 : Option zV} {st : List zV} {M : zM} {a b : Int} : uX7_carry R 105 [x0, x1, x2, x3, x4, x5, x6, x7, x8, x9, x10, x11] (.inl b :: .inl a :: st) M ↔ uX7_carry R 106 [x0, x1, x2, x3, x4, x5, x6, x7, x8, x9, x10, x11] (.inl (a + b) :: st) M := zU_step dX7_carry_105 (Or.inl rfl)
theorem dX7_carry_106 : decode cX7_carry 106 = .ok (.istore 11, 2) := by decide +kernel
theorem rX7_carry_106 {R : zP} {x0 x1 x2 x3 x4 x5 x6 x7 x8 x9 x11 : Option zV} {st : List zV} {M : zM} {a : Int} {y : Int} : uX7_carry R 106 [x0, x1, x2, x3, x4, x5, x6, x7, x8, x9, some (.inl y), x11] (.inl a :: st) M ↔ uX7_carry R 108 [x0, x1, x2, x3, x4, x5, x6, x7, x8, x9, some (.inl y), some (.inl a)] st M := Iff.trans (zU_step dX7_carry_106 (Or.inl rfl)) ⟨fun h => h.2, fun h => ⟨show 11 < 12 by decide, h⟩⟩
theorem rX7_carry_106z {R : zP} {x0 x1 x2 x3 x4 x5 x6 x7 x8 x9 x10 x11 : Option zV} {st : List zV} {M : zM} {a : Int} : uX7_carry R 106 [x0, x1, x2, x3, x4, x5, x6, x7, x8, x9, x10, x11] (.inl a :: st) M ↔ uX7_carry R 108 [x0, x1, x2, x3, x4, x5, x6, x7, x8, x9, zkeep x10, some (.inl a)] st M := Iff.trans (zU_step dX7_carry_106 (Or.inl rfl)) ⟨fun h => h.2, fun h => ⟨show 11 < 12 by decide, h⟩⟩
theorem dX7_carry_108 : decode cX7_carry 108 = .ok (.iload 11, 2) := by decide +kernel
theorem rX7_carry_108 {R : zP} {x0 x1 x2 x3 x4 x5 x6 x7 x8 x9 x10 : Option zV} {st : List zV} {M : zM} {a : Int} : uX7_carry R 108 [x0, x1, x2, x3, x4, x5, x6, x7, x8, x9, x10, some (.inl a)] st M ↔ uX7_carry R 110 [x0, x1, x2, x3, x4, x5, x6, x7, x8, x9, x10, some (.inl a)] (.inl a :: st) M := zU_step dX7_carry_108 (Or.inl rfl)
theorem dX7_carry_110 : decode cX7_carry 110 = .ok (.iload 5, 2) := by decide +kernel
theorem rX7_carry_110 {R : zP} {x0 x1 x2 x3 x4 x6 x7 x8 x9 x10 x11 : Option zV} {st : List zV} {M : zM} {a : Int} : uX7_carry R 110 [x0, x1, x2, x3, x4, some (.inl a), x6, x7, x8, x9, x10, x11] st M ↔ uX7_carry R 112 [x0, x1, x2, x3, x4, some (.inl a), x6, x7, x8, x9, x10, x11] (.inl a :: st) M := zU_step dX7_carry_110 (Or.inl rfl)
theorem dX7_carry_112 : decode cX7_carry 112 = .ok (.if_icmp .le 15, 3) := by decide +kernel
theorem rX7_carry_112 {R : zP} {x0 x1 x2 x3 x4 x5 x6 x7 x8 x9 x10 x11 : Option zV} {st : List zV} {M : zM} {a b : Int} : uX7_carry R 112 [x0, x1, x2, x3, x4, x5, x6, x7, x8, x9, x10, x11] (.inl b :: .inl a :: st) M ↔ ((zIR a ∧ zIR b) ∧ if a ≤ b then uX7_carry R 127 [x0, x1, x2, x3, x4, x5, x6, x7, x8, x9, x10, x11] st M else uX7_carry R 115 [x0, x1, x2, x3, x4, x5, x6, x7, x8, x9, x10, x11] st M) := Iff.trans (zU_step dX7_carry_112 (Or.inl rfl)) ⟨fun h => ⟨⟨h.1.1, h.1.2.1⟩, (zite (c := a ≤ b)).mpr h.2⟩, fun h => ⟨⟨h.1.1, h.1.2, by decide⟩, (zite (c := a ≤ b)).mp h.2⟩⟩
theorem dX7_carry_115 : decode cX7_carry 115 = .ok (.iload 11, 2) := by decide +kernel
theorem rX7_carry_115 {R : zP} {x0 x1 x2 x3 x4 x5 x6 x7 x8 x9 x10 : Option zV} {st : List zV} {M : zM} {a : Int} : uX7_carry R 115 [x0, x1, x2, x3, x4, x5, x6, x7, x8, x9, x10, some (.inl a)] st M ↔ uX7_carry R 117 [x0, x1, x2, x3, x4, x5, x6, x7, x8, x9, x10, some (.inl a)] (.inl a :: st) M := zU_step dX7_carry_115 (Or.inl rfl)
theorem dX7_carry_117 : decode cX7_carry 117 = .ok (.istore 5, 2) := by decide +kernel
theorem rX7_carry_117 {R : zP} {x0 x1 x2 x3 x5 x6 x7 x8 x9 x10 x11 : Option zV} {st : List zV} {M : zM} {a : Int} {y : Int} : uX7_carry R 117 [x0, x1, x2, x3, some (.inl y), x5, x6, x7, x8, x9, x10, x11] (.inl a :: st) M ↔ uX7_carry R 119 [x0, x1, x2, x3, some (.inl y), some (.inl a), x6, x7, x8, x9, x10, x11] st M := Iff.trans (zU_step dX7_carry_117 (Or.inl rfl)) ⟨fun h => h.2, fun h => ⟨show 5 < 12 by decide, h⟩⟩
theorem rX7_carry_117z {R : zP} {x0 x1 x2 x3 x4 x5 x6 x7 x8 x9 x10 x11 : Option zV} {st : List zV} {M : zM} {a : Int} : uX7_carry R 117 [x0, x1, x2, x3, x4, x5, x6, x7, x8, x9, x10, x11] (.inl a :: st) M ↔ uX7_carry R 119 [x0, x1, x2, x3, zkeep x4, some (.inl a), x6, x7, x8, x9, x10, x11] st M := Iff.trans (zU_step dX7_carry_117 (Or.inl rfl)) ⟨fun h => h.2, fun h => ⟨show 5 < 12 by decide, h⟩⟩
theorem dX7_carry_119 : decode cX7_carry 119 = .ok (.iload 8, 2) := by decide +kernel
theorem rX7_carry_119 {R : zP} {x0 x1 x2 x3 x4 x5 x6 x7 x9 x10 x11 : Option zV} {st : List zV} {M : zM} {a : Int} : uX7_carry R 119 [x0, x1, x2, x3, x4, x5, x6, x7, some (.inl a), x9, x10, x11] st M ↔ uX7_carry R 121 [x0, x1, x2, x3, x4, x5, x6, x7, some (.inl a), x9, x10, x11] (.inl a :: st) M := zU_step dX7_carry_119 (Or.inl rfl)
theorem dX7_carry_121 : decode cX7_carry 121 = .ok (.istore 6, 2) := by decide +kernel
theorem rX7_carry_121 {R : zP} {x0 x1 x2 x3 x4 x6 x7 x8 x9 x10 x11 : Option zV} {st : List zV} {M : zM} {a : Int} {y : Int} : uX7_carry R 121 [x0, x1, x2, x3, x4, some (.inl y), x6, x7, x8, x9, x10, x11] (.inl a :: st) M ↔ uX7_carry R 123 [x0, x1, x2, x3, x4, some (.inl y), some (.inl a), x7, x8, x9, x10, x11] st M := Iff.trans (zU_step dX7_carry_121 (Or.inl rfl)) ⟨fun h => h.2, fun h => ⟨show 6 < 12 by decide, h⟩⟩
theorem rX7_carry_121z {R : zP} {x0 x1 x2 x3 x4 x5 x6 x7 x8 x9 x10 x11 : Option zV} {st : List zV} {M : zM} {a : Int} : uX7_carry R 121 [x0, x1, x2, x3, x4, x5, x6, x7, x8, x9, x10, x11] (.inl a :: st) M ↔ uX7_carry R 123 [x0, x1, x2, x3, x4, zkeep x5, some (.inl a), x7, x8, x9, x10, x11] st M := Iff.trans (zU_step dX7_carry_121 (Or.inl rfl)) ⟨fun h => h.2, fun h => ⟨show 6 < 12 by decide, h⟩⟩
theorem dX7_carry_123 : decode cX7_carry 123 = .ok (.iload 10, 2) := by decide +kernel
theorem rX7_carry_123 {R : zP} {x0 x1 x2 x3 x4 x5 x6 x7 x8 x9 x11 : Option zV} {st : List zV} {M : zM} {a : Int} : uX7_carry R 123 [x0, x1, x2, x3, x4, x5, x6, x7, x8, x9, some (.inl a), x11] st M ↔ uX7_carry R 125 [x0, x1, x2, x3, x4, x5, x6, x7, x8, x9, some (.inl a), x11] (.inl a :: st) M := zU_step dX7_carry_123 (Or.inl rfl)
theorem dX7_carry_125 : decode cX7_carry 125 = .ok (.istore 7, 2) := by decide +kernel
theorem rX7_carry_125 {R : zP} {x0 x1 x2 x3 x4 x5 x7 x8 x9 x10 x11 : Option zV} {st : List zV} {M : zM} {a : Int} {y : Int} : uX7_carry R 125 [x0, x1, x2, x3, x4, x5, some (.inl y), x7, x8, x9, x10, x11] (.inl a :: st) M ↔ uX7_carry R 127 [x0, x1, x2, x3, x4, x5, some (.inl y), some (.inl a), x8, x9, x10, x11] st M := Iff.trans (zU_step dX7_carry_125 (Or.inl rfl)) ⟨fun h => h.2, fun h => ⟨show 7 < 12 by decide, h⟩⟩
theorem rX7_carry_125z {R : zP} {x0 x1 x2 x3 x4 x5 x6 x7 x8 x9 x10 x11 : Option zV} {st : List zV} {M : zM} {a : Int} : uX7_carry R 125 [x0, x1, x2, x3, x4, x5, x6, x7, x8, x9, x10, x11] (.inl a :: st) M ↔ uX7_carry R 127 [x0, x1, x2, x3, x4, x5, zkeep x6, some (.inl a), x8, x9, x10, x11] st M := Iff.trans (zU_step dX7_carry_125 (Or.inl rfl)) ⟨fun h => h.2, fun h => ⟨show 7 < 12 by decide, h⟩⟩
theorem dX7_carry_127 : decode cX7_carry 127 = .ok (.iinc 10 1, 3) := by decide +kernel
theorem rX7_carry_127 {R : zP} {x0 x1 x2 x3 x4 x5 x6 x7 x8 x11 : Option zV} {st : List zV} {M : zM} {a : Int} {y : Int} : uX7_carry R 127 [x0, x1, x2, x3, x4, x5, x6, x7, x8, some (.inl y), some (.inl a), x11] st M ↔ uX7_carry R 130 [x0, x1, x2, x3, x4, x5, x6, x7, x8, some (.inl y), some (.inl (a + (1))), x11] st M := Iff.trans (zU_step dX7_carry_127 (Or.inl rfl)) ⟨fun h => h.2, fun h => ⟨show 10 < 12 by decide, h⟩⟩
theorem rX7_carry_127z {R : zP} {x0 x1 x2 x3 x4 x5 x6 x7 x8 x9 x11 : Option zV} {st : List zV} {M : zM} {a : Int} : uX7_carry R 127 [x0, x1, x2, x3, x4, x5, x6, x7, x8, x9, some (.inl a), x11] st M ↔ uX7_carry R 130 [x0, x1, x2, x3, x4, x5, x6, x7, x8, zkeep x9, some (.inl (a + (1))), x11] st M := Iff.trans (zU_step dX7_carry_127 (Or.inl rfl)) ⟨fun h => h.2, fun h => ⟨show 10 < 12 by decide, h⟩⟩
theorem dX7_carry_130 : decode cX7_carry 130 = .ok (.goto (-52), 3) := by decide +kernel
theorem rX7_carry_130 {R : zP} {x0 x1 x2 x3 x4 x5 x6 x7 x8 x9 x10 x11 : Option zV} {st : List zV} {M : zM} : uX7_carry R 130 [x0, x1, x2, x3, x4, x5, x6, x7, x8, x9, x10, x11] st M ↔ uX7_carry R 78 [x0, x1, x2, x3, x4, x5, x6, x7, x8, x9, x10, x11] st M := Iff.trans (zU_step dX7_carry_130 (Or.inl rfl)) ⟨fun h => h.2, fun h => ⟨by decide, h⟩⟩
theorem dX7_carry_133 : decode cX7_carry 133 = .ok (.iinc 8 1, 3) := by decide +kernel
theorem rX7_carry_133 {R : zP} {x0 x1 x2 x3 x4 x5 x6 x9 x10 x11 : Option zV} {st : List zV} {M : zM} {a : Int} {y : Int} : uX7_carry R 133 [x0, x1, x2, x3, x4, x5, x6, some (.inl y), some (.inl a), x9, x10, x11] st M ↔ uX7_carry R 136 [x0, x1, x2, x3, x4, x5, x6, some (.inl y), some (.inl (a + (1))), x9, x10, x11] st M := Iff.trans (zU_step dX7_carry_133 (Or.inl rfl)) ⟨fun h => h.2, fun h => ⟨show 8 < 12 by decide, h⟩⟩
theorem rX7_carry_133z {R : zP} {x0 x1 x2 x3 x4 x5 x6 x7 x9 x10 x11 : Option zV} {st : List zV} {M : zM} {a : Int} : uX7_carry R 133 [x0, x1, x2, x3, x4, x5, x6, x7, some (.inl a), x9, x10, x11] st M ↔ uX7_carry R 136 [x0, x1, x2, x3, x4, x5, x6, zkeep x7, some (.inl (a + (1))), x9, x10, x11] st M := Iff.trans (zU_step dX7_carry_133 (Or.inl rfl)) ⟨fun h => h.2, fun h => ⟨show 8 < 12 by decide, h⟩⟩
theorem dX7_carry_136 : decode cX7_carry 136 = .ok (.goto (-87), 3) := by decide +kernel
theorem rX7_carry_136 {R : zP} {x0 x1 x2 x3 x4 x5 x6 x7 x8 x9 x10 x11 : Option zV} {st : List zV} {M : zM} : uX7_carry R 136 [x0, x1, x2, x3, x4, x5, x6, x7, x8, x9, x10, x11] st M ↔ uX7_carry R 49 [x0, x1, x2, x3, x4, x5, x6, x7, x8, x9, x10, x11] st M := Iff.trans (zU_step dX7_carry_136 (Or.inl rfl)) ⟨fun h => h.2, fun h => ⟨by decide, h⟩⟩
theorem dX7_carry_139 : decode cX7_carry 139 = .ok (.iload_n 3, 1) := by decide +kernel
theorem rX7_carry_139 {R : zP} {x0 x1 x2 x4 x5 x6 x7 x8 x9 x10 x11 : Option zV} {st : List zV} {M : zM} {a : Int} : uX7_carry R 139 [x0, x1, x2, some (.inl a), x4, x5, x6, x7, x8, x9, x10, x11] st M ↔ uX7_carry R 140 [x0, x1, x2, some (.inl a), x4, x5, x6, x7, x8, x9, x10, x11] (.inl a :: st) M := zU_step dX7_carry_139 (Or.inl rfl)
theorem dX7_carry_140 : decode cX7_carry 140 = .ok (.ifCond .ne 8, 3) := by decide +kernel
theorem rX7_carry_140 {R : zP} {x0 x1 x2 x3 x4 x5 x6 x7 x8 x9 x10 x11 : Option zV} {st : List zV} {M : zM} {a : Int} : uX7_carry R 140 [x0, x1, x2, x3, x4, x5, x6, x7, x8, x9, x10, x11] (.inl a :: st) M ↔ (zIR a ∧ if a ≠ 0 then uX7_carry R 148 [x0, x1, x2, x3, x4, x5, x6, x7, x8, x9, x10, x11] st M else uX7_carry R 143 [x0, x1, x2, x3, x4, x5, x6, x7, x8, x9, x10, x11] st M) := Iff.trans (zU_step dX7_carry_140 (Or.inl rfl)) ⟨fun h => ⟨h.1.1, (zite (c := a ≠ 0)).mpr h.2⟩, fun h => ⟨⟨h.1, by decide⟩, (zite (c := a ≠ 0)).mp h.2⟩⟩
theorem dX7_carry_143 : decode cX7_carry 143 = .ok (.iload 6, 2) := by decide +kernel
theorem rX7_carry_143 {R : zP} {x0 x1 x2 x3 x4 x5 x7 x8 x9 x10 x11 : Option zV} {st : List zV} {M : zM} {a : Int} : uX7_carry R 143 [x0, x1, x2, x3, x4, x5, some (.inl a), x7, x8, x9, x10, x11] st M ↔ uX7_carry R 145 [x0, x1, x2, x3, x4, x5, some (.inl a), x7, x8, x9, x10, x11] (.inl a :: st) M := zU_step dX7_carry_143 (Or.inl rfl)
theorem dX7_carry_145 : decode cX7_carry 145 = .ok (.goto 15, 3) := by decide +kernel
theorem rX7_carry_145 {R : zP} {x0 x1 x2 x3 x4 x5 x6 x7 x8 x9 x10 x11 : Option zV} {st : List zV} {M : zM} : uX7_carry R 145 [x0, x1, x2, x3, x4, x5, x6, x7, x8, x9, x10, x11] st M ↔ uX7_carry R 160 [x0, x1, x2, x3, x4, x5, x6, x7, x8, x9, x10, x11] st M := Iff.trans (zU_step dX7_carry_145 (Or.inl rfl)) ⟨fun h => h.2, fun h => ⟨by decide, h⟩⟩
theorem dX7_carry_148 : decode cX7_carry 148 = .ok (.iload_n 3, 1) := by decide +kernel
theorem rX7_carry_148 {R : zP} {x0 x1 x2 x4 x5 x6 x7 x8 x9 x10 x11 : Option zV} {st : List zV} {M : zM} {a : Int} : uX7_carry R 148 [x0, x1, x2, some (.inl a), x4, x5, x6, x7, x8, x9, x10, x11] st M ↔ uX7_carry R 149 [x0, x1, x2, some (.inl a), x4, x5, x6, x7, x8, x9, x10, x11] (.inl a :: st) M := zU_step dX7_carry_148 (Or.inl rfl)
theorem dX7_carry_149 : decode cX7_carry 149 = .ok (.iconst 1, 1) := by decide +kernel
theorem rX7_carry_149 {R : zP} {x0 x1 x2 x3 x4 x5 x6 x7 x8 x9 x10 x11 : Option zV} {st : List zV} {M : zM} : uX7_carry R 149 [x0, x1, x2, x3, x4, x5, x6, x7, x8, x9, x10, x11] st M ↔ uX7_carry R 150 [x0, x1, x2, x3, x4, x5, x6, x7, x8, x9, x10, x11] (.inl (1) :: st) M := zU_step dX7_carry_149 (Or.inl rfl)
theorem dX7_carry_150 : decode cX7_carry 150 = .ok (.if_icmp .ne 8, 3) := by decide +kernel
theorem rX7_carry_150 {R : zP} {x0 x1 x2 x3 x4 x5 x6 x7 x8 x9 x10 x11 : Option zV} {st : List zV} {M : zM} {a b : Int} : uX7_carry R 150 [x0, x1, x2, x3, x4, x5, x6, x7, x8, x9, x10, x11] (.inl b :: .inl a :: st) M ↔ ((zIR a ∧ zIR b) ∧ if a ≠ b then uX7_carry R 158 [x0, x1, x2, x3, x4, x5, x6, x7, x8, x9, x10, x11] st M else uX7_carry R 153 [x0, x1, x2, x3, x4, x5, x6, x7, x8, x9, x10, x11] st M) := Iff.trans (zU_step dX7_carry_150 (Or.inl rfl)) ⟨fun h => ⟨⟨h.1.1, h.1.2.1⟩, (zite (c := a ≠ b)).mpr h.2⟩, fun h => ⟨⟨h.1.1, h.1.2, by decide⟩, (zite (c := a ≠ b)).mp h.2⟩⟩
theorem dX7_carry_153 : decode cX7_carry 153 = .ok (.iload 7, 2) := by decide +kernel
theorem rX7_carry_153 {R : zP} {x0 x1 x2 x3 x4 x5 x6 x8 x9 x10 x11 : Option zV} {st : List zV} {M : zM} {a : Int} : uX7_carry R 153 [x0, x1, x2, x3, x4, x5, x6, some (.inl a), x8, x9, x10, x11] st M ↔ uX7_carry R 155 [x0, x1, x2, x3, x4, x5, x6, some (.inl a), x8, x9, x10, x11] (.inl a :: st) M := zU_step dX7_carry_153 (Or.inl rfl)
theorem dX7_carry_155 : decode cX7_carry 155 = .ok (.goto 5, 3) := by decide +kernel
theorem rX7_carry_155 {R : zP} {x0 x1 x2 x3 x4 x5 x6 x7 x8 x9 x10 x11 : Option zV} {st : List zV} {M : zM} : uX7_carry R 155 [x0, x1, x2, x3, x4, x5, x6, x7, x8, x9, x10, x11] st M ↔ uX7_carry R 160 [x0, x1, x2, x3, x4, x5, x6, x7, x8, x9, x10, x11] st M := Iff.trans (zU_step dX7_carry_155 (Or.inl rfl)) ⟨fun h => h.2, fun h => ⟨by decide, h⟩⟩
theorem dX7_carry_158 : decode cX7_carry 158 = .ok (.iload 5, 2) := by decide +kernel
theorem rX7_carry_158 {R : zP} {x0 x1 x2 x3 x4 x6 x7 x8 x9 x10 x11 : Option zV} {st : List zV} {M : zM} {a : Int} : uX7_carry R 158 [x0, x1, x2, x3, x4, some (.inl a), x6, x7, x8, x9, x10, x11] st M ↔ uX7_carry R 160 [x0, x1, x2, x3, x4, some (.inl a), x6, x7, x8, x9, x10, x11] (.inl a :: st) M := zU_step dX7_carry_158 (Or.inl rfl)
theorem dX7_carry_160 : decode cX7_carry 160 = .ok (.ireturn, 1) := by decide +kernel
theorem rX7_carry_160 {R : zP} {x0 x1 x2 x3 x4 x5 x6 x7 x8 x9 x10 x11 : Option zV} {M : zM} {a : Int} : uX7_carry R 160 [x0, x1, x2, x3, x4, x5, x6, x7, x8, x9, x10, x11] [.inl a] M ↔ R (some (.inl a)) M := Iff.trans (zU_step dX7_carry_160 (Or.inl rfl)) ⟨fun h => h.2.2, fun h => ⟨rfl, Or.inl rfl, h⟩⟩
theorem eX7_carry {R : zP} {M : zM} {a0 : Nat} {p0 : Int} {p1 : Int} {p2 : Int} : tX7_carry [.inr (.inr a0), .inl p0, .inl p1, .inl p2] M R ↔ uX7_carry R 0 [some (.inr (.inr a0)), some (.inl p0), some (.inl p1), some (.inl p2), none, none, none, none, none, none, none, none] [] M := ⟨fun h => h.2, fun h => ⟨show 4 ≤ 12 by decide, h⟩⟩
