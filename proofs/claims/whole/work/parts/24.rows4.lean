def uX8_read (R : zP) : zK := zU fX8 vX8_read cX8_read R
theorem dX8_read_0 : decode cX8_read 0 = .ok (.iload_n 1, 1) := by decide +kernel
theorem rX8_read_0 {R : zP} {x0 x2 x3 : Option zV} {st : List zV} {M : zM} {a : Int} : uX8_read R 0 [x0, some (.inl a), x2, x3] st M ↔ uX8_read R 1 [x0, some (.inl a), x2, x3] (.inl a :: st) M := zU_step dX8_read_0 (Or.inl rfl)
theorem dX8_read_1 : decode cX8_read 1 = .ok (.invokestatic 169, 3) := by decide +kernel
theorem rX8_read_1 {R : zP} {x0 x1 x2 x3 : Option zV} {st : List zV} {M : zM} {a0 : zV} : uX8_read R 1 [x0, x1, x2, x3] (a0 :: st) M ↔ (st.length ≤ 4 ∧ zcv tX8_isSheet [a0] M (fun v M => uX8_read R 4 [x0, x1, x2, x3] (v :: st) M)) := Iff.trans (zU_step dX8_read_1 (Or.inl rfl)) ⟨fun h => ⟨h.2.1, zcv_of h.2.2⟩, fun h => ⟨rfl, h.1, zcv_to h.2⟩⟩
theorem dX8_read_4 : decode cX8_read 4 = .ok (.ifCond .ne 6, 3) := by decide +kernel
theorem rX8_read_4 {R : zP} {x0 x1 x2 x3 : Option zV} {st : List zV} {M : zM} {a : Int} : uX8_read R 4 [x0, x1, x2, x3] (.inl a :: st) M ↔ (zIR a ∧ if a ≠ 0 then uX8_read R 10 [x0, x1, x2, x3] st M else uX8_read R 7 [x0, x1, x2, x3] st M) := Iff.trans (zU_step dX8_read_4 (Or.inl rfl)) ⟨fun h => ⟨h.1.1, (zite (c := a ≠ 0)).mpr h.2⟩, fun h => ⟨⟨h.1, by decide⟩, (zite (c := a ≠ 0)).mp h.2⟩⟩
theorem dX8_read_7 : decode cX8_read 7 = .ok (.bipush (-2), 2) := by decide +kernel
theorem rX8_read_7 {R : zP} {x0 x1 x2 x3 : Option zV} {st : List zV} {M : zM} : uX8_read R 7 [x0, x1, x2, x3] st M ↔ uX8_read R 9 [x0, x1, x2, x3] (.inl (-2) :: st) M := Iff.trans (zU_step dX8_read_7 (Or.inl rfl)) ⟨fun h => h.2, fun h => ⟨by decide, h⟩⟩
theorem dX8_read_9 : decode cX8_read 9 = .ok (.ireturn, 1) := by decide +kernel
theorem rX8_read_9 {R : zP} {x0 x1 x2 x3 : Option zV} {M : zM} {a : Int} : uX8_read R 9 [x0, x1, x2, x3] [.inl a] M ↔ R (some (.inl a)) M := Iff.trans (zU_step dX8_read_9 (Or.inl rfl)) ⟨fun h => h.2.2, fun h => ⟨rfl, Or.inl rfl, h⟩⟩
theorem dX8_read_10 : decode cX8_read 10 = .ok (.aload_n 0, 1) := by decide +kernel
theorem rX8_read_10 {R : zP} {x1 x2 x3 : Option zV} {st : List zV} {M : zM} {a : Nat} : uX8_read R 10 [some (.inr (.inr a)), x1, x2, x3] st M ↔ uX8_read R 11 [some (.inr (.inr a)), x1, x2, x3] (.inr (.inr a) :: st) M := zU_step dX8_read_10 (Or.inl rfl)
theorem dX8_read_11 : decode cX8_read 11 = .ok (.getfield 94, 3) := by decide +kernel
theorem rX8_read_11 {R : zP} {x0 x1 x2 x3 : Option zV} {st : List zV} {M : zM} {r : Nat} : uX8_read R 11 [x0, x1, x2, x3] (.inr (.inr r) :: st) M ↔ zgetx fX8 94 r M (fun v => uX8_read R 14 [x0, x1, x2, x3] (v :: st) M) := zU_step dX8_read_11 (Or.inl rfl)
theorem dX8_read_14 : decode cX8_read 14 = .ok (.iload_n 1, 1) := by decide +kernel
theorem rX8_read_14 {R : zP} {x0 x2 x3 : Option zV} {st : List zV} {M : zM} {a : Int} : uX8_read R 14 [x0, some (.inl a), x2, x3] st M ↔ uX8_read R 15 [x0, some (.inl a), x2, x3] (.inl a :: st) M := zU_step dX8_read_14 (Or.inl rfl)
theorem dX8_read_15 : decode cX8_read 15 = .ok (.baload, 1) := by decide +kernel
theorem rX8_read_15 {R : zP} {x0 x1 x2 x3 : Option zV} {st : List zV} {M : zM} {i : Int} {r : Nat} : uX8_read R 15 [x0, x1, x2, x3] (.inl i :: .inr (.inr r) :: st) M ↔ zread fX8 2 r M i (fun v => uX8_read R 16 [x0, x1, x2, x3] (.inl v :: st) M) := zU_step dX8_read_15 (Or.inl rfl)
theorem dX8_read_16 : decode cX8_read 16 = .ok (.ifCond .ne 9, 3) := by decide +kernel
theorem rX8_read_16 {R : zP} {x0 x1 x2 x3 : Option zV} {st : List zV} {M : zM} {a : Int} : uX8_read R 16 [x0, x1, x2, x3] (.inl a :: st) M ↔ (zIR a ∧ if a ≠ 0 then uX8_read R 25 [x0, x1, x2, x3] st M else uX8_read R 19 [x0, x1, x2, x3] st M) := Iff.trans (zU_step dX8_read_16 (Or.inl rfl)) ⟨fun h => ⟨h.1.1, (zite (c := a ≠ 0)).mpr h.2⟩, fun h => ⟨⟨h.1, by decide⟩, (zite (c := a ≠ 0)).mp h.2⟩⟩
theorem dX8_read_19 : decode cX8_read 19 = .ok (.aload_n 0, 1) := by decide +kernel
theorem rX8_read_19 {R : zP} {x1 x2 x3 : Option zV} {st : List zV} {M : zM} {a : Nat} : uX8_read R 19 [some (.inr (.inr a)), x1, x2, x3] st M ↔ uX8_read R 20 [some (.inr (.inr a)), x1, x2, x3] (.inr (.inr a) :: st) M := zU_step dX8_read_19 (Or.inl rfl)
theorem dX8_read_20 : decode cX8_read 20 = .ok (.iconst 1, 1) := by decide +kernel
theorem rX8_read_20 {R : zP} {x0 x1 x2 x3 : Option zV} {st : List zV} {M : zM} : uX8_read R 20 [x0, x1, x2, x3] st M ↔ uX8_read R 21 [x0, x1, x2, x3] (.inl (1) :: st) M := zU_step dX8_read_20 (Or.inl rfl)
theorem dX8_read_21 : decode cX8_read 21 = .ok (.invokevirtual 172, 3) := by decide +kernel
theorem rX8_read_21 {R : zP} {x0 x1 x2 x3 : Option zV} {st : List zV} {M : zM} {a0 a1 : zV} : uX8_read R 21 [x0, x1, x2, x3] (a1 :: a0 :: st) M ↔ (st.length ≤ 4 ∧ zcv (zv 8 tX8_meets) [a0, a1] M (fun v M => uX8_read R 24 [x0, x1, x2, x3] (v :: st) M)) := Iff.trans (zU_step dX8_read_21 (Or.inl rfl)) ⟨fun h => ⟨h.2.1, zcv_of h.2.2⟩, fun h => ⟨rfl, h.1, zcv_to h.2⟩⟩
theorem dX8_read_24 : decode cX8_read 24 = .ok (.ireturn, 1) := by decide +kernel
theorem rX8_read_24 {R : zP} {x0 x1 x2 x3 : Option zV} {M : zM} {a : Int} : uX8_read R 24 [x0, x1, x2, x3] [.inl a] M ↔ R (some (.inl a)) M := Iff.trans (zU_step dX8_read_24 (Or.inl rfl)) ⟨fun h => h.2.2, fun h => ⟨rfl, Or.inl rfl, h⟩⟩
theorem dX8_read_25 : decode cX8_read 25 = .ok (.iconst 0, 1) := by decide +kernel
theorem rX8_read_25 {R : zP} {x0 x1 x2 x3 : Option zV} {st : List zV} {M : zM} : uX8_read R 25 [x0, x1, x2, x3] st M ↔ uX8_read R 26 [x0, x1, x2, x3] (.inl (0) :: st) M := zU_step dX8_read_25 (Or.inl rfl)
theorem dX8_read_26 : decode cX8_read 26 = .ok (.istore_n 2, 1) := by decide +kernel
theorem rX8_read_26 {R : zP} {x0 x2 x3 : Option zV} {st : List zV} {M : zM} {a : Int} {y : Int} : uX8_read R 26 [x0, some (.inl y), x2, x3] (.inl a :: st) M ↔ uX8_read R 27 [x0, some (.inl y), some (.inl a), x3] st M := Iff.trans (zU_step dX8_read_26 (Or.inl rfl)) ⟨fun h => h.2, fun h => ⟨show 2 < 4 by decide, h⟩⟩
theorem rX8_read_26z {R : zP} {x0 x1 x2 x3 : Option zV} {st : List zV} {M : zM} {a : Int} : uX8_read R 26 [x0, x1, x2, x3] (.inl a :: st) M ↔ uX8_read R 27 [x0, zkeep x1, some (.inl a), x3] st M := Iff.trans (zU_step dX8_read_26 (Or.inl rfl)) ⟨fun h => h.2, fun h => ⟨show 2 < 4 by decide, h⟩⟩
theorem dX8_read_27 : decode cX8_read 27 = .ok (.bipush 60, 2) := by decide +kernel
theorem rX8_read_27 {R : zP} {x0 x1 x2 x3 : Option zV} {st : List zV} {M : zM} : uX8_read R 27 [x0, x1, x2, x3] st M ↔ uX8_read R 29 [x0, x1, x2, x3] (.inl (60) :: st) M := Iff.trans (zU_step dX8_read_27 (Or.inl rfl)) ⟨fun h => h.2, fun h => ⟨by decide, h⟩⟩
theorem dX8_read_29 : decode cX8_read 29 = .ok (.iload_n 1, 1) := by decide +kernel
theorem rX8_read_29 {R : zP} {x0 x2 x3 : Option zV} {st : List zV} {M : zM} {a : Int} : uX8_read R 29 [x0, some (.inl a), x2, x3] st M ↔ uX8_read R 30 [x0, some (.inl a), x2, x3] (.inl a :: st) M := zU_step dX8_read_29 (Or.inl rfl)
theorem dX8_read_30 : decode cX8_read 30 = .ok (.imul, 1) := by decide +kernel
theorem rX8_read_30 {R : zP} {x0 x1 x2 x3 : Option zV} {st : List zV} {M : zM} {a b : Int} : uX8_read R 30 [x0, x1, x2, x3] (.inl b :: .inl a :: st) M ↔ uX8_read R 31 [x0, x1, x2, x3] (.inl (a * b) :: st) M := zU_step dX8_read_30 (Or.inl rfl)
theorem dX8_read_31 : decode cX8_read 31 = .ok (.istore_n 3, 1) := by decide +kernel
theorem rX8_read_31 {R : zP} {x0 x1 x3 : Option zV} {st : List zV} {M : zM} {a : Int} {y : Int} : uX8_read R 31 [x0, x1, some (.inl y), x3] (.inl a :: st) M ↔ uX8_read R 32 [x0, x1, some (.inl y), some (.inl a)] st M := Iff.trans (zU_step dX8_read_31 (Or.inl rfl)) ⟨fun h => h.2, fun h => ⟨show 3 < 4 by decide, h⟩⟩
theorem rX8_read_31z {R : zP} {x0 x1 x2 x3 : Option zV} {st : List zV} {M : zM} {a : Int} : uX8_read R 31 [x0, x1, x2, x3] (.inl a :: st) M ↔ uX8_read R 32 [x0, x1, zkeep x2, some (.inl a)] st M := Iff.trans (zU_step dX8_read_31 (Or.inl rfl)) ⟨fun h => h.2, fun h => ⟨show 3 < 4 by decide, h⟩⟩
theorem dX8_read_32 : decode cX8_read 32 = .ok (.iconst 3, 1) := by decide +kernel
theorem rX8_read_32 {R : zP} {x0 x1 x2 x3 : Option zV} {st : List zV} {M : zM} : uX8_read R 32 [x0, x1, x2, x3] st M ↔ uX8_read R 33 [x0, x1, x2, x3] (.inl (3) :: st) M := zU_step dX8_read_32 (Or.inl rfl)
theorem dX8_read_33 : decode cX8_read 33 = .ok (.iload_n 2, 1) := by decide +kernel
theorem rX8_read_33 {R : zP} {x0 x1 x3 : Option zV} {st : List zV} {M : zM} {a : Int} : uX8_read R 33 [x0, x1, some (.inl a), x3] st M ↔ uX8_read R 34 [x0, x1, some (.inl a), x3] (.inl a :: st) M := zU_step dX8_read_33 (Or.inl rfl)
theorem dX8_read_34 : decode cX8_read 34 = .ok (.imul, 1) := by decide +kernel
theorem rX8_read_34 {R : zP} {x0 x1 x2 x3 : Option zV} {st : List zV} {M : zM} {a b : Int} : uX8_read R 34 [x0, x1, x2, x3] (.inl b :: .inl a :: st) M ↔ uX8_read R 35 [x0, x1, x2, x3] (.inl (a * b) :: st) M := zU_step dX8_read_34 (Or.inl rfl)
theorem dX8_read_35 : decode cX8_read 35 = .ok (.iconst 2, 1) := by decide +kernel
theorem rX8_read_35 {R : zP} {x0 x1 x2 x3 : Option zV} {st : List zV} {M : zM} : uX8_read R 35 [x0, x1, x2, x3] st M ↔ uX8_read R 36 [x0, x1, x2, x3] (.inl (2) :: st) M := zU_step dX8_read_35 (Or.inl rfl)
theorem dX8_read_36 : decode cX8_read 36 = .ok (.iadd, 1) := by decide +kernel
theorem rX8_read_36 {R : zP} {x0 x1 x2 x3 : Option zV} {st : List zV} {M : zM} {a b : Int} : uX8_read R 36 [x0, x1, x2, x3] (.inl b :: .inl a :: st) M ↔ uX8_read R 37 [x0, x1, x2, x3] (.inl (a + b) :: st) M := zU_step dX8_read_36 (Or.inl rfl)
theorem dX8_read_37 : decode cX8_read 37 = .ok (.aload_n 0, 1) := by decide +kernel
theorem rX8_read_37 {R : zP} {x1 x2 x3 : Option zV} {st : List zV} {M : zM} {a : Nat} : uX8_read R 37 [some (.inr (.inr a)), x1, x2, x3] st M ↔ uX8_read R 38 [some (.inr (.inr a)), x1, x2, x3] (.inr (.inr a) :: st) M := zU_step dX8_read_37 (Or.inl rfl)
theorem dX8_read_38 : decode cX8_read 38 = .ok (.getfield 101, 3) := by decide +kernel
theorem rX8_read_38 {R : zP} {x0 x1 x2 x3 : Option zV} {st : List zV} {M : zM} {r : Nat} : uX8_read R 38 [x0, x1, x2, x3] (.inr (.inr r) :: st) M ↔ zgetx fX8 101 r M (fun v => uX8_read R 41 [x0, x1, x2, x3] (v :: st) M) := zU_step dX8_read_38 (Or.inl rfl)
theorem dX8_read_41 : decode cX8_read 41 = .ok (.iload_n 1, 1) := by decide +kernel
theorem rX8_read_41 {R : zP} {x0 x2 x3 : Option zV} {st : List zV} {M : zM} {a : Int} : uX8_read R 41 [x0, some (.inl a), x2, x3] st M ↔ uX8_read R 42 [x0, some (.inl a), x2, x3] (.inl a :: st) M := zU_step dX8_read_41 (Or.inl rfl)
theorem dX8_read_42 : decode cX8_read 42 = .ok (.iaload, 1) := by decide +kernel
theorem rX8_read_42 {R : zP} {x0 x1 x2 x3 : Option zV} {st : List zV} {M : zM} {i : Int} {r : Nat} : uX8_read R 42 [x0, x1, x2, x3] (.inl i :: .inr (.inr r) :: st) M ↔ zread fX8 0 r M i (fun v => uX8_read R 43 [x0, x1, x2, x3] (.inl v :: st) M) := zU_step dX8_read_42 (Or.inl rfl)
theorem dX8_read_43 : decode cX8_read 43 = .ok (.if_icmp .ge 50, 3) := by decide +kernel
theorem rX8_read_43 {R : zP} {x0 x1 x2 x3 : Option zV} {st : List zV} {M : zM} {a b : Int} : uX8_read R 43 [x0, x1, x2, x3] (.inl b :: .inl a :: st) M ↔ ((zIR a ∧ zIR b) ∧ if b ≤ a then uX8_read R 93 [x0, x1, x2, x3] st M else uX8_read R 46 [x0, x1, x2, x3] st M) := Iff.trans (zU_step dX8_read_43 (Or.inl rfl)) ⟨fun h => ⟨⟨h.1.1, h.1.2.1⟩, (zite (c := b ≤ a)).mpr h.2⟩, fun h => ⟨⟨h.1.1, h.1.2, by decide⟩, (zite (c := b ≤ a)).mp h.2⟩⟩
theorem dX8_read_46 : decode cX8_read 46 = .ok (.aload_n 0, 1) := by decide +kernel
theorem rX8_read_46 {R : zP} {x1 x2 x3 : Option zV} {st : List zV} {M : zM} {a : Nat} : uX8_read R 46 [some (.inr (.inr a)), x1, x2, x3] st M ↔ uX8_read R 47 [some (.inr (.inr a)), x1, x2, x3] (.inr (.inr a) :: st) M := zU_step dX8_read_46 (Or.inl rfl)
theorem dX8_read_47 : decode cX8_read 47 = .ok (.aload_n 0, 1) := by decide +kernel
theorem rX8_read_47 {R : zP} {x1 x2 x3 : Option zV} {st : List zV} {M : zM} {a : Nat} : uX8_read R 47 [some (.inr (.inr a)), x1, x2, x3] st M ↔ uX8_read R 48 [some (.inr (.inr a)), x1, x2, x3] (.inr (.inr a) :: st) M := zU_step dX8_read_47 (Or.inl rfl)
theorem dX8_read_48 : decode cX8_read 48 = .ok (.getfield 104, 3) := by decide +kernel
theorem rX8_read_48 {R : zP} {x0 x1 x2 x3 : Option zV} {st : List zV} {M : zM} {r : Nat} : uX8_read R 48 [x0, x1, x2, x3] (.inr (.inr r) :: st) M ↔ zgetx fX8 104 r M (fun v => uX8_read R 51 [x0, x1, x2, x3] (v :: st) M) := zU_step dX8_read_48 (Or.inl rfl)
theorem dX8_read_51 : decode cX8_read 51 = .ok (.iload_n 3, 1) := by decide +kernel
theorem rX8_read_51 {R : zP} {x0 x1 x2 : Option zV} {st : List zV} {M : zM} {a : Int} : uX8_read R 51 [x0, x1, x2, some (.inl a)] st M ↔ uX8_read R 52 [x0, x1, x2, some (.inl a)] (.inl a :: st) M := zU_step dX8_read_51 (Or.inl rfl)
theorem dX8_read_52 : decode cX8_read 52 = .ok (.iconst 3, 1) := by decide +kernel
theorem rX8_read_52 {R : zP} {x0 x1 x2 x3 : Option zV} {st : List zV} {M : zM} : uX8_read R 52 [x0, x1, x2, x3] st M ↔ uX8_read R 53 [x0, x1, x2, x3] (.inl (3) :: st) M := zU_step dX8_read_52 (Or.inl rfl)
theorem dX8_read_53 : decode cX8_read 53 = .ok (.iload_n 2, 1) := by decide +kernel
theorem rX8_read_53 {R : zP} {x0 x1 x3 : Option zV} {st : List zV} {M : zM} {a : Int} : uX8_read R 53 [x0, x1, some (.inl a), x3] st M ↔ uX8_read R 54 [x0, x1, some (.inl a), x3] (.inl a :: st) M := zU_step dX8_read_53 (Or.inl rfl)
theorem dX8_read_54 : decode cX8_read 54 = .ok (.imul, 1) := by decide +kernel
theorem rX8_read_54 {R : zP} {x0 x1 x2 x3 : Option zV} {st : List zV} {M : zM} {a b : Int} : uX8_read R 54 [x0, x1, x2, x3] (.inl b :: .inl a :: st) M ↔ uX8_read R 55 [x0, x1, x2, x3] (.inl (a * b) :: st) M := zU_step dX8_read_54 (Or.inl rfl)
theorem dX8_read_55 : decode cX8_read 55 = .ok (.iadd, 1) := by decide +kernel
theorem rX8_read_55 {R : zP} {x0 x1 x2 x3 : Option zV} {st : List zV} {M : zM} {a b : Int} : uX8_read R 55 [x0, x1, x2, x3] (.inl b :: .inl a :: st) M ↔ uX8_read R 56 [x0, x1, x2, x3] (.inl (a + b) :: st) M := zU_step dX8_read_55 (Or.inl rfl)
theorem dX8_read_56 : decode cX8_read 56 = .ok (.iaload, 1) := by decide +kernel
theorem rX8_read_56 {R : zP} {x0 x1 x2 x3 : Option zV} {st : List zV} {M : zM} {i : Int} {r : Nat} : uX8_read R 56 [x0, x1, x2, x3] (.inl i :: .inr (.inr r) :: st) M ↔ zread fX8 0 r M i (fun v => uX8_read R 57 [x0, x1, x2, x3] (.inl v :: st) M) := zU_step dX8_read_56 (Or.inl rfl)
theorem dX8_read_57 : decode cX8_read 57 = .ok (.aload_n 0, 1) := by decide +kernel
theorem rX8_read_57 {R : zP} {x1 x2 x3 : Option zV} {st : List zV} {M : zM} {a : Nat} : uX8_read R 57 [some (.inr (.inr a)), x1, x2, x3] st M ↔ uX8_read R 58 [some (.inr (.inr a)), x1, x2, x3] (.inr (.inr a) :: st) M := zU_step dX8_read_57 (Or.inl rfl)
theorem dX8_read_58 : decode cX8_read 58 = .ok (.getfield 104, 3) := by decide +kernel
theorem rX8_read_58 {R : zP} {x0 x1 x2 x3 : Option zV} {st : List zV} {M : zM} {r : Nat} : uX8_read R 58 [x0, x1, x2, x3] (.inr (.inr r) :: st) M ↔ zgetx fX8 104 r M (fun v => uX8_read R 61 [x0, x1, x2, x3] (v :: st) M) := zU_step dX8_read_58 (Or.inl rfl)
theorem dX8_read_61 : decode cX8_read 61 = .ok (.iload_n 3, 1) := by decide +kernel
theorem rX8_read_61 {R : zP} {x0 x1 x2 : Option zV} {st : List zV} {M : zM} {a : Int} : uX8_read R 61 [x0, x1, x2, some (.inl a)] st M ↔ uX8_read R 62 [x0, x1, x2, some (.inl a)] (.inl a :: st) M := zU_step dX8_read_61 (Or.inl rfl)
theorem dX8_read_62 : decode cX8_read 62 = .ok (.iconst 3, 1) := by decide +kernel
theorem rX8_read_62 {R : zP} {x0 x1 x2 x3 : Option zV} {st : List zV} {M : zM} : uX8_read R 62 [x0, x1, x2, x3] st M ↔ uX8_read R 63 [x0, x1, x2, x3] (.inl (3) :: st) M := zU_step dX8_read_62 (Or.inl rfl)
theorem dX8_read_63 : decode cX8_read 63 = .ok (.iload_n 2, 1) := by decide +kernel
theorem rX8_read_63 {R : zP} {x0 x1 x3 : Option zV} {st : List zV} {M : zM} {a : Int} : uX8_read R 63 [x0, x1, some (.inl a), x3] st M ↔ uX8_read R 64 [x0, x1, some (.inl a), x3] (.inl a :: st) M := zU_step dX8_read_63 (Or.inl rfl)
theorem dX8_read_64 : decode cX8_read 64 = .ok (.imul, 1) := by decide +kernel
theorem rX8_read_64 {R : zP} {x0 x1 x2 x3 : Option zV} {st : List zV} {M : zM} {a b : Int} : uX8_read R 64 [x0, x1, x2, x3] (.inl b :: .inl a :: st) M ↔ uX8_read R 65 [x0, x1, x2, x3] (.inl (a * b) :: st) M := zU_step dX8_read_64 (Or.inl rfl)
theorem dX8_read_65 : decode cX8_read 65 = .ok (.iadd, 1) := by decide +kernel
theorem rX8_read_65 {R : zP} {x0 x1 x2 x3 : Option zV} {st : List zV} {M : zM} {a b : Int} : uX8_read R 65 [x0, x1, x2, x3] (.inl b :: .inl a :: st) M ↔ uX8_read R 66 [x0, x1, x2, x3] (.inl (a + b) :: st) M := zU_step dX8_read_65 (Or.inl rfl)
theorem dX8_read_66 : decode cX8_read 66 = .ok (.iconst 1, 1) := by decide +kernel
theorem rX8_read_66 {R : zP} {x0 x1 x2 x3 : Option zV} {st : List zV} {M : zM} : uX8_read R 66 [x0, x1, x2, x3] st M ↔ uX8_read R 67 [x0, x1, x2, x3] (.inl (1) :: st) M := zU_step dX8_read_66 (Or.inl rfl)
theorem dX8_read_67 : decode cX8_read 67 = .ok (.iadd, 1) := by decide +kernel
theorem rX8_read_67 {R : zP} {x0 x1 x2 x3 : Option zV} {st : List zV} {M : zM} {a b : Int} : uX8_read R 67 [x0, x1, x2, x3] (.inl b :: .inl a :: st) M ↔ uX8_read R 68 [x0, x1, x2, x3] (.inl (a + b) :: st) M := zU_step dX8_read_67 (Or.inl rfl)
theorem dX8_read_68 : decode cX8_read 68 = .ok (.iaload, 1) := by decide +kernel
theorem rX8_read_68 {R : zP} {x0 x1 x2 x3 : Option zV} {st : List zV} {M : zM} {i : Int} {r : Nat} : uX8_read R 68 [x0, x1, x2, x3] (.inl i :: .inr (.inr r) :: st) M ↔ zread fX8 0 r M i (fun v => uX8_read R 69 [x0, x1, x2, x3] (.inl v :: st) M) := zU_step dX8_read_68 (Or.inl rfl)
theorem dX8_read_69 : decode cX8_read 69 = .ok (.aload_n 0, 1) := by decide +kernel
theorem rX8_read_69 {R : zP} {x1 x2 x3 : Option zV} {st : List zV} {M : zM} {a : Nat} : uX8_read R 69 [some (.inr (.inr a)), x1, x2, x3] st M ↔ uX8_read R 70 [some (.inr (.inr a)), x1, x2, x3] (.inr (.inr a) :: st) M := zU_step dX8_read_69 (Or.inl rfl)
theorem dX8_read_70 : decode cX8_read 70 = .ok (.getfield 104, 3) := by decide +kernel
theorem rX8_read_70 {R : zP} {x0 x1 x2 x3 : Option zV} {st : List zV} {M : zM} {r : Nat} : uX8_read R 70 [x0, x1, x2, x3] (.inr (.inr r) :: st) M ↔ zgetx fX8 104 r M (fun v => uX8_read R 73 [x0, x1, x2, x3] (v :: st) M) := zU_step dX8_read_70 (Or.inl rfl)
theorem dX8_read_73 : decode cX8_read 73 = .ok (.iload_n 3, 1) := by decide +kernel
theorem rX8_read_73 {R : zP} {x0 x1 x2 : Option zV} {st : List zV} {M : zM} {a : Int} : uX8_read R 73 [x0, x1, x2, some (.inl a)] st M ↔ uX8_read R 74 [x0, x1, x2, some (.inl a)] (.inl a :: st) M := zU_step dX8_read_73 (Or.inl rfl)
theorem dX8_read_74 : decode cX8_read 74 = .ok (.iconst 3, 1) := by decide +kernel
theorem rX8_read_74 {R : zP} {x0 x1 x2 x3 : Option zV} {st : List zV} {M : zM} : uX8_read R 74 [x0, x1, x2, x3] st M ↔ uX8_read R 75 [x0, x1, x2, x3] (.inl (3) :: st) M := zU_step dX8_read_74 (Or.inl rfl)
theorem dX8_read_75 : decode cX8_read 75 = .ok (.iload_n 2, 1) := by decide +kernel
theorem rX8_read_75 {R : zP} {x0 x1 x3 : Option zV} {st : List zV} {M : zM} {a : Int} : uX8_read R 75 [x0, x1, some (.inl a), x3] st M ↔ uX8_read R 76 [x0, x1, some (.inl a), x3] (.inl a :: st) M := zU_step dX8_read_75 (Or.inl rfl)
theorem dX8_read_76 : decode cX8_read 76 = .ok (.imul, 1) := by decide +kernel
theorem rX8_read_76 {R : zP} {x0 x1 x2 x3 : Option zV} {st : List zV} {M : zM} {a b : Int} : uX8_read R 76 [x0, x1, x2, x3] (.inl b :: .inl a :: st) M ↔ uX8_read R 77 [x0, x1, x2, x3] (.inl (a * b) :: st) M := zU_step dX8_read_76 (Or.inl rfl)
theorem dX8_read_77 : decode cX8_read 77 = .ok (.iadd, 1) := by decide +kernel
theorem rX8_read_77 {R : zP} {x0 x1 x2 x3 : Option zV} {st : List zV} {M : zM} {a b : Int} : uX8_read R 77 [x0, x1, x2, x3] (.inl b :: .inl a :: st) M ↔ uX8_read R 78 [x0, x1, x2, x3] (.inl (a + b) :: st) M := zU_step dX8_read_77 (Or.inl rfl)
theorem dX8_read_78 : decode cX8_read 78 = .ok (.iconst 2, 1) := by decide +kernel
theorem rX8_read_78 {R : zP} {x0 x1 x2 x3 : Option zV} {st : List zV} {M : zM} : uX8_read R 78 [x0, x1, x2, x3] st M ↔ uX8_read R 79 [x0, x1, x2, x3] (.inl (2) :: st) M := zU_step dX8_read_78 (Or.inl rfl)
theorem dX8_read_79 : decode cX8_read 79 = .ok (.iadd, 1) := by decide +kernel
theorem rX8_read_79 {R : zP} {x0 x1 x2 x3 : Option zV} {st : List zV} {M : zM} {a b : Int} : uX8_read R 79 [x0, x1, x2, x3] (.inl b :: .inl a :: st) M ↔ uX8_read R 80 [x0, x1, x2, x3] (.inl (a + b) :: st) M := zU_step dX8_read_79 (Or.inl rfl)
theorem dX8_read_80 : decode cX8_read 80 = .ok (.iaload, 1) := by decide +kernel
theorem rX8_read_80 {R : zP} {x0 x1 x2 x3 : Option zV} {st : List zV} {M : zM} {i : Int} {r : Nat} : uX8_read R 80 [x0, x1, x2, x3] (.inl i :: .inr (.inr r) :: st) M ↔ zread fX8 0 r M i (fun v => uX8_read R 81 [x0, x1, x2, x3] (.inl v :: st) M) := zU_step dX8_read_80 (Or.inl rfl)
theorem dX8_read_81 : decode cX8_read 81 = .ok (.invokevirtual 175, 3) := by decide +kernel
theorem rX8_read_81 {R : zP} {x0 x1 x2 x3 : Option zV} {st : List zV} {M : zM} {a0 a1 a2 a3 : zV} : uX8_read R 81 [x0, x1, x2, x3] (a3 :: a2 :: a1 :: a0 :: st) M ↔ (st.length ≤ 4 ∧ zcv (zv 8 tX8_feed) [a0, a1, a2, a3] M (fun v M => uX8_read R 84 [x0, x1, x2, x3] (v :: st) M)) := Iff.trans (zU_step dX8_read_81 (Or.inl rfl)) ⟨fun h => ⟨h.2.1, zcv_of h.2.2⟩, fun h => ⟨rfl, h.1, zcv_to h.2⟩⟩
theorem dX8_read_84 : decode cX8_read 84 = .ok (.ifCond .le 9, 3) := by decide +kernel
theorem rX8_read_84 {R : zP} {x0 x1 x2 x3 : Option zV} {st : List zV} {M : zM} {a : Int} : uX8_read R 84 [x0, x1, x2, x3] (.inl a :: st) M ↔ (zIR a ∧ if a ≤ 0 then uX8_read R 93 [x0, x1, x2, x3] st M else uX8_read R 87 [x0, x1, x2, x3] st M) := Iff.trans (zU_step dX8_read_84 (Or.inl rfl)) ⟨fun h => ⟨h.1.1, (zite (c := a ≤ 0)).mpr h.2⟩, fun h => ⟨⟨h.1, by decide⟩, (zite (c := a ≤ 0)).mp h.2⟩⟩
theorem dX8_read_87 : decode cX8_read 87 = .ok (.iinc 2 1, 3) := by decide +kernel
theorem rX8_read_87 {R : zP} {x0 x3 : Option zV} {st : List zV} {M : zM} {a : Int} {y : Int} : uX8_read R 87 [x0, some (.inl y), some (.inl a), x3] st M ↔ uX8_read R 90 [x0, some (.inl y), some (.inl (a + (1))), x3] st M := Iff.trans (zU_step dX8_read_87 (Or.inl rfl)) ⟨fun h => h.2, fun h => ⟨show 2 < 4 by decide, h⟩⟩
theorem rX8_read_87z {R : zP} {x0 x1 x3 : Option zV} {st : List zV} {M : zM} {a : Int} : uX8_read R 87 [x0, x1, some (.inl a), x3] st M ↔ uX8_read R 90 [x0, zkeep x1, some (.inl (a + (1))), x3] st M := Iff.trans (zU_step dX8_read_87 (Or.inl rfl)) ⟨fun h => h.2, fun h => ⟨show 2 < 4 by decide, h⟩⟩
theorem dX8_read_90 : decode cX8_read 90 = .ok (.goto (-58), 3) := by decide +kernel
theorem rX8_read_90 {R : zP} {x0 x1 x2 x3 : Option zV} {st : List zV} {M : zM} : uX8_read R 90 [x0, x1, x2, x3] st M ↔ uX8_read R 32 [x0, x1, x2, x3] st M := Iff.trans (zU_step dX8_read_90 (Or.inl rfl)) ⟨fun h => h.2, fun h => ⟨by decide, h⟩⟩
theorem dX8_read_93 : decode cX8_read 93 = .ok (.iload_n 2, 1) := by decide +kernel
theorem rX8_read_93 {R : zP} {x0 x1 x3 : Option zV} {st : List zV} {M : zM} {a : Int} : uX8_read R 93 [x0, x1, some (.inl a), x3] st M ↔ uX8_read R 94 [x0, x1, some (.inl a), x3] (.inl a :: st) M := zU_step dX8_read_93 (Or.inl rfl)
theorem dX8_read_94 : decode cX8_read 94 = .ok (.ireturn, 1) := by decide +kernel
theorem rX8_read_94 {R : zP} {x0 x1 x2 x3 : Option zV} {M : zM} {a : Int} : uX8_read R 94 [x0, x1, x2, x3] [.inl a] M ↔ R (some (.inl a)) M := Iff.trans (zU_step dX8_read_94 (Or.inl rfl)) ⟨fun h => h.2.2, fun h => ⟨rfl, Or.inl rfl, h⟩⟩
theorem eX8_read {R : zP} {M : zM} {a0 : Nat} {p0 : Int} : tX8_read [.inr (.inr a0), .inl p0] M R ↔ uX8_read R 0 [some (.inr (.inr a0)), some (.inl p0), none, none] [] M := ⟨fun h => h.2, fun h => ⟨show 2 ≤ 4 by decide, h⟩⟩
def uX8_asTold (R : zP) : zK := zU fX8 vX8_asTold cX8_asTold R
theorem dX8_asTold_0 : decode cX8_asTold 0 = .ok (.aload_n 0, 1) := by decide +kernel
theorem rX8_asTold_0 {R : zP} {x1 : Option zV} {st : List zV} {M : zM} {a : Nat} : uX8_asTold R 0 [some (.inr (.inr a)), x1] st M ↔ uX8_asTold R 1 [some (.inr (.inr a)), x1] (.inr (.inr a) :: st) M := zU_step dX8_asTold_0 (Or.inl rfl)
theorem dX8_asTold_1 : decode cX8_asTold 1 = .ok (.invokevirtual 145, 3) := by decide +kernel
theorem rX8_asTold_1 {R : zP} {x0 x1 : Option zV} {st : List zV} {M : zM} {a0 : zV} : uX8_asTold R 1 [x0, x1] (a0 :: st) M ↔ (st.length ≤ 4 ∧ zcn (zv 8 tX8_reads) [a0] M (fun M => uX8_asTold R 4 [x0, x1] st M)) := Iff.trans (zU_step dX8_asTold_1 (Or.inl rfl)) ⟨fun h => ⟨h.2.1, zcn_of h.2.2⟩, fun h => ⟨rfl, h.1, zcn_to h.2⟩⟩
theorem dX8_asTold_4 : decode cX8_asTold 4 = .ok (.aload_n 0, 1) := by decide +kernel
theorem rX8_asTold_4 {R : zP} {x1 : Option zV} {st : List zV} {M : zM} {a : Nat} : uX8_asTold R 4 [some (.inr (.inr a)), x1] st M ↔ uX8_asTold R 5 [some (.inr (.inr a)), x1] (.inr (.inr a) :: st) M := zU_step dX8_asTold_4 (Or.inl rfl)
theorem dX8_asTold_5 : decode cX8_asTold 5 = .ok (.aload_n 0, 1) := by decide +kernel
theorem rX8_asTold_5 {R : zP} {x1 : Option zV} {st : List zV} {M : zM} {a : Nat} : uX8_asTold R 5 [some (.inr (.inr a)), x1] st M ↔ uX8_asTold R 6 [some (.inr (.inr a)), x1] (.inr (.inr a) :: st) M := zU_step dX8_asTold_5 (Or.inl rfl)
theorem dX8_asTold_6 : decode cX8_asTold 6 = .ok (.getfield 166, 3) := by decide +kernel
theorem rX8_asTold_6 {R : zP} {x0 x1 : Option zV} {st : List zV} {M : zM} {r : Nat} : uX8_asTold R 6 [x0, x1] (.inr (.inr r) :: st) M ↔ zgetx fX8 166 r M (fun v => uX8_asTold R 9 [x0, x1] (v :: st) M) := zU_step dX8_asTold_6 (Or.inl rfl)
theorem dX8_asTold_9 : decode cX8_asTold 9 = .ok (.putfield 178, 3) := by decide +kernel
theorem rX8_asTold_9 {R : zP} {x0 x1 : Option zV} {st : List zV} {M : zM} {r : Nat} {v : zV} : uX8_asTold R 9 [x0, x1] (v :: .inr (.inr r) :: st) M ↔ zputx fX8 178 r M v (fun M => uX8_asTold R 12 [x0, x1] st M) := zU_step dX8_asTold_9 (Or.inl rfl)
theorem dX8_asTold_12 : decode cX8_asTold 12 = .ok (.iconst 0, 1) := by decide +kernel
theorem rX8_asTold_12 {R : zP} {x0 x1 : Option zV} {st : List zV} {M : zM} : uX8_asTold R 12 [x0, x1] st M ↔ uX8_asTold R 13 [x0, x1] (.inl (0) :: st) M := zU_step dX8_asTold_12 (Or.inl rfl)
theorem dX8_asTold_13 : decode cX8_asTold 13 = .ok (.istore_n 1, 1) := by decide +kernel
theorem rX8_asTold_13 {R : zP} {x1 : Option zV} {st : List zV} {M : zM} {a : Int} {y : Nat} : uX8_asTold R 13 [some (.inr (.inr y)), x1] (.inl a :: st) M ↔ uX8_asTold R 14 [some (.inr (.inr y)), some (.inl a)] st M := Iff.trans (zU_step dX8_asTold_13 (Or.inl rfl)) ⟨fun h => h.2, fun h => ⟨show 1 < 2 by decide, h⟩⟩
theorem rX8_asTold_13z {R : zP} {x0 x1 : Option zV} {st : List zV} {M : zM} {a : Int} : uX8_asTold R 13 [x0, x1] (.inl a :: st) M ↔ uX8_asTold R 14 [zkeep x0, some (.inl a)] st M := Iff.trans (zU_step dX8_asTold_13 (Or.inl rfl)) ⟨fun h => h.2, fun h => ⟨show 1 < 2 by decide, h⟩⟩
theorem dX8_asTold_14 : decode cX8_asTold 14 = .ok (.iload_n 1, 1) := by decide +kernel
theorem rX8_asTold_14 {R : zP} {x0 : Option zV} {st : List zV} {M : zM} {a : Int} : uX8_asTold R 14 [x0, some (.inl a)] st M ↔ uX8_asTold R 15 [x0, some (.inl a)] (.inl a :: st) M := zU_step dX8_asTold_14 (Or.inl rfl)
theorem dX8_asTold_15 : decode cX8_asTold 15 = .ok (.aload_n 0, 1) := by decide +kernel
theorem rX8_asTold_15 {R : zP} {x1 : Option zV} {st : List zV} {M : zM} {a : Nat} : uX8_asTold R 15 [some (.inr (.inr a)), x1] st M ↔ uX8_asTold R 16 [some (.inr (.inr a)), x1] (.inr (.inr a) :: st) M := zU_step dX8_asTold_15 (Or.inl rfl)
theorem dX8_asTold_16 : decode cX8_asTold 16 = .ok (.getfield 166, 3) := by decide +kernel
theorem rX8_asTold_16 {R : zP} {x0 x1 : Option zV} {st : List zV} {M : zM} {r : Nat} : uX8_asTold R 16 [x0, x1] (.inr (.inr r) :: st) M ↔ zgetx fX8 166 r M (fun v => uX8_asTold R 19 [x0, x1] (v :: st) M) := zU_step dX8_asTold_16 (Or.inl rfl)
theorem dX8_asTold_19 : decode cX8_asTold 19 = .ok (.if_icmp .ge 45, 3) := by decide +kernel
theorem rX8_asTold_19 {R : zP} {x0 x1 : Option zV} {st : List zV} {M : zM} {a b : Int} : uX8_asTold R 19 [x0, x1] (.inl b :: .inl a :: st) M ↔ ((zIR a ∧ zIR b) ∧ if b ≤ a then uX8_asTold R 64 [x0, x1] st M else uX8_asTold R 22 [x0, x1] st M) := Iff.trans (zU_step dX8_asTold_19 (Or.inl rfl)) ⟨fun h => ⟨⟨h.1.1, h.1.2.1⟩, (zite (c := b ≤ a)).mpr h.2⟩, fun h => ⟨⟨h.1.1, h.1.2, by decide⟩, (zite (c := b ≤ a)).mp h.2⟩⟩
theorem dX8_asTold_22 : decode cX8_asTold 22 = .ok (.aload_n 0, 1) := by decide +kernel
theorem rX8_asTold_22 {R : zP} {x1 : Option zV} {st : List zV} {M : zM} {a : Nat} : uX8_asTold R 22 [some (.inr (.inr a)), x1] st M ↔ uX8_asTold R 23 [some (.inr (.inr a)), x1] (.inr (.inr a) :: st) M := zU_step dX8_asTold_22 (Or.inl rfl)
theorem dX8_asTold_23 : decode cX8_asTold 23 = .ok (.getfield 37, 3) := by decide +kernel
theorem rX8_asTold_23 {R : zP} {x0 x1 : Option zV} {st : List zV} {M : zM} {r : Nat} : uX8_asTold R 23 [x0, x1] (.inr (.inr r) :: st) M ↔ zgetx fX8 37 r M (fun v => uX8_asTold R 26 [x0, x1] (v :: st) M) := zU_step dX8_asTold_23 (Or.inl rfl)
theorem dX8_asTold_26 : decode cX8_asTold 26 = .ok (.iload_n 1, 1) := by decide +kernel
theorem rX8_asTold_26 {R : zP} {x0 : Option zV} {st : List zV} {M : zM} {a : Int} : uX8_asTold R 26 [x0, some (.inl a)] st M ↔ uX8_asTold R 27 [x0, some (.inl a)] (.inl a :: st) M := zU_step dX8_asTold_26 (Or.inl rfl)
theorem dX8_asTold_27 : decode cX8_asTold 27 = .ok (.aload_n 0, 1) := by decide +kernel
theorem rX8_asTold_27 {R : zP} {x1 : Option zV} {st : List zV} {M : zM} {a : Nat} : uX8_asTold R 27 [some (.inr (.inr a)), x1] st M ↔ uX8_asTold R 28 [some (.inr (.inr a)), x1] (.inr (.inr a) :: st) M := zU_step dX8_asTold_27 (Or.inl rfl)
theorem dX8_asTold_28 : decode cX8_asTold 28 = .ok (.getfield 28, 3) := by decide +kernel
theorem rX8_asTold_28 {R : zP} {x0 x1 : Option zV} {st : List zV} {M : zM} {r : Nat} : uX8_asTold R 28 [x0, x1] (.inr (.inr r) :: st) M ↔ zgetx fX8 28 r M (fun v => uX8_asTold R 31 [x0, x1] (v :: st) M) := zU_step dX8_asTold_28 (Or.inl rfl)
theorem dX8_asTold_31 : decode cX8_asTold 31 = .ok (.iload_n 1, 1) := by decide +kernel
theorem rX8_asTold_31 {R : zP} {x0 : Option zV} {st : List zV} {M : zM} {a : Int} : uX8_asTold R 31 [x0, some (.inl a)] st M ↔ uX8_asTold R 32 [x0, some (.inl a)] (.inl a :: st) M := zU_step dX8_asTold_31 (Or.inl rfl)
theorem dX8_asTold_32 : decode cX8_asTold 32 = .ok (.iaload, 1) := by decide +kernel
theorem rX8_asTold_32 {R : zP} {x0 x1 : Option zV} {st : List zV} {M : zM} {i : Int} {r : Nat} : uX8_asTold R 32 [x0, x1] (.inl i :: .inr (.inr r) :: st) M ↔ zread fX8 0 r M i (fun v => uX8_asTold R 33 [x0, x1] (.inl v :: st) M) := zU_step dX8_asTold_32 (Or.inl rfl)
theorem dX8_asTold_33 : decode cX8_asTold 33 = .ok (.iastore, 1) := by decide +kernel
theorem rX8_asTold_33 {R : zP} {x0 x1 : Option zV} {st : List zV} {M : zM} {i v : Int} {r : Nat} : uX8_asTold R 33 [x0, x1] (.inl v :: .inl i :: .inr (.inr r) :: st) M ↔ zwrite 0 r i (uX8_asTold R 34 [x0, x1] st (zup M r i v)) := zU_step dX8_asTold_33 (Or.inl rfl)
theorem dX8_asTold_34 : decode cX8_asTold 34 = .ok (.aload_n 0, 1) := by decide +kernel
theorem rX8_asTold_34 {R : zP} {x1 : Option zV} {st : List zV} {M : zM} {a : Nat} : uX8_asTold R 34 [some (.inr (.inr a)), x1] st M ↔ uX8_asTold R 35 [some (.inr (.inr a)), x1] (.inr (.inr a) :: st) M := zU_step dX8_asTold_34 (Or.inl rfl)
theorem dX8_asTold_35 : decode cX8_asTold 35 = .ok (.getfield 40, 3) := by decide +kernel
theorem rX8_asTold_35 {R : zP} {x0 x1 : Option zV} {st : List zV} {M : zM} {r : Nat} : uX8_asTold R 35 [x0, x1] (.inr (.inr r) :: st) M ↔ zgetx fX8 40 r M (fun v => uX8_asTold R 38 [x0, x1] (v :: st) M) := zU_step dX8_asTold_35 (Or.inl rfl)
theorem dX8_asTold_38 : decode cX8_asTold 38 = .ok (.iload_n 1, 1) := by decide +kernel
theorem rX8_asTold_38 {R : zP} {x0 : Option zV} {st : List zV} {M : zM} {a : Int} : uX8_asTold R 38 [x0, some (.inl a)] st M ↔ uX8_asTold R 39 [x0, some (.inl a)] (.inl a :: st) M := zU_step dX8_asTold_38 (Or.inl rfl)
theorem dX8_asTold_39 : decode cX8_asTold 39 = .ok (.aload_n 0, 1) := by decide +kernel
theorem rX8_asTold_39 {R : zP} {x1 : Option zV} {st : List zV} {M : zM} {a : Nat} : uX8_asTold R 39 [some (.inr (.inr a)), x1] st M ↔ uX8_asTold R 40 [some (.inr (.inr a)), x1] (.inr (.inr a) :: st) M := zU_step dX8_asTold_39 (Or.inl rfl)
theorem dX8_asTold_40 : decode cX8_asTold 40 = .ok (.getfield 31, 3) := by decide +kernel
theorem rX8_asTold_40 {R : zP} {x0 x1 : Option zV} {st : List zV} {M : zM} {r : Nat} : uX8_asTold R 40 [x0, x1] (.inr (.inr r) :: st) M ↔ zgetx fX8 31 r M (fun v => uX8_asTold R 43 [x0, x1] (v :: st) M) := zU_step dX8_asTold_40 (Or.inl rfl)
theorem dX8_asTold_43 : decode cX8_asTold 43 = .ok (.iload_n 1, 1) := by decide +kernel
theorem rX8_asTold_43 {R : zP} {x0 : Option zV} {st : List zV} {M : zM} {a : Int} : uX8_asTold R 43 [x0, some (.inl a)] st M ↔ uX8_asTold R 44 [x0, some (.inl a)] (.inl a :: st) M := zU_step dX8_asTold_43 (Or.inl rfl)
theorem dX8_asTold_44 : decode cX8_asTold 44 = .ok (.iaload, 1) := by decide +kernel
theorem rX8_asTold_44 {R : zP} {x0 x1 : Option zV} {st : List zV} {M : zM} {i : Int} {r : Nat} : uX8_asTold R 44 [x0, x1] (.inl i :: .inr (.inr r) :: st) M ↔ zread fX8 0 r M i (fun v => uX8_asTold R 45 [x0, x1] (.inl v :: st) M) := zU_step dX8_asTold_44 (Or.inl rfl)
theorem dX8_asTold_45 : decode cX8_asTold 45 = .ok (.iastore, 1) := by decide +kernel
theorem rX8_asTold_45 {R : zP} {x0 x1 : Option zV} {st : List zV} {M : zM} {i v : Int} {r : Nat} : uX8_asTold R 45 [x0, x1] (.inl v :: .inl i :: .inr (.inr r) :: st) M ↔ zwrite 0 r i (uX8_asTold R 46 [x0, x1] st (zup M r i v)) := zU_step dX8_asTold_45 (Or.inl rfl)
theorem dX8_asTold_46 : decode cX8_asTold 46 = .ok (.aload_n 0, 1) := by decide +kernel
theorem rX8_asTold_46 {R : zP} {x1 : Option zV} {st : List zV} {M : zM} {a : Nat} : uX8_asTold R 46 [some (.inr (.inr a)), x1] st M ↔ uX8_asTold R 47 [some (.inr (.inr a)), x1] (.inr (.inr a) :: st) M := zU_step dX8_asTold_46 (Or.inl rfl)
theorem dX8_asTold_47 : decode cX8_asTold 47 = .ok (.getfield 43, 3) := by decide +kernel
theorem rX8_asTold_47 {R : zP} {x0 x1 : Option zV} {st : List zV} {M : zM} {r : Nat} : uX8_asTold R 47 [x0, x1] (.inr (.inr r) :: st) M ↔ zgetx fX8 43 r M (fun v => uX8_asTold R 50 [x0, x1] (v :: st) M) := zU_step dX8_asTold_47 (Or.inl rfl)
theorem dX8_asTold_50 : decode cX8_asTold 50 = .ok (.iload_n 1, 1) := by decide +kernel
theorem rX8_asTold_50 {R : zP} {x0 : Option zV} {st : List zV} {M : zM} {a : Int} : uX8_asTold R 50 [x0, some (.inl a)] st M ↔ uX8_asTold R 51 [x0, some (.inl a)] (.inl a :: st) M := zU_step dX8_asTold_50 (Or.inl rfl)
theorem dX8_asTold_51 : decode cX8_asTold 51 = .ok (.aload_n 0, 1) := by decide +kernel
theorem rX8_asTold_51 {R : zP} {x1 : Option zV} {st : List zV} {M : zM} {a : Nat} : uX8_asTold R 51 [some (.inr (.inr a)), x1] st M ↔ uX8_asTold R 52 [some (.inr (.inr a)), x1] (.inr (.inr a) :: st) M := zU_step dX8_asTold_51 (Or.inl rfl)
theorem dX8_asTold_52 : decode cX8_asTold 52 = .ok (.getfield 34, 3) := by decide +kernel
theorem rX8_asTold_52 {R : zP} {x0 x1 : Option zV} {st : List zV} {M : zM} {r : Nat} : uX8_asTold R 52 [x0, x1] (.inr (.inr r) :: st) M ↔ zgetx fX8 34 r M (fun v => uX8_asTold R 55 [x0, x1] (v :: st) M) := zU_step dX8_asTold_52 (Or.inl rfl)
theorem dX8_asTold_55 : decode cX8_asTold 55 = .ok (.iload_n 1, 1) := by decide +kernel
theorem rX8_asTold_55 {R : zP} {x0 : Option zV} {st : List zV} {M : zM} {a : Int} : uX8_asTold R 55 [x0, some (.inl a)] st M ↔ uX8_asTold R 56 [x0, some (.inl a)] (.inl a :: st) M := zU_step dX8_asTold_55 (Or.inl rfl)
theorem dX8_asTold_56 : decode cX8_asTold 56 = .ok (.iaload, 1) := by decide +kernel
theorem rX8_asTold_56 {R : zP} {x0 x1 : Option zV} {st : List zV} {M : zM} {i : Int} {r : Nat} : uX8_asTold R 56 [x0, x1] (.inl i :: .inr (.inr r) :: st) M ↔ zread fX8 0 r M i (fun v => uX8_asTold R 57 [x0, x1] (.inl v :: st) M) := zU_step dX8_asTold_56 (Or.inl rfl)
theorem dX8_asTold_57 : decode cX8_asTold 57 = .ok (.iastore, 1) := by decide +kernel
theorem rX8_asTold_57 {R : zP} {x0 x1 : Option zV} {st : List zV} {M : zM} {i v : Int} {r : Nat} : uX8_asTold R 57 [x0, x1] (.inl v :: .inl i :: .inr (.inr r) :: st) M ↔ zwrite 0 r i (uX8_asTold R 58 [x0, x1] st (zup M r i v)) := zU_step dX8_asTold_57 (Or.inl rfl)
theorem dX8_asTold_58 : decode cX8_asTold 58 = .ok (.iinc 1 1, 3) := by decide +kernel
theorem rX8_asTold_58 {R : zP} {st : List zV} {M : zM} {a : Int} {y : Nat} : uX8_asTold R 58 [some (.inr (.inr y)), some (.inl a)] st M ↔ uX8_asTold R 61 [some (.inr (.inr y)), some (.inl (a + (1)))] st M := Iff.trans (zU_step dX8_asTold_58 (Or.inl rfl)) ⟨fun h => h.2, fun h => ⟨show 1 < 2 by decide, h⟩⟩
theorem rX8_asTold_58z {R : zP} {x0 : Option zV} {st : List zV} {M : zM} {a : Int} : uX8_asTold R 58 [x0, some (.inl a)] st M ↔ uX8_asTold R 61 [zkeep x0, some (.inl (a + (1)))] st M := Iff.trans (zU_step dX8_asTold_58 (Or.inl rfl)) ⟨fun h => h.2, fun h => ⟨show 1 < 2 by decide, h⟩⟩
theorem dX8_asTold_61 : decode cX8_asTold 61 = .ok (.goto (-47), 3) := by decide +kernel
theorem rX8_asTold_61 {R : zP} {x0 x1 : Option zV} {st : List zV} {M : zM} : uX8_asTold R 61 [x0, x1] st M ↔ uX8_asTold R 14 [x0, x1] st M := Iff.trans (zU_step dX8_asTold_61 (Or.inl rfl)) ⟨fun h => h.2, fun h => ⟨by decide, h⟩⟩
theorem dX8_asTold_64 : decode cX8_asTold 64 = .ok (.aload_n 0, 1) := by decide +kernel
theorem rX8_asTold_64 {R : zP} {x1 : Option zV} {st : List zV} {M : zM} {a : Nat} : uX8_asTold R 64 [some (.inr (.inr a)), x1] st M ↔ uX8_asTold R 65 [some (.inr (.inr a)), x1] (.inr (.inr a) :: st) M := zU_step dX8_asTold_64 (Or.inl rfl)
theorem dX8_asTold_65 : decode cX8_asTold 65 = .ok (.iconst 0, 1) := by decide +kernel
theorem rX8_asTold_65 {R : zP} {x0 x1 : Option zV} {st : List zV} {M : zM} : uX8_asTold R 65 [x0, x1] st M ↔ uX8_asTold R 66 [x0, x1] (.inl (0) :: st) M := zU_step dX8_asTold_65 (Or.inl rfl)
theorem dX8_asTold_66 : decode cX8_asTold 66 = .ok (.putfield 181, 3) := by decide +kernel
theorem rX8_asTold_66 {R : zP} {x0 x1 : Option zV} {st : List zV} {M : zM} {r : Nat} {v : zV} : uX8_asTold R 66 [x0, x1] (v :: .inr (.inr r) :: st) M ↔ zputx fX8 181 r M v (fun M => uX8_asTold R 69 [x0, x1] st M) := zU_step dX8_asTold_66 (Or.inl rfl)
theorem dX8_asTold_69 : decode cX8_asTold 69 = .ok (.return_, 1) := by decide +kernel
theorem rX8_asTold_69 {R : zP} {x0 x1 : Option zV} {M : zM} : uX8_asTold R 69 [x0, x1] [] M ↔ R none M := Iff.trans (zU_step dX8_asTold_69 (Or.inl rfl)) ⟨fun h => h.2.2, fun h => ⟨rfl, rfl, h⟩⟩
theorem eX8_asTold {R : zP} {M : zM} {a0 : Nat} : tX8_asTold [.inr (.inr a0)] M R ↔ uX8_asTold R 0 [some (.inr (.inr a0)), none] [] M := ⟨fun h => h.2, fun h => ⟨show 1 ≤ 2 by decide, h⟩⟩
def uX8_drinks (R : zP) : zK := zU fX8 vX8_drinks cX8_drinks R
theorem dX8_drinks_0 : decode cX8_drinks 0 = .ok (.aload_n 0, 1) := by decide +kernel
theorem rX8_drinks_0 {R : zP} {x1 x2 x3 x4 x5 x6 x7 x8 x9 x10 : Option zV} {st : List zV} {M : zM} {a : Nat} : uX8_drinks R 0 [some (.inr (.inr a)), x1, x2, x3, x4, x5, x6, x7, x8, x9, x10] st M ↔ uX8_drinks R 1 [some (.inr (.inr a)), x1, x2, x3, x4, x5, x6, x7, x8, x9, x10] (.inr (.inr a) :: st) M := zU_step dX8_drinks_0 (Or.inl rfl)
theorem dX8_drinks_1 : decode cX8_drinks 1 = .ok (.getfield 55, 3) := by decide +kernel
theorem rX8_drinks_1 {R : zP} {x0 x1 x2 x3 x4 x5 x6 x7 x8 x9 x10 : Option zV} {st : List zV} {M : zM} {r : Nat} : uX8_drinks R 1 [x0, x1, x2, x3, x4, x5, x6, x7, x8, x9, x10] (.inr (.inr r) :: st) M ↔ zgetx fX8 55 r M (fun v => uX8_drinks R 4 [x0, x1, x2, x3, x4, x5, x6, x7, x8, x9, x10] (v :: st) M) := zU_step dX8_drinks_1 (Or.inl rfl)
theorem dX8_drinks_4 : decode cX8_drinks 4 = .ok (.iload_n 1, 1) := by decide +kernel
theorem rX8_drinks_4 {R : zP} {x0 x2 x3 x4 x5 x6 x7 x8 x9 x10 : Option zV} {st : List zV} {M : zM} {a : Int} : uX8_drinks R 4 [x0, some (.inl a), x2, x3, x4, x5, x6, x7, x8, x9, x10] st M ↔ uX8_drinks R 5 [x0, some (.inl a), x2, x3, x4, x5, x6, x7, x8, x9, x10] (.inl a :: st) M := zU_step dX8_drinks_4 (Or.inl rfl)
theorem dX8_drinks_5 : decode cX8_drinks 5 = .ok (.iaload, 1) := by decide +kernel
theorem rX8_drinks_5 {R : zP} {x0 x1 x2 x3 x4 x5 x6 x7 x8 x9 x10 : Option zV} {st : List zV} {M : zM} {i : Int} {r : Nat} : uX8_drinks R 5 [x0, x1, x2, x3, x4, x5, x6, x7, x8, x9, x10] (.inl i :: .inr (.inr r) :: st) M ↔ zread fX8 0 r M i (fun v => uX8_drinks R 6 [x0, x1, x2, x3, x4, x5, x6, x7, x8, x9, x10] (.inl v :: st) M) := zU_step dX8_drinks_5 (Or.inl rfl)
theorem dX8_drinks_6 : decode cX8_drinks 6 = .ok (.iconst 2, 1) := by decide +kernel
theorem rX8_drinks_6 {R : zP} {x0 x1 x2 x3 x4 x5 x6 x7 x8 x9 x10 : Option zV} {st : List zV} {M : zM} : uX8_drinks R 6 [x0, x1, x2, x3, x4, x5, x6, x7, x8, x9, x10] st M ↔ uX8_drinks R 7 [x0, x1, x2, x3, x4, x5, x6, x7, x8, x9, x10] (.inl (2) :: st) M := zU_step dX8_drinks_6 (Or.inl rfl)
theorem dX8_drinks_7 : decode cX8_drinks 7 = .ok (.aload_n 0, 1) := by decide +kernel
theorem rX8_drinks_7 {R : zP} {x1 x2 x3 x4 x5 x6 x7 x8 x9 x10 : Option zV} {st : List zV} {M : zM} {a : Nat} : uX8_drinks R 7 [some (.inr (.inr a)), x1, x2, x3, x4, x5, x6, x7, x8, x9, x10] st M ↔ uX8_drinks R 8 [some (.inr (.inr a)), x1, x2, x3, x4, x5, x6, x7, x8, x9, x10] (.inr (.inr a) :: st) M := zU_step dX8_drinks_7 (Or.inl rfl)
theorem dX8_drinks_8 : decode cX8_drinks 8 = .ok (.getfield 22, 3) := by decide +kernel
theorem rX8_drinks_8 {R : zP} {x0 x1 x2 x3 x4 x5 x6 x7 x8 x9 x10 : Option zV} {st : List zV} {M : zM} {r : Nat} : uX8_drinks R 8 [x0, x1, x2, x3, x4, x5, x6, x7, x8, x9, x10] (.inr (.inr r) :: st) M ↔ zgetx fX8 22 r M (fun v => uX8_drinks R 11 [x0, x1, x2, x3, x4, x5, x6, x7, x8, x9, x10] (v :: st) M) := zU_step dX8_drinks_8 (Or.inl rfl)
theorem dX8_drinks_11 : decode cX8_drinks 11 = .ok (.iload_n 2, 1) := by decide +kernel
theorem rX8_drinks_11 {R : zP} {x0 x1 x3 x4 x5 x6 x7 x8 x9 x10 : Option zV} {st : List zV} {M : zM} {a : Int} : uX8_drinks R 11 [x0, x1, some (.inl a), x3, x4, x5, x6, x7, x8, x9, x10] st M ↔ uX8_drinks R 12 [x0, x1, some (.inl a), x3, x4, x5, x6, x7, x8, x9, x10] (.inl a :: st) M := zU_step dX8_drinks_11 (Or.inl rfl)
theorem dX8_drinks_12 : decode cX8_drinks 12 = .ok (.iaload, 1) := by decide +kernel
theorem rX8_drinks_12 {R : zP} {x0 x1 x2 x3 x4 x5 x6 x7 x8 x9 x10 : Option zV} {st : List zV} {M : zM} {i : Int} {r : Nat} : uX8_drinks R 12 [x0, x1, x2, x3, x4, x5, x6, x7, x8, x9, x10] (.inl i :: .inr (.inr r) :: st) M ↔ zread fX8 0 r M i (fun v => uX8_drinks R 13 [x0, x1, x2, x3, x4, x5, x6, x7, x8, x9, x10] (.inl v :: st) M) := zU_step dX8_drinks_12 (Or.inl rfl)
theorem dX8_drinks_13 : decode cX8_drinks 13 = .ok (.imul, 1) := by decide +kernel
theorem rX8_drinks_13 {R : zP} {x0 x1 x2 x3 x4 x5 x6 x7 x8 x9 x10 : Option zV} {st : List zV} {M : zM} {a b : Int} : uX8_drinks R 13 [x0, x1, x2, x3, x4, x5, x6, x7, x8, x9, x10] (.inl b :: .inl a :: st) M ↔ uX8_drinks R 14 [x0, x1, x2, x3, x4, x5, x6, x7, x8, x9, x10] (.inl (a * b) :: st) M := zU_step dX8_drinks_13 (Or.inl rfl)
theorem dX8_drinks_14 : decode cX8_drinks 14 = .ok (.iadd, 1) := by decide +kernel
theorem rX8_drinks_14 {R : zP} {x0 x1 x2 x3 x4 x5 x6 x7 x8 x9 x10 : Option zV} {st : List zV} {M : zM} {a b : Int} : uX8_drinks R 14 [x0, x1, x2, x3, x4, x5, x6, x7, x8, x9, x10] (.inl b :: .inl a :: st) M ↔ uX8_drinks R 15 [x0, x1, x2, x3, x4, x5, x6, x7, x8, x9, x10] (.inl (a + b) :: st) M := zU_step dX8_drinks_14 (Or.inl rfl)
theorem dX8_drinks_15 : decode cX8_drinks 15 = .ok (.istore_n 3, 1) := by decide +kernel
theorem rX8_drinks_15 {R : zP} {x0 x1 x3 x4 x5 x6 x7 x8 x9 x10 : Option zV} {st : List zV} {M : zM} {a : Int} {y : Int} : uX8_drinks R 15 [x0, x1, some (.inl y), x3, x4, x5, x6, x7, x8, x9, x10] (.inl a :: st) M ↔ uX8_drinks R 16 [x0, x1, some (.inl y), some (.inl a), x4, x5, x6, x7, x8, x9, x10] st M := Iff.trans (zU_step dX8_drinks_15 (Or.inl rfl)) ⟨fun h => h.2, fun h => ⟨show 3 < 11 by decide, h⟩⟩
theorem rX8_drinks_15z {R : zP} {x0 x1 x2 x3 x4 x5 x6 x7 x8 x9 x10 : Option zV} {st : List zV} {M : zM} {a : Int} : uX8_drinks R 15 [x0, x1, x2, x3, x4, x5, x6, x7, x8, x9, x10] (.inl a :: st) M ↔ uX8_drinks R 16 [x0, x1, zkeep x2, some (.inl a), x4, x5, x6, x7, x8, x9, x10] st M := Iff.trans (zU_step dX8_drinks_15 (Or.inl rfl)) ⟨fun h => h.2, fun h => ⟨show 3 < 11 by decide, h⟩⟩
theorem dX8_drinks_16 : decode cX8_drinks 16 = .ok (.aload_n 0, 1) := by decide +kernel
theorem rX8_drinks_16 {R : zP} {x1 x2 x3 x4 x5 x6 x7 x8 x9 x10 : Option zV} {st : List zV} {M : zM} {a : Nat} : uX8_drinks R 16 [some (.inr (.inr a)), x1, x2, x3, x4, x5, x6, x7, x8, x9, x10] st M ↔ uX8_drinks R 17 [some (.inr (.inr a)), x1, x2, x3, x4, x5, x6, x7, x8, x9, x10] (.inr (.inr a) :: st) M := zU_step dX8_drinks_16 (Or.inl rfl)
theorem dX8_drinks_17 : decode cX8_drinks 17 = .ok (.getfield 16, 3) := by decide +kernel
theorem rX8_drinks_17 {R : zP} {x0 x1 x2 x3 x4 x5 x6 x7 x8 x9 x10 : Option zV} {st : List zV} {M : zM} {r : Nat} : uX8_drinks R 17 [x0, x1, x2, x3, x4, x5, x6, x7, x8, x9, x10] (.inr (.inr r) :: st) M ↔ zgetx fX8 16 r M (fun v => uX8_drinks R 20 [x0, x1, x2, x3, x4, x5, x6, x7, x8, x9, x10] (v :: st) M) := zU_step dX8_drinks_17 (Or.inl rfl)
theorem dX8_drinks_20 : decode cX8_drinks 20 = .ok (.iload_n 1, 1) := by decide +kernel
theorem rX8_drinks_20 {R : zP} {x0 x2 x3 x4 x5 x6 x7 x8 x9 x10 : Option zV} {st : List zV} {M : zM} {a : Int} : uX8_drinks R 20 [x0, some (.inl a), x2, x3, x4, x5, x6, x7, x8, x9, x10] st M ↔ uX8_drinks R 21 [x0, some (.inl a), x2, x3, x4, x5, x6, x7, x8, x9, x10] (.inl a :: st) M := zU_step dX8_drinks_20 (Or.inl rfl)
theorem dX8_drinks_21 : decode cX8_drinks 21 = .ok (.iaload, 1) := by decide +kernel
theorem rX8_drinks_21 {R : zP} {x0 x1 x2 x3 x4 x5 x6 x7 x8 x9 x10 : Option zV} {st : List zV} {M : zM} {i : Int} {r : Nat} : uX8_drinks R 21 [x0, x1, x2, x3, x4, x5, x6, x7, x8, x9, x10] (.inl i :: .inr (.inr r) :: st) M ↔ zread fX8 0 r M i (fun v => uX8_drinks R 22 [x0, x1, x2, x3, x4, x5, x6, x7, x8, x9, x10] (.inl v :: st) M) := zU_step dX8_drinks_21 (Or.inl rfl)
theorem dX8_drinks_22 : decode cX8_drinks 22 = .ok (.ifCond .ne 7, 3) := by decide +kernel
theorem rX8_drinks_22 {R : zP} {x0 x1 x2 x3 x4 x5 x6 x7 x8 x9 x10 : Option zV} {st : List zV} {M : zM} {a : Int} : uX8_drinks R 22 [x0, x1, x2, x3, x4, x5, x6, x7, x8, x9, x10] (.inl a :: st) M ↔ (zIR a ∧ if a ≠ 0 then uX8_drinks R 29 [x0, x1, x2, x3, x4, x5, x6, x7, x8, x9, x10] st M else uX8_drinks R 25 [x0, x1, x2, x3, x4, x5, x6, x7, x8, x9, x10] st M) := Iff.trans (zU_step dX8_drinks_22 (Or.inl rfl)) ⟨fun h => ⟨h.1.1, (zite (c := a ≠ 0)).mpr h.2⟩, fun h => ⟨⟨h.1, by decide⟩, (zite (c := a ≠ 0)).mp h.2⟩⟩
theorem dX8_drinks_25 : decode cX8_drinks 25 = .ok (.iconst 1, 1) := by decide +kernel
theorem rX8_drinks_25 {R : zP} {x0 x1 x2 x3 x4 x5 x6 x7 x8 x9 x10 : Option zV} {st : List zV} {M : zM} : uX8_drinks R 25 [x0, x1, x2, x3, x4, x5, x6, x7, x8, x9, x10] st M ↔ uX8_drinks R 26 [x0, x1, x2, x3, x4, x5, x6, x7, x8, x9, x10] (.inl (1) :: st) M := zU_step dX8_drinks_25 (Or.inl rfl)
theorem dX8_drinks_26 : decode cX8_drinks 26 = .ok (.goto 18, 3) := by decide +kernel
theorem rX8_drinks_26 {R : zP} {x0 x1 x2 x3 x4 x5 x6 x7 x8 x9 x10 : Option zV} {st : List zV} {M : zM} : uX8_drinks R 26 [x0, x1, x2, x3, x4, x5, x6, x7, x8, x9, x10] st M ↔ uX8_drinks R 44 [x0, x1, x2, x3, x4, x5, x6, x7, x8, x9, x10] st M := Iff.trans (zU_step dX8_drinks_26 (Or.inl rfl)) ⟨fun h => h.2, fun h => ⟨by decide, h⟩⟩
theorem dX8_drinks_29 : decode cX8_drinks 29 = .ok (.aload_n 0, 1) := by decide +kernel
theorem rX8_drinks_29 {R : zP} {x1 x2 x3 x4 x5 x6 x7 x8 x9 x10 : Option zV} {st : List zV} {M : zM} {a : Nat} : uX8_drinks R 29 [some (.inr (.inr a)), x1, x2, x3, x4, x5, x6, x7, x8, x9, x10] st M ↔ uX8_drinks R 30 [some (.inr (.inr a)), x1, x2, x3, x4, x5, x6, x7, x8, x9, x10] (.inr (.inr a) :: st) M := zU_step dX8_drinks_29 (Or.inl rfl)
theorem dX8_drinks_30 : decode cX8_drinks 30 = .ok (.getfield 16, 3) := by decide +kernel
theorem rX8_drinks_30 {R : zP} {x0 x1 x2 x3 x4 x5 x6 x7 x8 x9 x10 : Option zV} {st : List zV} {M : zM} {r : Nat} : uX8_drinks R 30 [x0, x1, x2, x3, x4, x5, x6, x7, x8, x9, x10] (.inr (.inr r) :: st) M ↔ zgetx fX8 16 r M (fun v => uX8_drinks R 33 [x0, x1, x2, x3, x4, x5, x6, x7, x8, x9, x10] (v :: st) M) := zU_step dX8_drinks_30 (Or.inl rfl)
theorem dX8_drinks_33 : decode cX8_drinks 33 = .ok (.iload_n 1, 1) := by decide +kernel
theorem rX8_drinks_33 {R : zP} {x0 x2 x3 x4 x5 x6 x7 x8 x9 x10 : Option zV} {st : List zV} {M : zM} {a : Int} : uX8_drinks R 33 [x0, some (.inl a), x2, x3, x4, x5, x6, x7, x8, x9, x10] st M ↔ uX8_drinks R 34 [x0, some (.inl a), x2, x3, x4, x5, x6, x7, x8, x9, x10] (.inl a :: st) M := zU_step dX8_drinks_33 (Or.inl rfl)
theorem dX8_drinks_34 : decode cX8_drinks 34 = .ok (.iaload, 1) := by decide +kernel
theorem rX8_drinks_34 {R : zP} {x0 x1 x2 x3 x4 x5 x6 x7 x8 x9 x10 : Option zV} {st : List zV} {M : zM} {i : Int} {r : Nat} : uX8_drinks R 34 [x0, x1, x2, x3, x4, x5, x6, x7, x8, x9, x10] (.inl i :: .inr (.inr r) :: st) M ↔ zread fX8 0 r M i (fun v => uX8_drinks R 35 [x0, x1, x2, x3, x4, x5, x6, x7, x8, x9, x10] (.inl v :: st) M) := zU_step dX8_drinks_34 (Or.inl rfl)
theorem dX8_drinks_35 : decode cX8_drinks 35 = .ok (.iconst 1, 1) := by decide +kernel
theorem rX8_drinks_35 {R : zP} {x0 x1 x2 x3 x4 x5 x6 x7 x8 x9 x10 : Option zV} {st : List zV} {M : zM} : uX8_drinks R 35 [x0, x1, x2, x3, x4, x5, x6, x7, x8, x9, x10] st M ↔ uX8_drinks R 36 [x0, x1, x2, x3, x4, x5, x6, x7, x8, x9, x10] (.inl (1) :: st) M := zU_step dX8_drinks_35 (Or.inl rfl)
theorem dX8_drinks_36 : decode cX8_drinks 36 = .ok (.if_icmp .ne 7, 3) := by decide +kernel
theorem rX8_drinks_36 {R : zP} {x0 x1 x2 x3 x4 x5 x6 x7 x8 x9 x10 : Option zV} {st : List zV} {M : zM} {a b : Int} : uX8_drinks R 36 [x0, x1, x2, x3, x4, x5, x6, x7, x8, x9, x10] (.inl b :: .inl a :: st) M ↔ ((zIR a ∧ zIR b) ∧ if a ≠ b then uX8_drinks R 43 [x0, x1, x2, x3, x4, x5, x6, x7, x8, x9, x10] st M else uX8_drinks R 39 [x0, x1, x2, x3, x4, x5, x6, x7, x8, x9, x10] st M) := Iff.trans (zU_step dX8_drinks_36 (Or.inl rfl)) ⟨fun h => ⟨⟨h.1.1, h.1.2.1⟩, (zite (c := a ≠ b)).mpr h.2⟩, fun h => ⟨⟨h.1.1, h.1.2, by decide⟩, (zite (c := a ≠ b)).mp h.2⟩⟩
theorem dX8_drinks_39 : decode cX8_drinks 39 = .ok (.iconst 2, 1) := by decide +kernel
theorem rX8_drinks_39 {R : zP} {x0 x1 x2 x3 x4 x5 x6 x7 x8 x9 x10 : Option zV} {st : List zV} {M : zM} : uX8_drinks R 39 [x0, x1, x2, x3, x4, x5, x6, x7, x8, x9, x10] st M ↔ uX8_drinks R 40 [x0, x1, x2, x3, x4, x5, x6, x7, x8, x9, x10] (.inl (2) :: st) M := zU_step dX8_drinks_39 (Or.inl rfl)
theorem dX8_drinks_40 : decode cX8_drinks 40 = .ok (.goto 4, 3) := by decide +kernel
theorem rX8_drinks_40 {R : zP} {x0 x1 x2 x3 x4 x5 x6 x7 x8 x9 x10 : Option zV} {st : List zV} {M : zM} : uX8_drinks R 40 [x0, x1, x2, x3, x4, x5, x6, x7, x8, x9, x10] st M ↔ uX8_drinks R 44 [x0, x1, x2, x3, x4, x5, x6, x7, x8, x9, x10] st M := Iff.trans (zU_step dX8_drinks_40 (Or.inl rfl)) ⟨fun h => h.2, fun h => ⟨by decide, h⟩⟩
theorem dX8_drinks_43 : decode cX8_drinks 43 = .ok (.iconst 0, 1) := by decide +kernel
theorem rX8_drinks_43 {R : zP} {x0 x1 x2 x3 x4 x5 x6 x7 x8 x9 x10 : Option zV} {st : List zV} {M : zM} : uX8_drinks R 43 [x0, x1, x2, x3, x4, x5, x6, x7, x8, x9, x10] st M ↔ uX8_drinks R 44 [x0, x1, x2, x3, x4, x5, x6, x7, x8, x9, x10] (.inl (0) :: st) M := zU_step dX8_drinks_43 (Or.inl rfl)
theorem dX8_drinks_44 : decode cX8_drinks 44 = .ok (.istore 4, 2) := by decide +kernel
theorem rX8_drinks_44 {R : zP} {x0 x1 x2 x4 x5 x6 x7 x8 x9 x10 : Option zV} {st : List zV} {M : zM} {a : Int} {y : Int} : uX8_drinks R 44 [x0, x1, x2, some (.inl y), x4, x5, x6, x7, x8, x9, x10] (.inl a :: st) M ↔ uX8_drinks R 46 [x0, x1, x2, some (.inl y), some (.inl a), x5, x6, x7, x8, x9, x10] st M := Iff.trans (zU_step dX8_drinks_44 (Or.inl rfl)) ⟨fun h => h.2, fun h => ⟨show 4 < 11 by decide, h⟩⟩
theorem rX8_drinks_44z {R : zP} {x0 x1 x2 x3 x4 x5 x6 x7 x8 x9 x10 : Option zV} {st : List zV} {M : zM} {a : Int} : uX8_drinks R 44 [x0, x1, x2, x3, x4, x5, x6, x7, x8, x9, x10] (.inl a :: st) M ↔ uX8_drinks R 46 [x0, x1, x2, zkeep x3, some (.inl a), x5, x6, x7, x8, x9, x10] st M := Iff.trans (zU_step dX8_drinks_44 (Or.inl rfl)) ⟨fun h => h.2, fun h => ⟨show 4 < 11 by decide, h⟩⟩
theorem dX8_drinks_46 : decode cX8_drinks 46 = .ok (.iconst 0, 1) := by decide +kernel
theorem rX8_drinks_46 {R : zP} {x0 x1 x2 x3 x4 x5 x6 x7 x8 x9 x10 : Option zV} {st : List zV} {M : zM} : uX8_drinks R 46 [x0, x1, x2, x3, x4, x5, x6, x7, x8, x9, x10] st M ↔ uX8_drinks R 47 [x0, x1, x2, x3, x4, x5, x6, x7, x8, x9, x10] (.inl (0) :: st) M := zU_step dX8_drinks_46 (Or.inl rfl)
theorem dX8_drinks_47 : decode cX8_drinks 47 = .ok (.istore 5, 2) := by decide +kernel
theorem rX8_drinks_47 {R : zP} {x0 x1 x2 x3 x5 x6 x7 x8 x9 x10 : Option zV} {st : List zV} {M : zM} {a : Int} {y : Int} : uX8_drinks R 47 [x0, x1, x2, x3, some (.inl y), x5, x6, x7, x8, x9, x10] (.inl a :: st) M ↔ uX8_drinks R 49 [x0, x1, x2, x3, some (.inl y), some (.inl a), x6, x7, x8, x9, x10] st M := Iff.trans (zU_step dX8_drinks_47 (Or.inl rfl)) ⟨fun h => h.2, fun h => ⟨show 5 < 11 by decide, h⟩⟩
theorem rX8_drinks_47z {R : zP} {x0 x1 x2 x3 x4 x5 x6 x7 x8 x9 x10 : Option zV} {st : List zV} {M : zM} {a : Int} : uX8_drinks R 47 [x0, x1, x2, x3, x4, x5, x6, x7, x8, x9, x10] (.inl a :: st) M ↔ uX8_drinks R 49 [x0, x1, x2, x3, zkeep x4, some (.inl a), x6, x7, x8, x9, x10] st M := Iff.trans (zU_step dX8_drinks_47 (Or.inl rfl)) ⟨fun h => h.2, fun h => ⟨show 5 < 11 by decide, h⟩⟩
theorem dX8_drinks_49 : decode cX8_drinks 49 = .ok (.iconst 0, 1) := by decide +kernel
theorem rX8_drinks_49 {R : zP} {x0 x1 x2 x3 x4 x5 x6 x7 x8 x9 x10 : Option zV} {st : List zV} {M : zM} : uX8_drinks R 49 [x0, x1, x2, x3, x4, x5, x6, x7, x8, x9, x10] st M ↔ uX8_drinks R 50 [x0, x1, x2, x3, x4, x5, x6, x7, x8, x9, x10] (.inl (0) :: st) M := zU_step dX8_drinks_49 (Or.inl rfl)
theorem dX8_drinks_50 : decode cX8_drinks 50 = .ok (.istore 6, 2) := by decide +kernel
theorem rX8_drinks_50 {R : zP} {x0 x1 x2 x3 x4 x6 x7 x8 x9 x10 : Option zV} {st : List zV} {M : zM} {a : Int} {y : Int} : uX8_drinks R 50 [x0, x1, x2, x3, x4, some (.inl y), x6, x7, x8, x9, x10] (.inl a :: st) M ↔ uX8_drinks R 52 [x0, x1, x2, x3, x4, some (.inl y), some (.inl a), x7, x8, x9, x10] st M := Iff.trans (zU_step dX8_drinks_50 (Or.inl rfl)) ⟨fun h => h.2, fun h => ⟨show 6 < 11 by decide, h⟩⟩
theorem rX8_drinks_50z {R : zP} {x0 x1 x2 x3 x4 x5 x6 x7 x8 x9 x10 : Option zV} {st : List zV} {M : zM} {a : Int} : uX8_drinks R 50 [x0, x1, x2, x3, x4, x5, x6, x7, x8, x9, x10] (.inl a :: st) M ↔ uX8_drinks R 52 [x0, x1, x2, x3, x4, zkeep x5, some (.inl a), x7, x8, x9, x10] st M := Iff.trans (zU_step dX8_drinks_50 (Or.inl rfl)) ⟨fun h => h.2, fun h => ⟨show 6 < 11 by decide, h⟩⟩
theorem dX8_drinks_52 : decode cX8_drinks 52 = .ok (.iload 6, 2) := by decide +kernel
theorem rX8_drinks_52 {R : zP} {x0 x1 x2 x3 x4 x5 x7 x8 x9 x10 : Option zV} {st : List zV} {M : zM} {a : Int} : uX8_drinks R 52 [x0, x1, x2, x3, x4, x5, some (.inl a), x7, x8, x9, x10] st M ↔ uX8_drinks R 54 [x0, x1, x2, x3, x4, x5, some (.inl a), x7, x8, x9, x10] (.inl a :: st) M := zU_step dX8_drinks_52 (Or.inl rfl)
theorem dX8_drinks_54 : decode cX8_drinks 54 = .ok (.iconst 4, 1) := by decide +kernel
theorem rX8_drinks_54 {R : zP} {x0 x1 x2 x3 x4 x5 x6 x7 x8 x9 x10 : Option zV} {st : List zV} {M : zM} : uX8_drinks R 54 [x0, x1, x2, x3, x4, x5, x6, x7, x8, x9, x10] st M ↔ uX8_drinks R 55 [x0, x1, x2, x3, x4, x5, x6, x7, x8, x9, x10] (.inl (4) :: st) M := zU_step dX8_drinks_54 (Or.inl rfl)
theorem dX8_drinks_55 : decode cX8_drinks 55 = .ok (.if_icmp .ge 164, 3) := by decide +kernel
theorem rX8_drinks_55 {R : zP} {x0 x1 x2 x3 x4 x5 x6 x7 x8 x9 x10 : Option zV} {st : List zV} {M : zM} {a b : Int} : uX8_drinks R 55 [x0, x1, x2, x3, x4, x5, x6, x7, x8, x9, x10] (.inl b :: .inl a :: st) M ↔ ((zIR a ∧ zIR b) ∧ if b ≤ a then uX8_drinks R 219 [x0, x1, x2, x3, x4, x5, x6, x7, x8, x9, x10] st M else uX8_drinks R 58 [x0, x1, x2, x3, x4, x5, x6, x7, x8, x9, x10] st M) := Iff.trans (zU_step dX8_drinks_55 (Or.inl rfl)) ⟨fun h => ⟨⟨h.1.1, h.1.2.1⟩, (zite (c := b ≤ a)).mpr h.2⟩, fun h => ⟨⟨h.1.1, h.1.2, by decide⟩, (zite (c := b ≤ a)).mp h.2⟩⟩
theorem dX8_drinks_58 : decode cX8_drinks 58 = .ok (.iconst 4, 1) := by decide +kernel
theorem rX8_drinks_58 {R : zP} {x0 x1 x2 x3 x4 x5 x6 x7 x8 x9 x10 : Option zV} {st : List zV} {M : zM} : uX8_drinks R 58 [x0, x1, x2, x3, x4, x5, x6, x7, x8, x9, x10] st M ↔ uX8_drinks R 59 [x0, x1, x2, x3, x4, x5, x6, x7, x8, x9, x10] (.inl (4) :: st) M := zU_step dX8_drinks_58 (Or.inl rfl)
theorem dX8_drinks_59 : decode cX8_drinks 59 = .ok (.iload_n 1, 1) := by decide +kernel
theorem rX8_drinks_59 {R : zP} {x0 x2 x3 x4 x5 x6 x7 x8 x9 x10 : Option zV} {st : List zV} {M : zM} {a : Int} : uX8_drinks R 59 [x0, some (.inl a), x2, x3, x4, x5, x6, x7, x8, x9, x10] st M ↔ uX8_drinks R 60 [x0, some (.inl a), x2, x3, x4, x5, x6, x7, x8, x9, x10] (.inl a :: st) M := zU_step dX8_drinks_59 (Or.inl rfl)
theorem dX8_drinks_60 : decode cX8_drinks 60 = .ok (.imul, 1) := by decide +kernel
theorem rX8_drinks_60 {R : zP} {x0 x1 x2 x3 x4 x5 x6 x7 x8 x9 x10 : Option zV} {st : List zV} {M : zM} {a b : Int} : uX8_drinks R 60 [x0, x1, x2, x3, x4, x5, x6, x7, x8, x9, x10] (.inl b :: .inl a :: st) M ↔ uX8_drinks R 61 [x0, x1, x2, x3, x4, x5, x6, x7, x8, x9, x10] (.inl (a * b) :: st) M := zU_step dX8_drinks_60 (Or.inl rfl)
theorem dX8_drinks_61 : decode cX8_drinks 61 = .ok (.iload 6, 2) := by decide +kernel
theorem rX8_drinks_61 {R : zP} {x0 x1 x2 x3 x4 x5 x7 x8 x9 x10 : Option zV} {st : List zV} {M : zM} {a : Int} : uX8_drinks R 61 [x0, x1, x2, x3, x4, x5, some (.inl a), x7, x8, x9, x10] st M ↔ uX8_drinks R 63 [x0, x1, x2, x3, x4, x5, some (.inl a), x7, x8, x9, x10] (.inl a :: st) M := zU_step dX8_drinks_61 (Or.inl rfl)
theorem dX8_drinks_63 : decode cX8_drinks 63 = .ok (.iadd, 1) := by decide +kernel
theorem rX8_drinks_63 {R : zP} {x0 x1 x2 x3 x4 x5 x6 x7 x8 x9 x10 : Option zV} {st : List zV} {M : zM} {a b : Int} : uX8_drinks R 63 [x0, x1, x2, x3, x4, x5, x6, x7, x8, x9, x10] (.inl b :: .inl a :: st) M ↔ uX8_drinks R 64 [x0, x1, x2, x3, x4, x5, x6, x7, x8, x9, x10] (.inl (a + b) :: st) M := zU_step dX8_drinks_63 (Or.inl rfl)
theorem dX8_drinks_64 : decode cX8_drinks 64 = .ok (.istore 7, 2) := by decide +kernel
theorem rX8_drinks_64 {R : zP} {x0 x1 x2 x3 x4 x5 x7 x8 x9 x10 : Option zV} {st : List zV} {M : zM} {a : Int} {y : Int} : uX8_drinks R 64 [x0, x1, x2, x3, x4, x5, some (.inl y), x7, x8, x9, x10] (.inl a :: st) M ↔ uX8_drinks R 66 [x0, x1, x2, x3, x4, x5, some (.inl y), some (.inl a), x8, x9, x10] st M := Iff.trans (zU_step dX8_drinks_64 (Or.inl rfl)) ⟨fun h => h.2, fun h => ⟨show 7 < 11 by decide, h⟩⟩
theorem rX8_drinks_64z {R : zP} {x0 x1 x2 x3 x4 x5 x6 x7 x8 x9 x10 : Option zV} {st : List zV} {M : zM} {a : Int} : uX8_drinks R 64 [x0, x1, x2, x3, x4, x5, x6, x7, x8, x9, x10] (.inl a :: st) M ↔ uX8_drinks R 66 [x0, x1, x2, x3, x4, x5, zkeep x6, some (.inl a), x8, x9, x10] st M := Iff.trans (zU_step dX8_drinks_64 (Or.inl rfl)) ⟨fun h => h.2, fun h => ⟨show 7 < 11 by decide, h⟩⟩
theorem dX8_drinks_66 : decode cX8_drinks 66 = .ok (.aload_n 0, 1) := by decide +kernel
theorem rX8_drinks_66 {R : zP} {x1 x2 x3 x4 x5 x6 x7 x8 x9 x10 : Option zV} {st : List zV} {M : zM} {a : Nat} : uX8_drinks R 66 [some (.inr (.inr a)), x1, x2, x3, x4, x5, x6, x7, x8, x9, x10] st M ↔ uX8_drinks R 67 [some (.inr (.inr a)), x1, x2, x3, x4, x5, x6, x7, x8, x9, x10] (.inr (.inr a) :: st) M := zU_step dX8_drinks_66 (Or.inl rfl)
theorem dX8_drinks_67 : decode cX8_drinks 67 = .ok (.getfield 25, 3) := by decide +kernel
theorem rX8_drinks_67 {R : zP} {x0 x1 x2 x3 x4 x5 x6 x7 x8 x9 x10 : Option zV} {st : List zV} {M : zM} {r : Nat} : uX8_drinks R 67 [x0, x1, x2, x3, x4, x5, x6, x7, x8, x9, x10] (.inr (.inr r) :: st) M ↔ zgetx fX8 25 r M (fun v => uX8_drinks R 70 [x0, x1, x2, x3, x4, x5, x6, x7, x8, x9, x10] (v :: st) M) := zU_step dX8_drinks_67 (Or.inl rfl)
theorem dX8_drinks_70 : decode cX8_drinks 70 = .ok (.iconst 4, 1) := by decide +kernel
theorem rX8_drinks_70 {R : zP} {x0 x1 x2 x3 x4 x5 x6 x7 x8 x9 x10 : Option zV} {st : List zV} {M : zM} : uX8_drinks R 70 [x0, x1, x2, x3, x4, x5, x6, x7, x8, x9, x10] st M ↔ uX8_drinks R 71 [x0, x1, x2, x3, x4, x5, x6, x7, x8, x9, x10] (.inl (4) :: st) M := zU_step dX8_drinks_70 (Or.inl rfl)
theorem dX8_drinks_71 : decode cX8_drinks 71 = .ok (.iload_n 2, 1) := by decide +kernel
theorem rX8_drinks_71 {R : zP} {x0 x1 x3 x4 x5 x6 x7 x8 x9 x10 : Option zV} {st : List zV} {M : zM} {a : Int} : uX8_drinks R 71 [x0, x1, some (.inl a), x3, x4, x5, x6, x7, x8, x9, x10] st M ↔ uX8_drinks R 72 [x0, x1, some (.inl a), x3, x4, x5, x6, x7, x8, x9, x10] (.inl a :: st) M := zU_step dX8_drinks_71 (Or.inl rfl)
theorem dX8_drinks_72 : decode cX8_drinks 72 = .ok (.imul, 1) := by decide +kernel
theorem rX8_drinks_72 {R : zP} {x0 x1 x2 x3 x4 x5 x6 x7 x8 x9 x10 : Option zV} {st : List zV} {M : zM} {a b : Int} : uX8_drinks R 72 [x0, x1, x2, x3, x4, x5, x6, x7, x8, x9, x10] (.inl b :: .inl a :: st) M ↔ uX8_drinks R 73 [x0, x1, x2, x3, x4, x5, x6, x7, x8, x9, x10] (.inl (a * b) :: st) M := zU_step dX8_drinks_72 (Or.inl rfl)
theorem dX8_drinks_73 : decode cX8_drinks 73 = .ok (.iload 6, 2) := by decide +kernel
theorem rX8_drinks_73 {R : zP} {x0 x1 x2 x3 x4 x5 x7 x8 x9 x10 : Option zV} {st : List zV} {M : zM} {a : Int} : uX8_drinks R 73 [x0, x1, x2, x3, x4, x5, some (.inl a), x7, x8, x9, x10] st M ↔ uX8_drinks R 75 [x0, x1, x2, x3, x4, x5, some (.inl a), x7, x8, x9, x10] (.inl a :: st) M := zU_step dX8_drinks_73 (Or.inl rfl)
theorem dX8_drinks_75 : decode cX8_drinks 75 = .ok (.iadd, 1) := by decide +kernel
theorem rX8_drinks_75 {R : zP} {x0 x1 x2 x3 x4 x5 x6 x7 x8 x9 x10 : Option zV} {st : List zV} {M : zM} {a b : Int} : uX8_drinks R 75 [x0, x1, x2, x3, x4, x5, x6, x7, x8, x9, x10] (.inl b :: .inl a :: st) M ↔ uX8_drinks R 76 [x0, x1, x2, x3, x4, x5, x6, x7, x8, x9, x10] (.inl (a + b) :: st) M := zU_step dX8_drinks_75 (Or.inl rfl)
theorem dX8_drinks_76 : decode cX8_drinks 76 = .ok (.iaload, 1) := by decide +kernel
theorem rX8_drinks_76 {R : zP} {x0 x1 x2 x3 x4 x5 x6 x7 x8 x9 x10 : Option zV} {st : List zV} {M : zM} {i : Int} {r : Nat} : uX8_drinks R 76 [x0, x1, x2, x3, x4, x5, x6, x7, x8, x9, x10] (.inl i :: .inr (.inr r) :: st) M ↔ zread fX8 0 r M i (fun v => uX8_drinks R 77 [x0, x1, x2, x3, x4, x5, x6, x7, x8, x9, x10] (.inl v :: st) M) := zU_step dX8_drinks_76 (Or.inl rfl)
theorem dX8_drinks_77 : decode cX8_drinks 77 = .ok (.istore 8, 2) := by decide +kernel
theorem rX8_drinks_77 {R : zP} {x0 x1 x2 x3 x4 x5 x6 x8 x9 x10 : Option zV} {st : List zV} {M : zM} {a : Int} {y : Int} : uX8_drinks R 77 [x0, x1, x2, x3, x4, x5, x6, some (.inl y), x8, x9, x10] (.inl a :: st) M ↔ uX8_drinks R 79 [x0, x1, x2, x3, x4, x5, x6, some (.inl y), some (.inl a), x9, x10] st M := Iff.trans (zU_step dX8_drinks_77 (Or.inl rfl)) ⟨fun h => h.2, fun h => ⟨show 8 < 11 by decide, h⟩⟩
theorem rX8_drinks_77z {R : zP} {x0 x1 x2 x3 x4 x5 x6 x7 x8 x9 x10 : Option zV} {st : List zV} {M : zM} {a : Int} : uX8_drinks R 77 [x0, x1, x2, x3, x4, x5, x6, x7, x8, x9, x10] (.inl a :: st) M ↔ uX8_drinks R 79 [x0, x1, x2, x3, x4, x5, x6, zkeep x7, some (.inl a), x9, x10] st M := Iff.trans (zU_step dX8_drinks_77 (Or.inl rfl)) ⟨fun h => h.2, fun h => ⟨show 8 < 11 by decide, h⟩⟩
theorem dX8_drinks_79 : decode cX8_drinks 79 = .ok (.iload 8, 2) := by decide +kernel
theorem rX8_drinks_79 {R : zP} {x0 x1 x2 x3 x4 x5 x6 x7 x9 x10 : Option zV} {st : List zV} {M : zM} {a : Int} : uX8_drinks R 79 [x0, x1, x2, x3, x4, x5, x6, x7, some (.inl a), x9, x10] st M ↔ uX8_drinks R 81 [x0, x1, x2, x3, x4, x5, x6, x7, some (.inl a), x9, x10] (.inl a :: st) M := zU_step dX8_drinks_79 (Or.inl rfl)
theorem dX8_drinks_81 : decode cX8_drinks 81 = .ok (.aload_n 0, 1) := by decide +kernel
theorem rX8_drinks_81 {R : zP} {x1 x2 x3 x4 x5 x6 x7 x8 x9 x10 : Option zV} {st : List zV} {M : zM} {a : Nat} : uX8_drinks R 81 [some (.inr (.inr a)), x1, x2, x3, x4, x5, x6, x7, x8, x9, x10] st M ↔ uX8_drinks R 82 [some (.inr (.inr a)), x1, x2, x3, x4, x5, x6, x7, x8, x9, x10] (.inr (.inr a) :: st) M := zU_step dX8_drinks_81 (Or.inl rfl)
theorem dX8_drinks_82 : decode cX8_drinks 82 = .ok (.getfield 46, 3) := by decide +kernel
theorem rX8_drinks_82 {R : zP} {x0 x1 x2 x3 x4 x5 x6 x7 x8 x9 x10 : Option zV} {st : List zV} {M : zM} {r : Nat} : uX8_drinks R 82 [x0, x1, x2, x3, x4, x5, x6, x7, x8, x9, x10] (.inr (.inr r) :: st) M ↔ zgetx fX8 46 r M (fun v => uX8_drinks R 85 [x0, x1, x2, x3, x4, x5, x6, x7, x8, x9, x10] (v :: st) M) := zU_step dX8_drinks_82 (Or.inl rfl)
theorem dX8_drinks_85 : decode cX8_drinks 85 = .ok (.iload 7, 2) := by decide +kernel
theorem rX8_drinks_85 {R : zP} {x0 x1 x2 x3 x4 x5 x6 x8 x9 x10 : Option zV} {st : List zV} {M : zM} {a : Int} : uX8_drinks R 85 [x0, x1, x2, x3, x4, x5, x6, some (.inl a), x8, x9, x10] st M ↔ uX8_drinks R 87 [x0, x1, x2, x3, x4, x5, x6, some (.inl a), x8, x9, x10] (.inl a :: st) M := zU_step dX8_drinks_85 (Or.inl rfl)
theorem dX8_drinks_87 : decode cX8_drinks 87 = .ok (.iaload, 1) := by decide +kernel
theorem rX8_drinks_87 {R : zP} {x0 x1 x2 x3 x4 x5 x6 x7 x8 x9 x10 : Option zV} {st : List zV} {M : zM} {i : Int} {r : Nat} : uX8_drinks R 87 [x0, x1, x2, x3, x4, x5, x6, x7, x8, x9, x10] (.inl i :: .inr (.inr r) :: st) M ↔ zread fX8 0 r M i (fun v => uX8_drinks R 88 [x0, x1, x2, x3, x4, x5, x6, x7, x8, x9, x10] (.inl v :: st) M) := zU_step dX8_drinks_87 (Or.inl rfl)
theorem dX8_drinks_88 : decode cX8_drinks 88 = .ok (.invokestatic 184, 3) := by decide +kernel
theorem rX8_drinks_88 {R : zP} {x0 x1 x2 x3 x4 x5 x6 x7 x8 x9 x10 : Option zV} {st : List zV} {M : zM} {a0 a1 : zV} : uX8_drinks R 88 [x0, x1, x2, x3, x4, x5, x6, x7, x8, x9, x10] (a1 :: a0 :: st) M ↔ (st.length ≤ 4 ∧ zcv tX8_far [a0, a1] M (fun v M => uX8_drinks R 91 [x0, x1, x2, x3, x4, x5, x6, x7, x8, x9, x10] (v :: st) M)) := Iff.trans (zU_step dX8_drinks_88 (Or.inl rfl)) ⟨fun h => ⟨h.2.1, zcv_of h.2.2⟩, fun h => ⟨rfl, h.1, zcv_to h.2⟩⟩
theorem dX8_drinks_91 : decode cX8_drinks 91 = .ok (.istore 9, 2) := by decide +kernel
theorem rX8_drinks_91 {R : zP} {x0 x1 x2 x3 x4 x5 x6 x7 x9 x10 : Option zV} {st : List zV} {M : zM} {a : Int} {y : Int} : uX8_drinks R 91 [x0, x1, x2, x3, x4, x5, x6, x7, some (.inl y), x9, x10] (.inl a :: st) M ↔ uX8_drinks R 93 [x0, x1, x2, x3, x4, x5, x6, x7, some (.inl y), some (.inl a), x10] st M := Iff.trans (zU_step dX8_drinks_91 (Or.inl rfl)) ⟨fun h => h.2, fun h => ⟨show 9 < 11 by decide, h⟩⟩
theorem rX8_drinks_91z {R : zP} {x0 x1 x2 x3 x4 x5 x6 x7 x8 x9 x10 : Option zV} {st : List zV} {M : zM} {a : Int} : uX8_drinks R 91 [x0, x1, x2, x3, x4, x5, x6, x7, x8, x9, x10] (.inl a :: st) M ↔ uX8_drinks R 93 [x0, x1, x2, x3, x4, x5, x6, x7, zkeep x8, some (.inl a), x10] st M := Iff.trans (zU_step dX8_drinks_91 (Or.inl rfl)) ⟨fun h => h.2, fun h => ⟨show 9 < 11 by decide, h⟩⟩
theorem dX8_drinks_93 : decode cX8_drinks 93 = .ok (.iload 9, 2) := by decide +kernel
theorem rX8_drinks_93 {R : zP} {x0 x1 x2 x3 x4 x5 x6 x7 x8 x10 : Option zV} {st : List zV} {M : zM} {a : Int} : uX8_drinks R 93 [x0, x1, x2, x3, x4, x5, x6, x7, x8, some (.inl a), x10] st M ↔ uX8_drinks R 95 [x0, x1, x2, x3, x4, x5, x6, x7, x8, some (.inl a), x10] (.inl a :: st) M := zU_step dX8_drinks_93 (Or.inl rfl)
theorem dX8_drinks_95 : decode cX8_drinks 95 = .ok (.iload_n 3, 1) := by decide +kernel
theorem rX8_drinks_95 {R : zP} {x0 x1 x2 x4 x5 x6 x7 x8 x9 x10 : Option zV} {st : List zV} {M : zM} {a : Int} : uX8_drinks R 95 [x0, x1, x2, some (.inl a), x4, x5, x6, x7, x8, x9, x10] st M ↔ uX8_drinks R 96 [x0, x1, x2, some (.inl a), x4, x5, x6, x7, x8, x9, x10] (.inl a :: st) M := zU_step dX8_drinks_95 (Or.inl rfl)
theorem dX8_drinks_96 : decode cX8_drinks 96 = .ok (.if_icmp .gt 114, 3) := by decide +kernel
theorem rX8_drinks_96 {R : zP} {x0 x1 x2 x3 x4 x5 x6 x7 x8 x9 x10 : Option zV} {st : List zV} {M : zM} {a b : Int} : uX8_drinks R 96 [x0, x1, x2, x3, x4, x5, x6, x7, x8, x9, x10] (.inl b :: .inl a :: st) M ↔ ((zIR a ∧ zIR b) ∧ if b < a then uX8_drinks R 210 [x0, x1, x2, x3, x4, x5, x6, x7, x8, x9, x10] st M else uX8_drinks R 99 [x0, x1, x2, x3, x4, x5, x6, x7, x8, x9, x10] st M) := Iff.trans (zU_step dX8_drinks_96 (Or.inl rfl)) ⟨fun h => ⟨⟨h.1.1, h.1.2.1⟩, (zite (c := b < a)).mpr h.2⟩, fun h => ⟨⟨h.1.1, h.1.2, by decide⟩, (zite (c := b < a)).mp h.2⟩⟩
theorem dX8_drinks_99 : decode cX8_drinks 99 = .ok (.iload 9, 2) := by decide +kernel
theorem rX8_drinks_99 {R : zP} {x0 x1 x2 x3 x4 x5 x6 x7 x8 x10 : Option zV} {st : List zV} {M : zM} {a : Int} : uX8_drinks R 99 [x0, x1, x2, x3, x4, x5, x6, x7, x8, some (.inl a), x10] st M ↔ uX8_drinks R 101 [x0, x1, x2, x3, x4, x5, x6, x7, x8, some (.inl a), x10] (.inl a :: st) M := zU_step dX8_drinks_99 (Or.inl rfl)
theorem dX8_drinks_101 : decode cX8_drinks 101 = .ok (.iload 4, 2) := by decide +kernel
theorem rX8_drinks_101 {R : zP} {x0 x1 x2 x3 x5 x6 x7 x8 x9 x10 : Option zV} {st : List zV} {M : zM} {a : Int} : uX8_drinks R 101 [x0, x1, x2, x3, some (.inl a), x5, x6, x7, x8, x9, x10] st M ↔ uX8_drinks R 103 [x0, x1, x2, x3, some (.inl a), x5, x6, x7, x8, x9, x10] (.inl a :: st) M := zU_step dX8_drinks_101 (Or.inl rfl)
theorem dX8_drinks_103 : decode cX8_drinks 103 = .ok (.if_icmp .ge 8, 3) := by decide +kernel
theorem rX8_drinks_103 {R : zP} {x0 x1 x2 x3 x4 x5 x6 x7 x8 x9 x10 : Option zV} {st : List zV} {M : zM} {a b : Int} : uX8_drinks R 103 [x0, x1, x2, x3, x4, x5, x6, x7, x8, x9, x10] (.inl b :: .inl a :: st) M ↔ ((zIR a ∧ zIR b) ∧ if b ≤ a then uX8_drinks R 111 [x0, x1, x2, x3, x4, x5, x6, x7, x8, x9, x10] st M else uX8_drinks R 106 [x0, x1, x2, x3, x4, x5, x6, x7, x8, x9, x10] st M) := Iff.trans (zU_step dX8_drinks_103 (Or.inl rfl)) ⟨fun h => ⟨⟨h.1.1, h.1.2.1⟩, (zite (c := b ≤ a)).mpr h.2⟩, fun h => ⟨⟨h.1.1, h.1.2, by decide⟩, (zite (c := b ≤ a)).mp h.2⟩⟩
theorem dX8_drinks_106 : decode cX8_drinks 106 = .ok (.iload 9, 2) := by decide +kernel
theorem rX8_drinks_106 {R : zP} {x0 x1 x2 x3 x4 x5 x6 x7 x8 x10 : Option zV} {st : List zV} {M : zM} {a : Int} : uX8_drinks R 106 [x0, x1, x2, x3, x4, x5, x6, x7, x8, some (.inl a), x10] st M ↔ uX8_drinks R 108 [x0, x1, x2, x3, x4, x5, x6, x7, x8, some (.inl a), x10] (.inl a :: st) M := zU_step dX8_drinks_106 (Or.inl rfl)
theorem dX8_drinks_108 : decode cX8_drinks 108 = .ok (.goto 5, 3) := by decide +kernel
theorem rX8_drinks_108 {R : zP} {x0 x1 x2 x3 x4 x5 x6 x7 x8 x9 x10 : Option zV} {st : List zV} {M : zM} : uX8_drinks R 108 [x0, x1, x2, x3, x4, x5, x6, x7, x8, x9, x10] st M ↔ uX8_drinks R 113 [x0, x1, x2, x3, x4, x5, x6, x7, x8, x9, x10] st M := Iff.trans (zU_step dX8_drinks_108 (Or.inl rfl)) ⟨fun h => h.2, fun h => ⟨by decide, h⟩⟩
theorem dX8_drinks_111 : decode cX8_drinks 111 = .ok (.iload 4, 2) := by decide +kernel
theorem rX8_drinks_111 {R : zP} {x0 x1 x2 x3 x5 x6 x7 x8 x9 x10 : Option zV} {st : List zV} {M : zM} {a : Int} : uX8_drinks R 111 [x0, x1, x2, x3, some (.inl a), x5, x6, x7, x8, x9, x10] st M ↔ uX8_drinks R 113 [x0, x1, x2, x3, some (.inl a), x5, x6, x7, x8, x9, x10] (.inl a :: st) M := zU_step dX8_drinks_111 (Or.inl rfl)
theorem dX8_drinks_113 : decode cX8_drinks 113 = .ok (.istore 10, 2) := by decide +kernel
theorem rX8_drinks_113 {R : zP} {x0 x1 x2 x3 x4 x5 x6 x7 x8 x10 : Option zV} {st : List zV} {M : zM} {a : Int} {y : Int} : uX8_drinks R 113 [x0, x1, x2, x3, x4, x5, x6, x7, x8, some (.inl y), x10] (.inl a :: st) M ↔ uX8_drinks R 115 [x0, x1, x2, x3, x4, x5, x6, x7, x8, some (.inl y), some (.inl a)] st M := Iff.trans (zU_step dX8_drinks_113 (Or.inl rfl)) ⟨fun h => h.2, fun h => ⟨show 10 < 11 by decide, h⟩⟩
theorem rX8_drinks_113z {R : zP} {x0 x1 x2 x3 x4 x5 x6 x7 x8 x9 x10 : Option zV} {st : List zV} {M : zM} {a : Int} : uX8_drinks R 113 [x0, x1, x2, x3, x4, x5, x6, x7, x8, x9, x10] (.inl a :: st) M ↔ uX8_drinks R 115 [x0, x1, x2, x3, x4, x5, x6, x7, x8, zkeep x9, some (.inl a)] st M := Iff.trans (zU_step dX8_drinks_113 (Or.inl rfl)) ⟨fun h => h.2, fun h => ⟨show 10 < 11 by decide, h⟩⟩
theorem dX8_drinks_115 : decode cX8_drinks 115 = .ok (.aload_n 0, 1) := by decide +kernel
theorem rX8_drinks_115 {R : zP} {x1 x2 x3 x4 x5 x6 x7 x8 x9 x10 : Option zV} {st : List zV} {M : zM} {a : Nat} : uX8_drinks R 115 [some (.inr (.inr a)), x1, x2, x3, x4, x5, x6, x7, x8, x9, x10] st M ↔ uX8_drinks R 116 [some (.inr (.inr a)), x1, x2, x3, x4, x5, x6, x7, x8, x9, x10] (.inr (.inr a) :: st) M := zU_step dX8_drinks_115 (Or.inl rfl)
theorem dX8_drinks_116 : decode cX8_drinks 116 = .ok (.getfield 49, 3) := by decide +kernel
theorem rX8_drinks_116 {R : zP} {x0 x1 x2 x3 x4 x5 x6 x7 x8 x9 x10 : Option zV} {st : List zV} {M : zM} {r : Nat} : uX8_drinks R 116 [x0, x1, x2, x3, x4, x5, x6, x7, x8, x9, x10] (.inr (.inr r) :: st) M ↔ zgetx fX8 49 r M (fun v => uX8_drinks R 119 [x0, x1, x2, x3, x4, x5, x6, x7, x8, x9, x10] (v :: st) M) := zU_step dX8_drinks_116 (Or.inl rfl)
theorem dX8_drinks_119 : decode cX8_drinks 119 = .ok (.iload 7, 2) := by decide +kernel
theorem rX8_drinks_119 {R : zP} {x0 x1 x2 x3 x4 x5 x6 x8 x9 x10 : Option zV} {st : List zV} {M : zM} {a : Int} : uX8_drinks R 119 [x0, x1, x2, x3, x4, x5, x6, some (.inl a), x8, x9, x10] st M ↔ uX8_drinks R 121 [x0, x1, x2, x3, x4, x5, x6, some (.inl a), x8, x9, x10] (.inl a :: st) M := zU_step dX8_drinks_119 (Or.inl rfl)
theorem dX8_drinks_121 : decode cX8_drinks 121 = .ok (.iload 8, 2) := by decide +kernel
theorem rX8_drinks_121 {R : zP} {x0 x1 x2 x3 x4 x5 x6 x7 x9 x10 : Option zV} {st : List zV} {M : zM} {a : Int} : uX8_drinks R 121 [x0, x1, x2, x3, x4, x5, x6, x7, some (.inl a), x9, x10] st M ↔ uX8_drinks R 123 [x0, x1, x2, x3, x4, x5, x6, x7, some (.inl a), x9, x10] (.inl a :: st) M := zU_step dX8_drinks_121 (Or.inl rfl)
theorem dX8_drinks_123 : decode cX8_drinks 123 = .ok (.aload_n 0, 1) := by decide +kernel
theorem rX8_drinks_123 {R : zP} {x1 x2 x3 x4 x5 x6 x7 x8 x9 x10 : Option zV} {st : List zV} {M : zM} {a : Nat} : uX8_drinks R 123 [some (.inr (.inr a)), x1, x2, x3, x4, x5, x6, x7, x8, x9, x10] st M ↔ uX8_drinks R 124 [some (.inr (.inr a)), x1, x2, x3, x4, x5, x6, x7, x8, x9, x10] (.inr (.inr a) :: st) M := zU_step dX8_drinks_123 (Or.inl rfl)
theorem dX8_drinks_124 : decode cX8_drinks 124 = .ok (.getfield 49, 3) := by decide +kernel
theorem rX8_drinks_124 {R : zP} {x0 x1 x2 x3 x4 x5 x6 x7 x8 x9 x10 : Option zV} {st : List zV} {M : zM} {r : Nat} : uX8_drinks R 124 [x0, x1, x2, x3, x4, x5, x6, x7, x8, x9, x10] (.inr (.inr r) :: st) M ↔ zgetx fX8 49 r M (fun v => uX8_drinks R 127 [x0, x1, x2, x3, x4, x5, x6, x7, x8, x9, x10] (v :: st) M) := zU_step dX8_drinks_124 (Or.inl rfl)
theorem dX8_drinks_127 : decode cX8_drinks 127 = .ok (.iload 7, 2) := by decide +kernel
theorem rX8_drinks_127 {R : zP} {x0 x1 x2 x3 x4 x5 x6 x8 x9 x10 : Option zV} {st : List zV} {M : zM} {a : Int} : uX8_drinks R 127 [x0, x1, x2, x3, x4, x5, x6, some (.inl a), x8, x9, x10] st M ↔ uX8_drinks R 129 [x0, x1, x2, x3, x4, x5, x6, some (.inl a), x8, x9, x10] (.inl a :: st) M := zU_step dX8_drinks_127 (Or.inl rfl)
theorem dX8_drinks_129 : decode cX8_drinks 129 = .ok (.iaload, 1) := by decide +kernel
theorem rX8_drinks_129 {R : zP} {x0 x1 x2 x3 x4 x5 x6 x7 x8 x9 x10 : Option zV} {st : List zV} {M : zM} {i : Int} {r : Nat} : uX8_drinks R 129 [x0, x1, x2, x3, x4, x5, x6, x7, x8, x9, x10] (.inl i :: .inr (.inr r) :: st) M ↔ zread fX8 0 r M i (fun v => uX8_drinks R 130 [x0, x1, x2, x3, x4, x5, x6, x7, x8, x9, x10] (.inl v :: st) M) := zU_step dX8_drinks_129 (Or.inl rfl)
theorem dX8_drinks_130 : decode cX8_drinks 130 = .ok (.if_icmp .ge 8, 3) := by decide +kernel
theorem rX8_drinks_130 {R : zP} {x0 x1 x2 x3 x4 x5 x6 x7 x8 x9 x10 : Option zV} {st : List zV} {M : zM} {a b : Int} : uX8_drinks R 130 [x0, x1, x2, x3, x4, x5, x6, x7, x8, x9, x10] (.inl b :: .inl a :: st) M ↔ ((zIR a ∧ zIR b) ∧ if b ≤ a then uX8_drinks R 138 [x0, x1, x2, x3, x4, x5, x6, x7, x8, x9, x10] st M else uX8_drinks R 133 [x0, x1, x2, x3, x4, x5, x6, x7, x8, x9, x10] st M) := Iff.trans (zU_step dX8_drinks_130 (Or.inl rfl)) ⟨fun h => ⟨⟨h.1.1, h.1.2.1⟩, (zite (c := b ≤ a)).mpr h.2⟩, fun h => ⟨⟨h.1.1, h.1.2, by decide⟩, (zite (c := b ≤ a)).mp h.2⟩⟩
theorem dX8_drinks_133 : decode cX8_drinks 133 = .ok (.iload 8, 2) := by decide +kernel
theorem rX8_drinks_133 {R : zP} {x0 x1 x2 x3 x4 x5 x6 x7 x9 x10 : Option zV} {st : List zV} {M : zM} {a : Int} : uX8_drinks R 133 [x0, x1, x2, x3, x4, x5, x6, x7, some (.inl a), x9, x10] st M ↔ uX8_drinks R 135 [x0, x1, x2, x3, x4, x5, x6, x7, some (.inl a), x9, x10] (.inl a :: st) M := zU_step dX8_drinks_133 (Or.inl rfl)
theorem dX8_drinks_135 : decode cX8_drinks 135 = .ok (.goto 10, 3) := by decide +kernel
theorem rX8_drinks_135 {R : zP} {x0 x1 x2 x3 x4 x5 x6 x7 x8 x9 x10 : Option zV} {st : List zV} {M : zM} : uX8_drinks R 135 [x0, x1, x2, x3, x4, x5, x6, x7, x8, x9, x10] st M ↔ uX8_drinks R 145 [x0, x1, x2, x3, x4, x5, x6, x7, x8, x9, x10] st M := Iff.trans (zU_step dX8_drinks_135 (Or.inl rfl)) ⟨fun h => h.2, fun h => ⟨by decide, h⟩⟩
theorem dX8_drinks_138 : decode cX8_drinks 138 = .ok (.aload_n 0, 1) := by decide +kernel
theorem rX8_drinks_138 {R : zP} {x1 x2 x3 x4 x5 x6 x7 x8 x9 x10 : Option zV} {st : List zV} {M : zM} {a : Nat} : uX8_drinks R 138 [some (.inr (.inr a)), x1, x2, x3, x4, x5, x6, x7, x8, x9, x10] st M ↔ uX8_drinks R 139 [some (.inr (.inr a)), x1, x2, x3, x4, x5, x6, x7, x8, x9, x10] (.inr (.inr a) :: st) M := zU_step dX8_drinks_138 (Or.inl rfl)
theorem dX8_drinks_139 : decode cX8_drinks 139 = .ok (.getfield 49, 3) := by decide +kernel
theorem rX8_drinks_139 {R : zP} {x0 x1 x2 x3 x4 x5 x6 x7 x8 x9 x10 : Option zV} {st : List zV} {M : zM} {r : Nat} : uX8_drinks R 139 [x0, x1, x2, x3, x4, x5, x6, x7, x8, x9, x10] (.inr (.inr r) :: st) M ↔ zgetx fX8 49 r M (fun v => uX8_drinks R 142 [x0, x1, x2, x3, x4, x5, x6, x7, x8, x9, x10] (v :: st) M) := zU_step dX8_drinks_139 (Or.inl rfl)
theorem dX8_drinks_142 : decode cX8_drinks 142 = .ok (.iload 7, 2) := by decide +kernel
theorem rX8_drinks_142 {R : zP} {x0 x1 x2 x3 x4 x5 x6 x8 x9 x10 : Option zV} {st : List zV} {M : zM} {a : Int} : uX8_drinks R 142 [x0, x1, x2, x3, x4, x5, x6, some (.inl a), x8, x9, x10] st M ↔ uX8_drinks R 144 [x0, x1, x2, x3, x4, x5, x6, some (.inl a), x8, x9, x10] (.inl a :: st) M := zU_step dX8_drinks_142 (Or.inl rfl)
theorem dX8_drinks_144 : decode cX8_drinks 144 = .ok (.iaload, 1) := by decide +kernel
theorem rX8_drinks_144 {R : zP} {x0 x1 x2 x3 x4 x5 x6 x7 x8 x9 x10 : Option zV} {st : List zV} {M : zM} {i : Int} {r : Nat} : uX8_drinks R 144 [x0, x1, x2, x3, x4, x5, x6, x7, x8, x9, x10] (.inl i :: .inr (.inr r) :: st) M ↔ zread fX8 0 r M i (fun v => uX8_drinks R 145 [x0, x1, x2, x3, x4, x5, x6, x7, x8, x9, x10] (.inl v :: st) M) := zU_step dX8_drinks_144 (Or.inl rfl)
theorem dX8_drinks_145 : decode cX8_drinks 145 = .ok (.iastore, 1) := by decide +kernel
theorem rX8_drinks_145 {R : zP} {x0 x1 x2 x3 x4 x5 x6 x7 x8 x9 x10 : Option zV} {st : List zV} {M : zM} {i v : Int} {r : Nat} : uX8_drinks R 145 [x0, x1, x2, x3, x4, x5, x6, x7, x8, x9, x10] (.inl v :: .inl i :: .inr (.inr r) :: st) M ↔ zwrite 0 r i (uX8_drinks R 146 [x0, x1, x2, x3, x4, x5, x6, x7, x8, x9, x10] st (zup M r i v)) := zU_step dX8_drinks_145 (Or.inl rfl)
theorem dX8_drinks_146 : decode cX8_drinks 146 = .ok (.aload_n 0, 1) := by decide +kernel
theorem rX8_drinks_146 {R : zP} {x1 x2 x3 x4 x5 x6 x7 x8 x9 x10 : Option zV} {st : List zV} {M : zM} {a : Nat} : uX8_drinks R 146 [some (.inr (.inr a)), x1, x2, x3, x4, x5, x6, x7, x8, x9, x10] st M ↔ uX8_drinks R 147 [some (.inr (.inr a)), x1, x2, x3, x4, x5, x6, x7, x8, x9, x10] (.inr (.inr a) :: st) M := zU_step dX8_drinks_146 (Or.inl rfl)
theorem dX8_drinks_147 : decode cX8_drinks 147 = .ok (.getfield 52, 3) := by decide +kernel
theorem rX8_drinks_147 {R : zP} {x0 x1 x2 x3 x4 x5 x6 x7 x8 x9 x10 : Option zV} {st : List zV} {M : zM} {r : Nat} : uX8_drinks R 147 [x0, x1, x2, x3, x4, x5, x6, x7, x8, x9, x10] (.inr (.inr r) :: st) M ↔ zgetx fX8 52 r M (fun v => uX8_drinks R 150 [x0, x1, x2, x3, x4, x5, x6, x7, x8, x9, x10] (v :: st) M) := zU_step dX8_drinks_147 (Or.inl rfl)
theorem dX8_drinks_150 : decode cX8_drinks 150 = .ok (.iload 7, 2) := by decide +kernel
theorem rX8_drinks_150 {R : zP} {x0 x1 x2 x3 x4 x5 x6 x8 x9 x10 : Option zV} {st : List zV} {M : zM} {a : Int} : uX8_drinks R 150 [x0, x1, x2, x3, x4, x5, x6, some (.inl a), x8, x9, x10] st M ↔ uX8_drinks R 152 [x0, x1, x2, x3, x4, x5, x6, some (.inl a), x8, x9, x10] (.inl a :: st) M := zU_step dX8_drinks_150 (Or.inl rfl)
theorem dX8_drinks_152 : decode cX8_drinks 152 = .ok (.iload 8, 2) := by decide +kernel
theorem rX8_drinks_152 {R : zP} {x0 x1 x2 x3 x4 x5 x6 x7 x9 x10 : Option zV} {st : List zV} {M : zM} {a : Int} : uX8_drinks R 152 [x0, x1, x2, x3, x4, x5, x6, x7, some (.inl a), x9, x10] st M ↔ uX8_drinks R 154 [x0, x1, x2, x3, x4, x5, x6, x7, some (.inl a), x9, x10] (.inl a :: st) M := zU_step dX8_drinks_152 (Or.inl rfl)
theorem dX8_drinks_154 : decode cX8_drinks 154 = .ok (.aload_n 0, 1) := by decide +kernel
theorem rX8_drinks_154 {R : zP} {x1 x2 x3 x4 x5 x6 x7 x8 x9 x10 : Option zV} {st : List zV} {M : zM} {a : Nat} : uX8_drinks R 154 [some (.inr (.inr a)), x1, x2, x3, x4, x5, x6, x7, x8, x9, x10] st M ↔ uX8_drinks R 155 [some (.inr (.inr a)), x1, x2, x3, x4, x5, x6, x7, x8, x9, x10] (.inr (.inr a) :: st) M := zU_step dX8_drinks_154 (Or.inl rfl)
theorem dX8_drinks_155 : decode cX8_drinks 155 = .ok (.getfield 52, 3) := by decide +kernel
theorem rX8_drinks_155 {R : zP} {x0 x1 x2 x3 x4 x5 x6 x7 x8 x9 x10 : Option zV} {st : List zV} {M : zM} {r : Nat} : uX8_drinks R 155 [x0, x1, x2, x3, x4, x5, x6, x7, x8, x9, x10] (.inr (.inr r) :: st) M ↔ zgetx fX8 52 r M (fun v => uX8_drinks R 158 [x0, x1, x2, x3, x4, x5, x6, x7, x8, x9, x10] (v :: st) M) := zU_step dX8_drinks_155 (Or.inl rfl)
theorem dX8_drinks_158 : decode cX8_drinks 158 = .ok (.iload 7, 2) := by decide +kernel
theorem rX8_drinks_158 {R : zP} {x0 x1 x2 x3 x4 x5 x6 x8 x9 x10 : Option zV} {st : List zV} {M : zM} {a : Int} : uX8_drinks R 158 [x0, x1, x2, x3, x4, x5, x6, some (.inl a), x8, x9, x10] st M ↔ uX8_drinks R 160 [x0, x1, x2, x3, x4, x5, x6, some (.inl a), x8, x9, x10] (.inl a :: st) M := zU_step dX8_drinks_158 (Or.inl rfl)
theorem dX8_drinks_160 : decode cX8_drinks 160 = .ok (.iaload, 1) := by decide +kernel
theorem rX8_drinks_160 {R : zP} {x0 x1 x2 x3 x4 x5 x6 x7 x8 x9 x10 : Option zV} {st : List zV} {M : zM} {i : Int} {r : Nat} : uX8_drinks R 160 [x0, x1, x2, x3, x4, x5, x6, x7, x8, x9, x10] (.inl i :: .inr (.inr r) :: st) M ↔ zread fX8 0 r M i (fun v => uX8_drinks R 161 [x0, x1, x2, x3, x4, x5, x6, x7, x8, x9, x10] (.inl v :: st) M) := zU_step dX8_drinks_160 (Or.inl rfl)
theorem dX8_drinks_161 : decode cX8_drinks 161 = .ok (.if_icmp .le 8, 3) := by decide +kernel
theorem rX8_drinks_161 {R : zP} {x0 x1 x2 x3 x4 x5 x6 x7 x8 x9 x10 : Option zV} {st : List zV} {M : zM} {a b : Int} : uX8_drinks R 161 [x0, x1, x2, x3, x4, x5, x6, x7, x8, x9, x10] (.inl b :: .inl a :: st) M ↔ ((zIR a ∧ zIR b) ∧ if a ≤ b then uX8_drinks R 169 [x0, x1, x2, x3, x4, x5, x6, x7, x8, x9, x10] st M else uX8_drinks R 164 [x0, x1, x2, x3, x4, x5, x6, x7, x8, x9, x10] st M) := Iff.trans (zU_step dX8_drinks_161 (Or.inl rfl)) ⟨fun h => ⟨⟨h.1.1, h.1.2.1⟩, (zite (c := a ≤ b)).mpr h.2⟩, fun h => ⟨⟨h.1.1, h.1.2, by decide⟩, (zite (c := a ≤ b)).mp h.2⟩⟩
theorem dX8_drinks_164 : decode cX8_drinks 164 = .ok (.iload 8, 2) := by decide +kernel
theorem rX8_drinks_164 {R : zP} {x0 x1 x2 x3 x4 x5 x6 x7 x9 x10 : Option zV} {st : List zV} {M : zM} {a : Int} : uX8_drinks R 164 [x0, x1, x2, x3, x4, x5, x6, x7, some (.inl a), x9, x10] st M ↔ uX8_drinks R 166 [x0, x1, x2, x3, x4, x5, x6, x7, some (.inl a), x9, x10] (.inl a :: st) M := zU_step dX8_drinks_164 (Or.inl rfl)
theorem dX8_drinks_166 : decode cX8_drinks 166 = .ok (.goto 10, 3) := by decide +kernel
theorem rX8_drinks_166 {R : zP} {x0 x1 x2 x3 x4 x5 x6 x7 x8 x9 x10 : Option zV} {st : List zV} {M : zM} : uX8_drinks R 166 [x0, x1, x2, x3, x4, x5, x6, x7, x8, x9, x10] st M ↔ uX8_drinks R 176 [x0, x1, x2, x3, x4, x5, x6, x7, x8, x9, x10] st M := Iff.trans (zU_step dX8_drinks_166 (Or.inl rfl)) ⟨fun h => h.2, fun h => ⟨by decide, h⟩⟩
theorem dX8_drinks_169 : decode cX8_drinks 169 = .ok (.aload_n 0, 1) := by decide +kernel
theorem rX8_drinks_169 {R : zP} {x1 x2 x3 x4 x5 x6 x7 x8 x9 x10 : Option zV} {st : List zV} {M : zM} {a : Nat} : uX8_drinks R 169 [some (.inr (.inr a)), x1, x2, x3, x4, x5, x6, x7, x8, x9, x10] st M ↔ uX8_drinks R 170 [some (.inr (.inr a)), x1, x2, x3, x4, x5, x6, x7, x8, x9, x10] (.inr (.inr a) :: st) M := zU_step dX8_drinks_169 (Or.inl rfl)
theorem dX8_drinks_170 : decode cX8_drinks 170 = .ok (.getfield 52, 3) := by decide +kernel
theorem rX8_drinks_170 {R : zP} {x0 x1 x2 x3 x4 x5 x6 x7 x8 x9 x10 : Option zV} {st : List zV} {M : zM} {r : Nat} : uX8_drinks R 170 [x0, x1, x2, x3, x4, x5, x6, x7, x8, x9, x10] (.inr (.inr r) :: st) M ↔ zgetx fX8 52 r M (fun v => uX8_drinks R 173 [x0, x1, x2, x3, x4, x5, x6, x7, x8, x9, x10] (v :: st) M) := zU_step dX8_drinks_170 (Or.inl rfl)
theorem dX8_drinks_173 : decode cX8_drinks 173 = .ok (.iload 7, 2) := by decide +kernel
theorem rX8_drinks_173 {R : zP} {x0 x1 x2 x3 x4 x5 x6 x8 x9 x10 : Option zV} {st : List zV} {M : zM} {a : Int} : uX8_drinks R 173 [x0, x1, x2, x3, x4, x5, x6, some (.inl a), x8, x9, x10] st M ↔ uX8_drinks R 175 [x0, x1, x2, x3, x4, x5, x6, some (.inl a), x8, x9, x10] (.inl a :: st) M := zU_step dX8_drinks_173 (Or.inl rfl)
theorem dX8_drinks_175 : decode cX8_drinks 175 = .ok (.iaload, 1) := by decide +kernel
theorem rX8_drinks_175 {R : zP} {x0 x1 x2 x3 x4 x5 x6 x7 x8 x9 x10 : Option zV} {st : List zV} {M : zM} {i : Int} {r : Nat} : uX8_drinks R 175 [x0, x1, x2, x3, x4, x5, x6, x7, x8, x9, x10] (.inl i :: .inr (.inr r) :: st) M ↔ zread fX8 0 r M i (fun v => uX8_drinks R 176 [x0, x1, x2, x3, x4, x5, x6, x7, x8, x9, x10] (.inl v :: st) M) := zU_step dX8_drinks_175 (Or.inl rfl)
theorem dX8_drinks_176 : decode cX8_drinks 176 = .ok (.iastore, 1) := by decide +kernel
theorem rX8_drinks_176 {R : zP} {x0 x1 x2 x3 x4 x5 x6 x7 x8 x9 x10 : Option zV} {st : List zV} {M : zM} {i v : Int} {r : Nat} : uX8_drinks R 176 [x0, x1, x2, x3, x4, x5, x6, x7, x8, x9, x10] (.inl v :: .inl i :: .inr (.inr r) :: st) M ↔ zwrite 0 r i (uX8_drinks R 177 [x0, x1, x2, x3, x4, x5, x6, x7, x8, x9, x10] st (zup M r i v)) := zU_step dX8_drinks_176 (Or.inl rfl)
theorem dX8_drinks_177 : decode cX8_drinks 177 = .ok (.aload_n 0, 1) := by decide +kernel
theorem rX8_drinks_177 {R : zP} {x1 x2 x3 x4 x5 x6 x7 x8 x9 x10 : Option zV} {st : List zV} {M : zM} {a : Nat} : uX8_drinks R 177 [some (.inr (.inr a)), x1, x2, x3, x4, x5, x6, x7, x8, x9, x10] st M ↔ uX8_drinks R 178 [some (.inr (.inr a)), x1, x2, x3, x4, x5, x6, x7, x8, x9, x10] (.inr (.inr a) :: st) M := zU_step dX8_drinks_177 (Or.inl rfl)
theorem dX8_drinks_178 : decode cX8_drinks 178 = .ok (.getfield 46, 3) := by decide +kernel
theorem rX8_drinks_178 {R : zP} {x0 x1 x2 x3 x4 x5 x6 x7 x8 x9 x10 : Option zV} {st : List zV} {M : zM} {r : Nat} : uX8_drinks R 178 [x0, x1, x2, x3, x4, x5, x6, x7, x8, x9, x10] (.inr (.inr r) :: st) M ↔ zgetx fX8 46 r M (fun v => uX8_drinks R 181 [x0, x1, x2, x3, x4, x5, x6, x7, x8, x9, x10] (v :: st) M) := zU_step dX8_drinks_178 (Or.inl rfl)
theorem dX8_drinks_181 : decode cX8_drinks 181 = .ok (.iload 7, 2) := by decide +kernel
theorem rX8_drinks_181 {R : zP} {x0 x1 x2 x3 x4 x5 x6 x8 x9 x10 : Option zV} {st : List zV} {M : zM} {a : Int} : uX8_drinks R 181 [x0, x1, x2, x3, x4, x5, x6, some (.inl a), x8, x9, x10] st M ↔ uX8_drinks R 183 [x0, x1, x2, x3, x4, x5, x6, some (.inl a), x8, x9, x10] (.inl a :: st) M := zU_step dX8_drinks_181 (Or.inl rfl)
theorem dX8_drinks_183 : decode cX8_drinks 183 = .ok (.dup2, 1) := by decide +kernel
theorem rX8_drinks_183 {R : zP} {x0 x1 x2 x3 x4 x5 x6 x7 x8 x9 x10 : Option zV} {st : List zV} {M : zM} {a : Int} {b : Nat} : uX8_drinks R 183 [x0, x1, x2, x3, x4, x5, x6, x7, x8, x9, x10] (.inl a :: .inr (.inr b) :: st) M ↔ uX8_drinks R 184 [x0, x1, x2, x3, x4, x5, x6, x7, x8, x9, x10] (.inl a :: .inr (.inr b) :: .inl a :: .inr (.inr b) :: st) M := zU_step dX8_drinks_183 (Or.inl rfl)
theorem dX8_drinks_184 : decode cX8_drinks 184 = .ok (.iaload, 1) := by decide +kernel
theorem rX8_drinks_184 {R : zP} {x0 x1 x2 x3 x4 x5 x6 x7 x8 x9 x10 : Option zV} {st : List zV} {M : zM} {i : Int} {r : Nat} : uX8_drinks R 184 [x0, x1, x2, x3, x4, x5, x6, x7, x8, x9, x10] (.inl i :: .inr (.inr r) :: st) M ↔ zread fX8 0 r M i (fun v => uX8_drinks R 185 [x0, x1, x2, x3, x4, x5, x6, x7, x8, x9, x10] (.inl v :: st) M) := zU_step dX8_drinks_184 (Or.inl rfl)
theorem dX8_drinks_185 : decode cX8_drinks 185 = .ok (.iload 8, 2) := by decide +kernel
theorem rX8_drinks_185 {R : zP} {x0 x1 x2 x3 x4 x5 x6 x7 x9 x10 : Option zV} {st : List zV} {M : zM} {a : Int} : uX8_drinks R 185 [x0, x1, x2, x3, x4, x5, x6, x7, some (.inl a), x9, x10] st M ↔ uX8_drinks R 187 [x0, x1, x2, x3, x4, x5, x6, x7, some (.inl a), x9, x10] (.inl a :: st) M := zU_step dX8_drinks_185 (Or.inl rfl)
theorem dX8_drinks_187 : decode cX8_drinks 187 = .ok (.aload_n 0, 1) := by decide +kernel
theorem rX8_drinks_187 {R : zP} {x1 x2 x3 x4 x5 x6 x7 x8 x9 x10 : Option zV} {st : List zV} {M : zM} {a : Nat} : uX8_drinks R 187 [some (.inr (.inr a)), x1, x2, x3, x4, x5, x6, x7, x8, x9, x10] st M ↔ uX8_drinks R 188 [some (.inr (.inr a)), x1, x2, x3, x4, x5, x6, x7, x8, x9, x10] (.inr (.inr a) :: st) M := zU_step dX8_drinks_187 (Or.inl rfl)
theorem dX8_drinks_188 : decode cX8_drinks 188 = .ok (.getfield 46, 3) := by decide +kernel
theorem rX8_drinks_188 {R : zP} {x0 x1 x2 x3 x4 x5 x6 x7 x8 x9 x10 : Option zV} {st : List zV} {M : zM} {r : Nat} : uX8_drinks R 188 [x0, x1, x2, x3, x4, x5, x6, x7, x8, x9, x10] (.inr (.inr r) :: st) M ↔ zgetx fX8 46 r M (fun v => uX8_drinks R 191 [x0, x1, x2, x3, x4, x5, x6, x7, x8, x9, x10] (v :: st) M) := zU_step dX8_drinks_188 (Or.inl rfl)
theorem dX8_drinks_191 : decode cX8_drinks 191 = .ok (.iload 7, 2) := by decide +kernel
theorem rX8_drinks_191 {R : zP} {x0 x1 x2 x3 x4 x5 x6 x8 x9 x10 : Option zV} {st : List zV} {M : zM} {a : Int} : uX8_drinks R 191 [x0, x1, x2, x3, x4, x5, x6, some (.inl a), x8, x9, x10] st M ↔ uX8_drinks R 193 [x0, x1, x2, x3, x4, x5, x6, some (.inl a), x8, x9, x10] (.inl a :: st) M := zU_step dX8_drinks_191 (Or.inl rfl)
theorem dX8_drinks_193 : decode cX8_drinks 193 = .ok (.iaload, 1) := by decide +kernel
theorem rX8_drinks_193 {R : zP} {x0 x1 x2 x3 x4 x5 x6 x7 x8 x9 x10 : Option zV} {st : List zV} {M : zM} {i : Int} {r : Nat} : uX8_drinks R 193 [x0, x1, x2, x3, x4, x5, x6, x7, x8, x9, x10] (.inl i :: .inr (.inr r) :: st) M ↔ zread fX8 0 r M i (fun v => uX8_drinks R 194 [x0, x1, x2, x3, x4, x5, x6, x7, x8, x9, x10] (.inl v :: st) M) := zU_step dX8_drinks_193 (Or.inl rfl)
theorem dX8_drinks_194 : decode cX8_drinks 194 = .ok (.if_icmp .le 8, 3) := by decide +kernel
theorem rX8_drinks_194 {R : zP} {x0 x1 x2 x3 x4 x5 x6 x7 x8 x9 x10 : Option zV} {st : List zV} {M : zM} {a b : Int} : uX8_drinks R 194 [x0, x1, x2, x3, x4, x5, x6, x7, x8, x9, x10] (.inl b :: .inl a :: st) M ↔ ((zIR a ∧ zIR b) ∧ if a ≤ b then uX8_drinks R 202 [x0, x1, x2, x3, x4, x5, x6, x7, x8, x9, x10] st M else uX8_drinks R 197 [x0, x1, x2, x3, x4, x5, x6, x7, x8, x9, x10] st M) := Iff.trans (zU_step dX8_drinks_194 (Or.inl rfl)) ⟨fun h => ⟨⟨h.1.1, h.1.2.1⟩, (zite (c := a ≤ b)).mpr h.2⟩, fun h => ⟨⟨h.1.1, h.1.2, by decide⟩, (zite (c := a ≤ b)).mp h.2⟩⟩
theorem dX8_drinks_197 : decode cX8_drinks 197 = .ok (.iload 10, 2) := by decide +kernel
theorem rX8_drinks_197 {R : zP} {x0 x1 x2 x3 x4 x5 x6 x7 x8 x9 : Option zV} {st : List zV} {M : zM} {a : Int} : uX8_drinks R 197 [x0, x1, x2, x3, x4, x5, x6, x7, x8, x9, some (.inl a)] st M ↔ uX8_drinks R 199 [x0, x1, x2, x3, x4, x5, x6, x7, x8, x9, some (.inl a)] (.inl a :: st) M := zU_step dX8_drinks_197 (Or.inl rfl)
theorem dX8_drinks_199 : decode cX8_drinks 199 = .ok (.goto 6, 3) := by decide +kernel
theorem rX8_drinks_199 {R : zP} {x0 x1 x2 x3 x4 x5 x6 x7 x8 x9 x10 : Option zV} {st : List zV} {M : zM} : uX8_drinks R 199 [x0, x1, x2, x3, x4, x5, x6, x7, x8, x9, x10] st M ↔ uX8_drinks R 205 [x0, x1, x2, x3, x4, x5, x6, x7, x8, x9, x10] st M := Iff.trans (zU_step dX8_drinks_199 (Or.inl rfl)) ⟨fun h => h.2, fun h => ⟨by decide, h⟩⟩
theorem dX8_drinks_202 : decode cX8_drinks 202 = .ok (.iload 10, 2) := by decide +kernel
theorem rX8_drinks_202 {R : zP} {x0 x1 x2 x3 x4 x5 x6 x7 x8 x9 : Option zV} {st : List zV} {M : zM} {a : Int} : uX8_drinks R 202 [x0, x1, x2, x3, x4, x5, x6, x7, x8, x9, some (.inl a)] st M ↔ uX8_drinks R 204 [x0, x1, x2, x3, x4, x5, x6, x7, x8, x9, some (.inl a)] (.inl a :: st) M := zU_step dX8_drinks_202 (Or.inl rfl)
theorem dX8_drinks_204 : decode cX8_drinks 204 = .ok (.ineg, 1) := by decide +kernel
theorem rX8_drinks_204 {R : zP} {x0 x1 x2 x3 x4 x5 x6 x7 x8 x9 x10 : Option zV} {st : List zV} {M : zM} {a : Int} : uX8_drinks R 204 [x0, x1, x2, x3, x4, x5, x6, x7, x8, x9, x10] (.inl a :: st) M ↔ uX8_drinks R 205 [x0, x1, x2, x3, x4, x5, x6, x7, x8, x9, x10] (.inl (-a) :: st) M := zU_step dX8_drinks_204 (Or.inl rfl)
theorem dX8_drinks_205 : decode cX8_drinks 205 = .ok (.iadd, 1) := by decide +kernel
theorem rX8_drinks_205 {R : zP} {x0 x1 x2 x3 x4 x5 x6 x7 x8 x9 x10 : Option zV} {st : List zV} {M : zM} {a b : Int} : uX8_drinks R 205 [x0, x1, x2, x3, x4, x5, x6, x7, x8, x9, x10] (.inl b :: .inl a :: st) M ↔ uX8_drinks R 206 [x0, x1, x2, x3, x4, x5, x6, x7, x8, x9, x10] (.inl (a + b) :: st) M := zU_step dX8_drinks_205 (Or.inl rfl)
theorem dX8_drinks_206 : decode cX8_drinks 206 = .ok (.iastore, 1) := by decide +kernel
theorem rX8_drinks_206 {R : zP} {x0 x1 x2 x3 x4 x5 x6 x7 x8 x9 x10 : Option zV} {st : List zV} {M : zM} {i v : Int} {r : Nat} : uX8_drinks R 206 [x0, x1, x2, x3, x4, x5, x6, x7, x8, x9, x10] (.inl v :: .inl i :: .inr (.inr r) :: st) M ↔ zwrite 0 r i (uX8_drinks R 207 [x0, x1, x2, x3, x4, x5, x6, x7, x8, x9, x10] st (zup M r i v)) := zU_step dX8_drinks_206 (Or.inl rfl)
theorem dX8_drinks_207 : decode cX8_drinks 207 = .ok (.goto 6, 3) := by decide +kernel
theorem rX8_drinks_207 {R : zP} {x0 x1 x2 x3 x4 x5 x6 x7 x8 x9 x10 : Option zV} {st : List zV} {M : zM} : uX8_drinks R 207 [x0, x1, x2, x3, x4, x5, x6, x7, x8, x9, x10] st M ↔ uX8_drinks R 213 [x0, x1, x2, x3, x4, x5, x6, x7, x8, x9, x10] st M := Iff.trans (zU_step dX8_drinks_207 (Or.inl rfl)) ⟨fun h => h.2, fun h => ⟨by decide, h⟩⟩
theorem dX8_drinks_210 : decode cX8_drinks 210 = .ok (.iinc 5 1, 3) := by decide +kernel
theorem rX8_drinks_210 {R : zP} {x0 x1 x2 x3 x6 x7 x8 x9 x10 : Option zV} {st : List zV} {M : zM} {a : Int} {y : Int} : uX8_drinks R 210 [x0, x1, x2, x3, some (.inl y), some (.inl a), x6, x7, x8, x9, x10] st M ↔ uX8_drinks R 213 [x0, x1, x2, x3, some (.inl y), some (.inl (a + (1))), x6, x7, x8, x9, x10] st M := Iff.trans (zU_step dX8_drinks_210 (Or.inl rfl)) ⟨fun h => h.2, fun h => ⟨show 5 < 11 by decide, h⟩⟩
theorem rX8_drinks_210z {R : zP} {x0 x1 x2 x3 x4 x6 x7 x8 x9 x10 : Option zV} {st : List zV} {M : zM} {a : Int} : uX8_drinks R 210 [x0, x1, x2, x3, x4, some (.inl a), x6, x7, x8, x9, x10] st M ↔ uX8_drinks R 213 [x0, x1, x2, x3, zkeep x4, some (.inl (a + (1))), x6, x7, x8, x9, x10] st M := Iff.trans (zU_step dX8_drinks_210 (Or.inl rfl)) ⟨fun h => h.2, fun h => ⟨show 5 < 11 by decide, h⟩⟩
theorem dX8_drinks_213 : decode cX8_drinks 213 = .ok (.iinc 6 1, 3) := by decide +kernel
theorem rX8_drinks_213 {R : zP} {x0 x1 x2 x3 x4 x7 x8 x9 x10 : Option zV} {st : List zV} {M : zM} {a : Int} {y : Int} : uX8_drinks R 213 [x0, x1, x2, x3, x4, some (.inl y), some (.inl a), x7, x8, x9, x10] st M ↔ uX8_drinks R 216 [x0, x1, x2, x3, x4, some (.inl y), some (.inl (a + (1))), x7, x8, x9, x10] st M := Iff.trans (zU_step dX8_drinks_213 (Or.inl rfl)) ⟨fun h => h.2, fun h => ⟨show 6 < 11 by decide, h⟩⟩
theorem rX8_drinks_213z {R : zP} {x0 x1 x2 x3 x4 x5 x7 x8 x9 x10 : Option zV} {st : List zV} {M : zM} {a : Int} : uX8_drinks R 213 [x0, x1, x2, x3, x4, x5, some (.inl a), x7, x8, x9, x10] st M ↔ uX8_drinks R 216 [x0, x1, x2, x3, x4, zkeep x5, some (.inl (a + (1))), x7, x8, x9, x10] st M := Iff.trans (zU_step dX8_drinks_213 (Or.inl rfl)) ⟨fun h => h.2, fun h => ⟨show 6 < 11 by decide, h⟩⟩
theorem dX8_drinks_216 : decode cX8_drinks 216 = .ok (.goto (-164), 3) := by decide +kernel
theorem rX8_drinks_216 {R : zP} {x0 x1 x2 x3 x4 x5 x6 x7 x8 x9 x10 : Option zV} {st : List zV} {M : zM} : uX8_drinks R 216 [x0, x1, x2, x3, x4, x5, x6, x7, x8, x9, x10] st M ↔ uX8_drinks R 52 [x0, x1, x2, x3, x4, x5, x6, x7, x8, x9, x10] st M := Iff.trans (zU_step dX8_drinks_216 (Or.inl rfl)) ⟨fun h => h.2, fun h => ⟨by decide, h⟩⟩
theorem dX8_drinks_219 : decode cX8_drinks 219 = .ok (.aload_n 0, 1) := by decide +kernel
theorem rX8_drinks_219 {R : zP} {x1 x2 x3 x4 x5 x6 x7 x8 x9 x10 : Option zV} {st : List zV} {M : zM} {a : Nat} : uX8_drinks R 219 [some (.inr (.inr a)), x1, x2, x3, x4, x5, x6, x7, x8, x9, x10] st M ↔ uX8_drinks R 220 [some (.inr (.inr a)), x1, x2, x3, x4, x5, x6, x7, x8, x9, x10] (.inr (.inr a) :: st) M := zU_step dX8_drinks_219 (Or.inl rfl)
theorem dX8_drinks_220 : decode cX8_drinks 220 = .ok (.getfield 58, 3) := by decide +kernel
theorem rX8_drinks_220 {R : zP} {x0 x1 x2 x3 x4 x5 x6 x7 x8 x9 x10 : Option zV} {st : List zV} {M : zM} {r : Nat} : uX8_drinks R 220 [x0, x1, x2, x3, x4, x5, x6, x7, x8, x9, x10] (.inr (.inr r) :: st) M ↔ zgetx fX8 58 r M (fun v => uX8_drinks R 223 [x0, x1, x2, x3, x4, x5, x6, x7, x8, x9, x10] (v :: st) M) := zU_step dX8_drinks_220 (Or.inl rfl)
theorem dX8_drinks_223 : decode cX8_drinks 223 = .ok (.iload_n 1, 1) := by decide +kernel
theorem rX8_drinks_223 {R : zP} {x0 x2 x3 x4 x5 x6 x7 x8 x9 x10 : Option zV} {st : List zV} {M : zM} {a : Int} : uX8_drinks R 223 [x0, some (.inl a), x2, x3, x4, x5, x6, x7, x8, x9, x10] st M ↔ uX8_drinks R 224 [x0, some (.inl a), x2, x3, x4, x5, x6, x7, x8, x9, x10] (.inl a :: st) M := zU_step dX8_drinks_223 (Or.inl rfl)
theorem dX8_drinks_224 : decode cX8_drinks 224 = .ok (.dup2, 1) := by decide +kernel
theorem rX8_drinks_224 {R : zP} {x0 x1 x2 x3 x4 x5 x6 x7 x8 x9 x10 : Option zV} {st : List zV} {M : zM} {a : Int} {b : Nat} : uX8_drinks R 224 [x0, x1, x2, x3, x4, x5, x6, x7, x8, x9, x10] (.inl a :: .inr (.inr b) :: st) M ↔ uX8_drinks R 225 [x0, x1, x2, x3, x4, x5, x6, x7, x8, x9, x10] (.inl a :: .inr (.inr b) :: .inl a :: .inr (.inr b) :: st) M := zU_step dX8_drinks_224 (Or.inl rfl)
theorem dX8_drinks_225 : decode cX8_drinks 225 = .ok (.iaload, 1) := by decide +kernel
theorem rX8_drinks_225 {R : zP} {x0 x1 x2 x3 x4 x5 x6 x7 x8 x9 x10 : Option zV} {st : List zV} {M : zM} {i : Int} {r : Nat} : uX8_drinks R 225 [x0, x1, x2, x3, x4, x5, x6, x7, x8, x9, x10] (.inl i :: .inr (.inr r) :: st) M ↔ zread fX8 0 r M i (fun v => uX8_drinks R 226 [x0, x1, x2, x3, x4, x5, x6, x7, x8, x9, x10] (.inl v :: st) M) := zU_step dX8_drinks_225 (Or.inl rfl)
theorem dX8_drinks_226 : decode cX8_drinks 226 = .ok (.iload 5, 2) := by decide +kernel
theorem rX8_drinks_226 {R : zP} {x0 x1 x2 x3 x4 x6 x7 x8 x9 x10 : Option zV} {st : List zV} {M : zM} {a : Int} : uX8_drinks R 226 [x0, x1, x2, x3, x4, some (.inl a), x6, x7, x8, x9, x10] st M ↔ uX8_drinks R 228 [x0, x1, x2, x3, x4, some (.inl a), x6, x7, x8, x9, x10] (.inl a :: st) M := zU_step dX8_drinks_226 (Or.inl rfl)
theorem dX8_drinks_228 : decode cX8_drinks 228 = .ok (.iadd, 1) := by decide +kernel
theorem rX8_drinks_228 {R : zP} {x0 x1 x2 x3 x4 x5 x6 x7 x8 x9 x10 : Option zV} {st : List zV} {M : zM} {a b : Int} : uX8_drinks R 228 [x0, x1, x2, x3, x4, x5, x6, x7, x8, x9, x10] (.inl b :: .inl a :: st) M ↔ uX8_drinks R 229 [x0, x1, x2, x3, x4, x5, x6, x7, x8, x9, x10] (.inl (a + b) :: st) M := zU_step dX8_drinks_228 (Or.inl rfl)
theorem dX8_drinks_229 : decode cX8_drinks 229 = .ok (.iastore, 1) := by decide +kernel
theorem rX8_drinks_229 {R : zP} {x0 x1 x2 x3 x4 x5 x6 x7 x8 x9 x10 : Option zV} {st : List zV} {M : zM} {i v : Int} {r : Nat} : uX8_drinks R 229 [x0, x1, x2, x3, x4, x5, x6, x7, x8, x9, x10] (.inl v :: .inl i :: .inr (.inr r) :: st) M ↔ zwrite 0 r i (uX8_drinks R 230 [x0, x1, x2, x3, x4, x5, x6, x7, x8, x9, x10] st (zup M r i v)) := zU_step dX8_drinks_229 (Or.inl rfl)
theorem dX8_drinks_230 : decode cX8_drinks 230 = .ok (.aload_n 0, 1) := by decide +kernel
theorem rX8_drinks_230 {R : zP} {x1 x2 x3 x4 x5 x6 x7 x8 x9 x10 : Option zV} {st : List zV} {M : zM} {a : Nat} : uX8_drinks R 230 [some (.inr (.inr a)), x1, x2, x3, x4, x5, x6, x7, x8, x9, x10] st M ↔ uX8_drinks R 231 [some (.inr (.inr a)), x1, x2, x3, x4, x5, x6, x7, x8, x9, x10] (.inr (.inr a) :: st) M := zU_step dX8_drinks_230 (Or.inl rfl)
theorem dX8_drinks_231 : decode cX8_drinks 231 = .ok (.getfield 55, 3) := by decide +kernel
theorem rX8_drinks_231 {R : zP} {x0 x1 x2 x3 x4 x5 x6 x7 x8 x9 x10 : Option zV} {st : List zV} {M : zM} {r : Nat} : uX8_drinks R 231 [x0, x1, x2, x3, x4, x5, x6, x7, x8, x9, x10] (.inr (.inr r) :: st) M ↔ zgetx fX8 55 r M (fun v => uX8_drinks R 234 [x0, x1, x2, x3, x4, x5, x6, x7, x8, x9, x10] (v :: st) M) := zU_step dX8_drinks_231 (Or.inl rfl)
theorem dX8_drinks_234 : decode cX8_drinks 234 = .ok (.iload_n 1, 1) := by decide +kernel
theorem rX8_drinks_234 {R : zP} {x0 x2 x3 x4 x5 x6 x7 x8 x9 x10 : Option zV} {st : List zV} {M : zM} {a : Int} : uX8_drinks R 234 [x0, some (.inl a), x2, x3, x4, x5, x6, x7, x8, x9, x10] st M ↔ uX8_drinks R 235 [x0, some (.inl a), x2, x3, x4, x5, x6, x7, x8, x9, x10] (.inl a :: st) M := zU_step dX8_drinks_234 (Or.inl rfl)
theorem dX8_drinks_235 : decode cX8_drinks 235 = .ok (.dup2, 1) := by decide +kernel
theorem rX8_drinks_235 {R : zP} {x0 x1 x2 x3 x4 x5 x6 x7 x8 x9 x10 : Option zV} {st : List zV} {M : zM} {a : Int} {b : Nat} : uX8_drinks R 235 [x0, x1, x2, x3, x4, x5, x6, x7, x8, x9, x10] (.inl a :: .inr (.inr b) :: st) M ↔ uX8_drinks R 236 [x0, x1, x2, x3, x4, x5, x6, x7, x8, x9, x10] (.inl a :: .inr (.inr b) :: .inl a :: .inr (.inr b) :: st) M := zU_step dX8_drinks_235 (Or.inl rfl)
theorem dX8_drinks_236 : decode cX8_drinks 236 = .ok (.iaload, 1) := by decide +kernel
theorem rX8_drinks_236 {R : zP} {x0 x1 x2 x3 x4 x5 x6 x7 x8 x9 x10 : Option zV} {st : List zV} {M : zM} {i : Int} {r : Nat} : uX8_drinks R 236 [x0, x1, x2, x3, x4, x5, x6, x7, x8, x9, x10] (.inl i :: .inr (.inr r) :: st) M ↔ zread fX8 0 r M i (fun v => uX8_drinks R 237 [x0, x1, x2, x3, x4, x5, x6, x7, x8, x9, x10] (.inl v :: st) M) := zU_step dX8_drinks_236 (Or.inl rfl)
theorem dX8_drinks_237 : decode cX8_drinks 237 = .ok (.iload 5, 2) := by decide +kernel
theorem rX8_drinks_237 {R : zP} {x0 x1 x2 x3 x4 x6 x7 x8 x9 x10 : Option zV} {st : List zV} {M : zM} {a : Int} : uX8_drinks R 237 [x0, x1, x2, x3, x4, some (.inl a), x6, x7, x8, x9, x10] st M ↔ uX8_drinks R 239 [x0, x1, x2, x3, x4, some (.inl a), x6, x7, x8, x9, x10] (.inl a :: st) M := zU_step dX8_drinks_237 (Or.inl rfl)
theorem dX8_drinks_239 : decode cX8_drinks 239 = .ok (.ifCond .ne 18, 3) := by decide +kernel
theorem rX8_drinks_239 {R : zP} {x0 x1 x2 x3 x4 x5 x6 x7 x8 x9 x10 : Option zV} {st : List zV} {M : zM} {a : Int} : uX8_drinks R 239 [x0, x1, x2, x3, x4, x5, x6, x7, x8, x9, x10] (.inl a :: st) M ↔ (zIR a ∧ if a ≠ 0 then uX8_drinks R 257 [x0, x1, x2, x3, x4, x5, x6, x7, x8, x9, x10] st M else uX8_drinks R 242 [x0, x1, x2, x3, x4, x5, x6, x7, x8, x9, x10] st M) := Iff.trans (zU_step dX8_drinks_239 (Or.inl rfl)) ⟨fun h => ⟨h.1.1, (zite (c := a ≠ 0)).mpr h.2⟩, fun h => ⟨⟨h.1, by decide⟩, (zite (c := a ≠ 0)).mp h.2⟩⟩
theorem dX8_drinks_242 : decode cX8_drinks 242 = .ok (.aload_n 0, 1) := by decide +kernel
theorem rX8_drinks_242 {R : zP} {x1 x2 x3 x4 x5 x6 x7 x8 x9 x10 : Option zV} {st : List zV} {M : zM} {a : Nat} : uX8_drinks R 242 [some (.inr (.inr a)), x1, x2, x3, x4, x5, x6, x7, x8, x9, x10] st M ↔ uX8_drinks R 243 [some (.inr (.inr a)), x1, x2, x3, x4, x5, x6, x7, x8, x9, x10] (.inr (.inr a) :: st) M := zU_step dX8_drinks_242 (Or.inl rfl)
theorem dX8_drinks_243 : decode cX8_drinks 243 = .ok (.getfield 55, 3) := by decide +kernel
theorem rX8_drinks_243 {R : zP} {x0 x1 x2 x3 x4 x5 x6 x7 x8 x9 x10 : Option zV} {st : List zV} {M : zM} {r : Nat} : uX8_drinks R 243 [x0, x1, x2, x3, x4, x5, x6, x7, x8, x9, x10] (.inr (.inr r) :: st) M ↔ zgetx fX8 55 r M (fun v => uX8_drinks R 246 [x0, x1, x2, x3, x4, x5, x6, x7, x8, x9, x10] (v :: st) M) := zU_step dX8_drinks_243 (Or.inl rfl)
theorem dX8_drinks_246 : decode cX8_drinks 246 = .ok (.iload_n 1, 1) := by decide +kernel
theorem rX8_drinks_246 {R : zP} {x0 x2 x3 x4 x5 x6 x7 x8 x9 x10 : Option zV} {st : List zV} {M : zM} {a : Int} : uX8_drinks R 246 [x0, some (.inl a), x2, x3, x4, x5, x6, x7, x8, x9, x10] st M ↔ uX8_drinks R 247 [x0, some (.inl a), x2, x3, x4, x5, x6, x7, x8, x9, x10] (.inl a :: st) M := zU_step dX8_drinks_246 (Or.inl rfl)
theorem dX8_drinks_247 : decode cX8_drinks 247 = .ok (.iaload, 1) := by decide +kernel
theorem rX8_drinks_247 {R : zP} {x0 x1 x2 x3 x4 x5 x6 x7 x8 x9 x10 : Option zV} {st : List zV} {M : zM} {i : Int} {r : Nat} : uX8_drinks R 247 [x0, x1, x2, x3, x4, x5, x6, x7, x8, x9, x10] (.inl i :: .inr (.inr r) :: st) M ↔ zread fX8 0 r M i (fun v => uX8_drinks R 248 [x0, x1, x2, x3, x4, x5, x6, x7, x8, x9, x10] (.inl v :: st) M) := zU_step dX8_drinks_247 (Or.inl rfl)
theorem dX8_drinks_248 : decode cX8_drinks 248 = .ok (.bipush 9, 2) := by decide +kernel
theorem rX8_drinks_248 {R : zP} {x0 x1 x2 x3 x4 x5 x6 x7 x8 x9 x10 : Option zV} {st : List zV} {M : zM} : uX8_drinks R 248 [x0, x1, x2, x3, x4, x5, x6, x7, x8, x9, x10] st M ↔ uX8_drinks R 250 [x0, x1, x2, x3, x4, x5, x6, x7, x8, x9, x10] (.inl (9) :: st) M := Iff.trans (zU_step dX8_drinks_248 (Or.inl rfl)) ⟨fun h => h.2, fun h => ⟨by decide, h⟩⟩
theorem dX8_drinks_250 : decode cX8_drinks 250 = .ok (.if_icmp .ge 7, 3) := by decide +kernel
theorem rX8_drinks_250 {R : zP} {x0 x1 x2 x3 x4 x5 x6 x7 x8 x9 x10 : Option zV} {st : List zV} {M : zM} {a b : Int} : uX8_drinks R 250 [x0, x1, x2, x3, x4, x5, x6, x7, x8, x9, x10] (.inl b :: .inl a :: st) M ↔ ((zIR a ∧ zIR b) ∧ if b ≤ a then uX8_drinks R 257 [x0, x1, x2, x3, x4, x5, x6, x7, x8, x9, x10] st M else uX8_drinks R 253 [x0, x1, x2, x3, x4, x5, x6, x7, x8, x9, x10] st M) := Iff.trans (zU_step dX8_drinks_250 (Or.inl rfl)) ⟨fun h => ⟨⟨h.1.1, h.1.2.1⟩, (zite (c := b ≤ a)).mpr h.2⟩, fun h => ⟨⟨h.1.1, h.1.2, by decide⟩, (zite (c := b ≤ a)).mp h.2⟩⟩
theorem dX8_drinks_253 : decode cX8_drinks 253 = .ok (.iconst 1, 1) := by decide +kernel
theorem rX8_drinks_253 {R : zP} {x0 x1 x2 x3 x4 x5 x6 x7 x8 x9 x10 : Option zV} {st : List zV} {M : zM} : uX8_drinks R 253 [x0, x1, x2, x3, x4, x5, x6, x7, x8, x9, x10] st M ↔ uX8_drinks R 254 [x0, x1, x2, x3, x4, x5, x6, x7, x8, x9, x10] (.inl (1) :: st) M := zU_step dX8_drinks_253 (Or.inl rfl)
theorem dX8_drinks_254 : decode cX8_drinks 254 = .ok (.goto 4, 3) := by decide +kernel
theorem rX8_drinks_254 {R : zP} {x0 x1 x2 x3 x4 x5 x6 x7 x8 x9 x10 : Option zV} {st : List zV} {M : zM} : uX8_drinks R 254 [x0, x1, x2, x3, x4, x5, x6, x7, x8, x9, x10] st M ↔ uX8_drinks R 258 [x0, x1, x2, x3, x4, x5, x6, x7, x8, x9, x10] st M := Iff.trans (zU_step dX8_drinks_254 (Or.inl rfl)) ⟨fun h => h.2, fun h => ⟨by decide, h⟩⟩
theorem dX8_drinks_257 : decode cX8_drinks 257 = .ok (.iconst 0, 1) := by decide +kernel
theorem rX8_drinks_257 {R : zP} {x0 x1 x2 x3 x4 x5 x6 x7 x8 x9 x10 : Option zV} {st : List zV} {M : zM} : uX8_drinks R 257 [x0, x1, x2, x3, x4, x5, x6, x7, x8, x9, x10] st M ↔ uX8_drinks R 258 [x0, x1, x2, x3, x4, x5, x6, x7, x8, x9, x10] (.inl (0) :: st) M := zU_step dX8_drinks_257 (Or.inl rfl)
theorem dX8_drinks_258 : decode cX8_drinks 258 = .ok (.iadd, 1) := by decide +kernel
theorem rX8_drinks_258 {R : zP} {x0 x1 x2 x3 x4 x5 x6 x7 x8 x9 x10 : Option zV} {st : List zV} {M : zM} {a b : Int} : uX8_drinks R 258 [x0, x1, x2, x3, x4, x5, x6, x7, x8, x9, x10] (.inl b :: .inl a :: st) M ↔ uX8_drinks R 259 [x0, x1, x2, x3, x4, x5, x6, x7, x8, x9, x10] (.inl (a + b) :: st) M := zU_step dX8_drinks_258 (Or.inl rfl)
theorem dX8_drinks_259 : decode cX8_drinks 259 = .ok (.iastore, 1) := by decide +kernel
theorem rX8_drinks_259 {R : zP} {x0 x1 x2 x3 x4 x5 x6 x7 x8 x9 x10 : Option zV} {st : List zV} {M : zM} {i v : Int} {r : Nat} : uX8_drinks R 259 [x0, x1, x2, x3, x4, x5, x6, x7, x8, x9, x10] (.inl v :: .inl i :: .inr (.inr r) :: st) M ↔ zwrite 0 r i (uX8_drinks R 260 [x0, x1, x2, x3, x4, x5, x6, x7, x8, x9, x10] st (zup M r i v)) := zU_step dX8_drinks_259 (Or.inl rfl)
theorem dX8_drinks_260 : decode cX8_drinks 260 = .ok (.return_, 1) := by decide +kernel
theorem rX8_drinks_260 {R : zP} {x0 x1 x2 x3 x4 x5 x6 x7 x8 x9 x10 : Option zV} {M : zM} : uX8_drinks R 260 [x0, x1, x2, x3, x4, x5, x6, x7, x8, x9, x10] [] M ↔ R none M := Iff.trans (zU_step dX8_drinks_260 (Or.inl rfl)) ⟨fun h => h.2.2, fun h => ⟨rfl, rfl, h⟩⟩
theorem eX8_drinks {R : zP} {M : zM} {a0 : Nat} {p0 : Int} {p1 : Int} : tX8_drinks [.inr (.inr a0), .inl p0, .inl p1] M R ↔ uX8_drinks R 0 [some (.inr (.inr a0)), some (.inl p0), some (.inl p1), none, none, none, none, none, none, none, none] [] M := ⟨fun h => h.2, fun h => ⟨show 3 ≤ 11 by decide, h⟩⟩
def uX8_goesBy (R : zP) : zK := zU fX8 vX8_goesBy cX8_goesBy R
theorem dX8_goesBy_0 : decode cX8_goesBy 0 = .ok (.iconst 0, 1) := by decide +kernel
theorem rX8_goesBy_0 {R : zP} {x0 x1 x2 : Option zV} {st : List zV} {M : zM} : uX8_goesBy R 0 [x0, x1, x2] st M ↔ uX8_goesBy R 1 [x0, x1, x2] (.inl (0) :: st) M := zU_step dX8_goesBy_0 (Or.inl rfl)
theorem dX8_goesBy_1 : decode cX8_goesBy 1 = .ok (.istore_n 2, 1) := by decide +kernel
theorem rX8_goesBy_1 {R : zP} {x0 x2 : Option zV} {st : List zV} {M : zM} {a : Int} {y : Int} : uX8_goesBy R 1 [x0, some (.inl y), x2] (.inl a :: st) M ↔ uX8_goesBy R 2 [x0, some (.inl y), some (.inl a)] st M := Iff.trans (zU_step dX8_goesBy_1 (Or.inl rfl)) ⟨fun h => h.2, fun h => ⟨show 2 < 3 by decide, h⟩⟩
theorem rX8_goesBy_1z {R : zP} {x0 x1 x2 : Option zV} {st : List zV} {M : zM} {a : Int} : uX8_goesBy R 1 [x0, x1, x2] (.inl a :: st) M ↔ uX8_goesBy R 2 [x0, zkeep x1, some (.inl a)] st M := Iff.trans (zU_step dX8_goesBy_1 (Or.inl rfl)) ⟨fun h => h.2, fun h => ⟨show 2 < 3 by decide, h⟩⟩
theorem dX8_goesBy_2 : decode cX8_goesBy 2 = .ok (.iload_n 2, 1) := by decide +kernel
theorem rX8_goesBy_2 {R : zP} {x0 x1 : Option zV} {st : List zV} {M : zM} {a : Int} : uX8_goesBy R 2 [x0, x1, some (.inl a)] st M ↔ uX8_goesBy R 3 [x0, x1, some (.inl a)] (.inl a :: st) M := zU_step dX8_goesBy_2 (Or.inl rfl)
theorem dX8_goesBy_3 : decode cX8_goesBy 3 = .ok (.aload_n 0, 1) := by decide +kernel
theorem rX8_goesBy_3 {R : zP} {x1 x2 : Option zV} {st : List zV} {M : zM} {a : Nat} : uX8_goesBy R 3 [some (.inr (.inr a)), x1, x2] st M ↔ uX8_goesBy R 4 [some (.inr (.inr a)), x1, x2] (.inr (.inr a) :: st) M := zU_step dX8_goesBy_3 (Or.inl rfl)
theorem dX8_goesBy_4 : decode cX8_goesBy 4 = .ok (.getfield 178, 3) := by decide +kernel
theorem rX8_goesBy_4 {R : zP} {x0 x1 x2 : Option zV} {st : List zV} {M : zM} {r : Nat} : uX8_goesBy R 4 [x0, x1, x2] (.inr (.inr r) :: st) M ↔ zgetx fX8 178 r M (fun v => uX8_goesBy R 7 [x0, x1, x2] (v :: st) M) := zU_step dX8_goesBy_4 (Or.inl rfl)
theorem dX8_goesBy_7 : decode cX8_goesBy 7 = .ok (.if_icmp .ge 72, 3) := by decide +kernel
theorem rX8_goesBy_7 {R : zP} {x0 x1 x2 : Option zV} {st : List zV} {M : zM} {a b : Int} : uX8_goesBy R 7 [x0, x1, x2] (.inl b :: .inl a :: st) M ↔ ((zIR a ∧ zIR b) ∧ if b ≤ a then uX8_goesBy R 79 [x0, x1, x2] st M else uX8_goesBy R 10 [x0, x1, x2] st M) := Iff.trans (zU_step dX8_goesBy_7 (Or.inl rfl)) ⟨fun h => ⟨⟨h.1.1, h.1.2.1⟩, (zite (c := b ≤ a)).mpr h.2⟩, fun h => ⟨⟨h.1.1, h.1.2, by decide⟩, (zite (c := b ≤ a)).mp h.2⟩⟩
theorem dX8_goesBy_10 : decode cX8_goesBy 10 = .ok (.aload_n 0, 1) := by decide +kernel
theorem rX8_goesBy_10 {R : zP} {x1 x2 : Option zV} {st : List zV} {M : zM} {a : Nat} : uX8_goesBy R 10 [some (.inr (.inr a)), x1, x2] st M ↔ uX8_goesBy R 11 [some (.inr (.inr a)), x1, x2] (.inr (.inr a) :: st) M := zU_step dX8_goesBy_10 (Or.inl rfl)
theorem dX8_goesBy_11 : decode cX8_goesBy 11 = .ok (.getfield 37, 3) := by decide +kernel
theorem rX8_goesBy_11 {R : zP} {x0 x1 x2 : Option zV} {st : List zV} {M : zM} {r : Nat} : uX8_goesBy R 11 [x0, x1, x2] (.inr (.inr r) :: st) M ↔ zgetx fX8 37 r M (fun v => uX8_goesBy R 14 [x0, x1, x2] (v :: st) M) := zU_step dX8_goesBy_11 (Or.inl rfl)
theorem dX8_goesBy_14 : decode cX8_goesBy 14 = .ok (.iload_n 2, 1) := by decide +kernel
theorem rX8_goesBy_14 {R : zP} {x0 x1 : Option zV} {st : List zV} {M : zM} {a : Int} : uX8_goesBy R 14 [x0, x1, some (.inl a)] st M ↔ uX8_goesBy R 15 [x0, x1, some (.inl a)] (.inl a :: st) M := zU_step dX8_goesBy_14 (Or.inl rfl)
theorem dX8_goesBy_15 : decode cX8_goesBy 15 = .ok (.iaload, 1) := by decide +kernel
theorem rX8_goesBy_15 {R : zP} {x0 x1 x2 : Option zV} {st : List zV} {M : zM} {i : Int} {r : Nat} : uX8_goesBy R 15 [x0, x1, x2] (.inl i :: .inr (.inr r) :: st) M ↔ zread fX8 0 r M i (fun v => uX8_goesBy R 16 [x0, x1, x2] (.inl v :: st) M) := zU_step dX8_goesBy_15 (Or.inl rfl)
theorem dX8_goesBy_16 : decode cX8_goesBy 16 = .ok (.iload_n 1, 1) := by decide +kernel
theorem rX8_goesBy_16 {R : zP} {x0 x2 : Option zV} {st : List zV} {M : zM} {a : Int} : uX8_goesBy R 16 [x0, some (.inl a), x2] st M ↔ uX8_goesBy R 17 [x0, some (.inl a), x2] (.inl a :: st) M := zU_step dX8_goesBy_16 (Or.inl rfl)
theorem dX8_goesBy_17 : decode cX8_goesBy 17 = .ok (.if_icmp .ne 56, 3) := by decide +kernel
theorem rX8_goesBy_17 {R : zP} {x0 x1 x2 : Option zV} {st : List zV} {M : zM} {a b : Int} : uX8_goesBy R 17 [x0, x1, x2] (.inl b :: .inl a :: st) M ↔ ((zIR a ∧ zIR b) ∧ if a ≠ b then uX8_goesBy R 73 [x0, x1, x2] st M else uX8_goesBy R 20 [x0, x1, x2] st M) := Iff.trans (zU_step dX8_goesBy_17 (Or.inl rfl)) ⟨fun h => ⟨⟨h.1.1, h.1.2.1⟩, (zite (c := a ≠ b)).mpr h.2⟩, fun h => ⟨⟨h.1.1, h.1.2, by decide⟩, (zite (c := a ≠ b)).mp h.2⟩⟩
theorem dX8_goesBy_20 : decode cX8_goesBy 20 = .ok (.aload_n 0, 1) := by decide +kernel
theorem rX8_goesBy_20 {R : zP} {x1 x2 : Option zV} {st : List zV} {M : zM} {a : Nat} : uX8_goesBy R 20 [some (.inr (.inr a)), x1, x2] st M ↔ uX8_goesBy R 21 [some (.inr (.inr a)), x1, x2] (.inr (.inr a) :: st) M := zU_step dX8_goesBy_20 (Or.inl rfl)
theorem dX8_goesBy_21 : decode cX8_goesBy 21 = .ok (.getfield 40, 3) := by decide +kernel
theorem rX8_goesBy_21 {R : zP} {x0 x1 x2 : Option zV} {st : List zV} {M : zM} {r : Nat} : uX8_goesBy R 21 [x0, x1, x2] (.inr (.inr r) :: st) M ↔ zgetx fX8 40 r M (fun v => uX8_goesBy R 24 [x0, x1, x2] (v :: st) M) := zU_step dX8_goesBy_21 (Or.inl rfl)
theorem dX8_goesBy_24 : decode cX8_goesBy 24 = .ok (.iload_n 2, 1) := by decide +kernel
theorem rX8_goesBy_24 {R : zP} {x0 x1 : Option zV} {st : List zV} {M : zM} {a : Int} : uX8_goesBy R 24 [x0, x1, some (.inl a)] st M ↔ uX8_goesBy R 25 [x0, x1, some (.inl a)] (.inl a :: st) M := zU_step dX8_goesBy_24 (Or.inl rfl)
theorem dX8_goesBy_25 : decode cX8_goesBy 25 = .ok (.iaload, 1) := by decide +kernel
theorem rX8_goesBy_25 {R : zP} {x0 x1 x2 : Option zV} {st : List zV} {M : zM} {i : Int} {r : Nat} : uX8_goesBy R 25 [x0, x1, x2] (.inl i :: .inr (.inr r) :: st) M ↔ zread fX8 0 r M i (fun v => uX8_goesBy R 26 [x0, x1, x2] (.inl v :: st) M) := zU_step dX8_goesBy_25 (Or.inl rfl)
theorem dX8_goesBy_26 : decode cX8_goesBy 26 = .ok (.aload_n 0, 1) := by decide +kernel
theorem rX8_goesBy_26 {R : zP} {x1 x2 : Option zV} {st : List zV} {M : zM} {a : Nat} : uX8_goesBy R 26 [some (.inr (.inr a)), x1, x2] st M ↔ uX8_goesBy R 27 [some (.inr (.inr a)), x1, x2] (.inr (.inr a) :: st) M := zU_step dX8_goesBy_26 (Or.inl rfl)
theorem dX8_goesBy_27 : decode cX8_goesBy 27 = .ok (.getfield 127, 3) := by decide +kernel
theorem rX8_goesBy_27 {R : zP} {x0 x1 x2 : Option zV} {st : List zV} {M : zM} {r : Nat} : uX8_goesBy R 27 [x0, x1, x2] (.inr (.inr r) :: st) M ↔ zgetx fX8 127 r M (fun v => uX8_goesBy R 30 [x0, x1, x2] (v :: st) M) := zU_step dX8_goesBy_27 (Or.inl rfl)
theorem dX8_goesBy_30 : decode cX8_goesBy 30 = .ok (.if_icmp .ge 43, 3) := by decide +kernel
theorem rX8_goesBy_30 {R : zP} {x0 x1 x2 : Option zV} {st : List zV} {M : zM} {a b : Int} : uX8_goesBy R 30 [x0, x1, x2] (.inl b :: .inl a :: st) M ↔ ((zIR a ∧ zIR b) ∧ if b ≤ a then uX8_goesBy R 73 [x0, x1, x2] st M else uX8_goesBy R 33 [x0, x1, x2] st M) := Iff.trans (zU_step dX8_goesBy_30 (Or.inl rfl)) ⟨fun h => ⟨⟨h.1.1, h.1.2.1⟩, (zite (c := b ≤ a)).mpr h.2⟩, fun h => ⟨⟨h.1.1, h.1.2, by decide⟩, (zite (c := b ≤ a)).mp h.2⟩⟩
theorem dX8_goesBy_33 : decode cX8_goesBy 33 = .ok (.aload_n 0, 1) := by decide +kernel
theorem rX8_goesBy_33 {R : zP} {x1 x2 : Option zV} {st : List zV} {M : zM} {a : Nat} : uX8_goesBy R 33 [some (.inr (.inr a)), x1, x2] st M ↔ uX8_goesBy R 34 [some (.inr (.inr a)), x1, x2] (.inr (.inr a) :: st) M := zU_step dX8_goesBy_33 (Or.inl rfl)
theorem dX8_goesBy_34 : decode cX8_goesBy 34 = .ok (.getfield 43, 3) := by decide +kernel
theorem rX8_goesBy_34 {R : zP} {x0 x1 x2 : Option zV} {st : List zV} {M : zM} {r : Nat} : uX8_goesBy R 34 [x0, x1, x2] (.inr (.inr r) :: st) M ↔ zgetx fX8 43 r M (fun v => uX8_goesBy R 37 [x0, x1, x2] (v :: st) M) := zU_step dX8_goesBy_34 (Or.inl rfl)
theorem dX8_goesBy_37 : decode cX8_goesBy 37 = .ok (.iload_n 2, 1) := by decide +kernel
theorem rX8_goesBy_37 {R : zP} {x0 x1 : Option zV} {st : List zV} {M : zM} {a : Int} : uX8_goesBy R 37 [x0, x1, some (.inl a)] st M ↔ uX8_goesBy R 38 [x0, x1, some (.inl a)] (.inl a :: st) M := zU_step dX8_goesBy_37 (Or.inl rfl)
theorem dX8_goesBy_38 : decode cX8_goesBy 38 = .ok (.iaload, 1) := by decide +kernel
theorem rX8_goesBy_38 {R : zP} {x0 x1 x2 : Option zV} {st : List zV} {M : zM} {i : Int} {r : Nat} : uX8_goesBy R 38 [x0, x1, x2] (.inl i :: .inr (.inr r) :: st) M ↔ zread fX8 0 r M i (fun v => uX8_goesBy R 39 [x0, x1, x2] (.inl v :: st) M) := zU_step dX8_goesBy_38 (Or.inl rfl)
theorem dX8_goesBy_39 : decode cX8_goesBy 39 = .ok (.aload_n 0, 1) := by decide +kernel
theorem rX8_goesBy_39 {R : zP} {x1 x2 : Option zV} {st : List zV} {M : zM} {a : Nat} : uX8_goesBy R 39 [some (.inr (.inr a)), x1, x2] st M ↔ uX8_goesBy R 40 [some (.inr (.inr a)), x1, x2] (.inr (.inr a) :: st) M := zU_step dX8_goesBy_39 (Or.inl rfl)
theorem dX8_goesBy_40 : decode cX8_goesBy 40 = .ok (.getfield 131, 3) := by decide +kernel
theorem rX8_goesBy_40 {R : zP} {x0 x1 x2 : Option zV} {st : List zV} {M : zM} {r : Nat} : uX8_goesBy R 40 [x0, x1, x2] (.inr (.inr r) :: st) M ↔ zgetx fX8 131 r M (fun v => uX8_goesBy R 43 [x0, x1, x2] (v :: st) M) := zU_step dX8_goesBy_40 (Or.inl rfl)
theorem dX8_goesBy_43 : decode cX8_goesBy 43 = .ok (.if_icmp .ge 30, 3) := by decide +kernel
theorem rX8_goesBy_43 {R : zP} {x0 x1 x2 : Option zV} {st : List zV} {M : zM} {a b : Int} : uX8_goesBy R 43 [x0, x1, x2] (.inl b :: .inl a :: st) M ↔ ((zIR a ∧ zIR b) ∧ if b ≤ a then uX8_goesBy R 73 [x0, x1, x2] st M else uX8_goesBy R 46 [x0, x1, x2] st M) := Iff.trans (zU_step dX8_goesBy_43 (Or.inl rfl)) ⟨fun h => ⟨⟨h.1.1, h.1.2.1⟩, (zite (c := b ≤ a)).mpr h.2⟩, fun h => ⟨⟨h.1.1, h.1.2, by decide⟩, (zite (c := b ≤ a)).mp h.2⟩⟩
theorem dX8_goesBy_46 : decode cX8_goesBy 46 = .ok (.aload_n 0, 1) := by decide +kernel
theorem rX8_goesBy_46 {R : zP} {x1 x2 : Option zV} {st : List zV} {M : zM} {a : Nat} : uX8_goesBy R 46 [some (.inr (.inr a)), x1, x2] st M ↔ uX8_goesBy R 47 [some (.inr (.inr a)), x1, x2] (.inr (.inr a) :: st) M := zU_step dX8_goesBy_46 (Or.inl rfl)
theorem dX8_goesBy_47 : decode cX8_goesBy 47 = .ok (.getfield 181, 3) := by decide +kernel
theorem rX8_goesBy_47 {R : zP} {x0 x1 x2 : Option zV} {st : List zV} {M : zM} {r : Nat} : uX8_goesBy R 47 [x0, x1, x2] (.inr (.inr r) :: st) M ↔ zgetx fX8 181 r M (fun v => uX8_goesBy R 50 [x0, x1, x2] (v :: st) M) := zU_step dX8_goesBy_47 (Or.inl rfl)
theorem dX8_goesBy_50 : decode cX8_goesBy 50 = .ok (.iload_n 2, 1) := by decide +kernel
theorem rX8_goesBy_50 {R : zP} {x0 x1 : Option zV} {st : List zV} {M : zM} {a : Int} : uX8_goesBy R 50 [x0, x1, some (.inl a)] st M ↔ uX8_goesBy R 51 [x0, x1, some (.inl a)] (.inl a :: st) M := zU_step dX8_goesBy_50 (Or.inl rfl)
theorem dX8_goesBy_51 : decode cX8_goesBy 51 = .ok (.invokestatic 187, 3) := by decide +kernel
theorem rX8_goesBy_51 {R : zP} {x0 x1 x2 : Option zV} {st : List zV} {M : zM} {a0 a1 : zV} : uX8_goesBy R 51 [x0, x1, x2] (a1 :: a0 :: st) M ↔ (st.length ≤ 4 ∧ zcv tX8_isIn [a0, a1] M (fun v M => uX8_goesBy R 54 [x0, x1, x2] (v :: st) M)) := Iff.trans (zU_step dX8_goesBy_51 (Or.inl rfl)) ⟨fun h => ⟨h.2.1, zcv_of h.2.2⟩, fun h => ⟨rfl, h.1, zcv_to h.2⟩⟩
theorem dX8_goesBy_54 : decode cX8_goesBy 54 = .ok (.ifCond .ne 19, 3) := by decide +kernel
theorem rX8_goesBy_54 {R : zP} {x0 x1 x2 : Option zV} {st : List zV} {M : zM} {a : Int} : uX8_goesBy R 54 [x0, x1, x2] (.inl a :: st) M ↔ (zIR a ∧ if a ≠ 0 then uX8_goesBy R 73 [x0, x1, x2] st M else uX8_goesBy R 57 [x0, x1, x2] st M) := Iff.trans (zU_step dX8_goesBy_54 (Or.inl rfl)) ⟨fun h => ⟨h.1.1, (zite (c := a ≠ 0)).mpr h.2⟩, fun h => ⟨⟨h.1, by decide⟩, (zite (c := a ≠ 0)).mp h.2⟩⟩
theorem dX8_goesBy_57 : decode cX8_goesBy 57 = .ok (.aload_n 0, 1) := by decide +kernel
theorem rX8_goesBy_57 {R : zP} {x1 x2 : Option zV} {st : List zV} {M : zM} {a : Nat} : uX8_goesBy R 57 [some (.inr (.inr a)), x1, x2] st M ↔ uX8_goesBy R 58 [some (.inr (.inr a)), x1, x2] (.inr (.inr a) :: st) M := zU_step dX8_goesBy_57 (Or.inl rfl)
theorem dX8_goesBy_58 : decode cX8_goesBy 58 = .ok (.aload_n 0, 1) := by decide +kernel
theorem rX8_goesBy_58 {R : zP} {x1 x2 : Option zV} {st : List zV} {M : zM} {a : Nat} : uX8_goesBy R 58 [some (.inr (.inr a)), x1, x2] st M ↔ uX8_goesBy R 59 [some (.inr (.inr a)), x1, x2] (.inr (.inr a) :: st) M := zU_step dX8_goesBy_58 (Or.inl rfl)
theorem dX8_goesBy_59 : decode cX8_goesBy 59 = .ok (.getfield 40, 3) := by decide +kernel
theorem rX8_goesBy_59 {R : zP} {x0 x1 x2 : Option zV} {st : List zV} {M : zM} {r : Nat} : uX8_goesBy R 59 [x0, x1, x2] (.inr (.inr r) :: st) M ↔ zgetx fX8 40 r M (fun v => uX8_goesBy R 62 [x0, x1, x2] (v :: st) M) := zU_step dX8_goesBy_59 (Or.inl rfl)
theorem dX8_goesBy_62 : decode cX8_goesBy 62 = .ok (.iload_n 2, 1) := by decide +kernel
theorem rX8_goesBy_62 {R : zP} {x0 x1 : Option zV} {st : List zV} {M : zM} {a : Int} : uX8_goesBy R 62 [x0, x1, some (.inl a)] st M ↔ uX8_goesBy R 63 [x0, x1, some (.inl a)] (.inl a :: st) M := zU_step dX8_goesBy_62 (Or.inl rfl)
theorem dX8_goesBy_63 : decode cX8_goesBy 63 = .ok (.iaload, 1) := by decide +kernel
theorem rX8_goesBy_63 {R : zP} {x0 x1 x2 : Option zV} {st : List zV} {M : zM} {i : Int} {r : Nat} : uX8_goesBy R 63 [x0, x1, x2] (.inl i :: .inr (.inr r) :: st) M ↔ zread fX8 0 r M i (fun v => uX8_goesBy R 64 [x0, x1, x2] (.inl v :: st) M) := zU_step dX8_goesBy_63 (Or.inl rfl)
theorem dX8_goesBy_64 : decode cX8_goesBy 64 = .ok (.aload_n 0, 1) := by decide +kernel
theorem rX8_goesBy_64 {R : zP} {x1 x2 : Option zV} {st : List zV} {M : zM} {a : Nat} : uX8_goesBy R 64 [some (.inr (.inr a)), x1, x2] st M ↔ uX8_goesBy R 65 [some (.inr (.inr a)), x1, x2] (.inr (.inr a) :: st) M := zU_step dX8_goesBy_64 (Or.inl rfl)
theorem dX8_goesBy_65 : decode cX8_goesBy 65 = .ok (.getfield 43, 3) := by decide +kernel
theorem rX8_goesBy_65 {R : zP} {x0 x1 x2 : Option zV} {st : List zV} {M : zM} {r : Nat} : uX8_goesBy R 65 [x0, x1, x2] (.inr (.inr r) :: st) M ↔ zgetx fX8 43 r M (fun v => uX8_goesBy R 68 [x0, x1, x2] (v :: st) M) := zU_step dX8_goesBy_65 (Or.inl rfl)
theorem dX8_goesBy_68 : decode cX8_goesBy 68 = .ok (.iload_n 2, 1) := by decide +kernel
theorem rX8_goesBy_68 {R : zP} {x0 x1 : Option zV} {st : List zV} {M : zM} {a : Int} : uX8_goesBy R 68 [x0, x1, some (.inl a)] st M ↔ uX8_goesBy R 69 [x0, x1, some (.inl a)] (.inl a :: st) M := zU_step dX8_goesBy_68 (Or.inl rfl)
theorem dX8_goesBy_69 : decode cX8_goesBy 69 = .ok (.iaload, 1) := by decide +kernel
theorem rX8_goesBy_69 {R : zP} {x0 x1 x2 : Option zV} {st : List zV} {M : zM} {i : Int} {r : Nat} : uX8_goesBy R 69 [x0, x1, x2] (.inl i :: .inr (.inr r) :: st) M ↔ zread fX8 0 r M i (fun v => uX8_goesBy R 70 [x0, x1, x2] (.inl v :: st) M) := zU_step dX8_goesBy_69 (Or.inl rfl)
theorem dX8_goesBy_70 : decode cX8_goesBy 70 = .ok (.invokevirtual 191, 3) := by decide +kernel
theorem rX8_goesBy_70 {R : zP} {x0 x1 x2 : Option zV} {st : List zV} {M : zM} {a0 a1 a2 : zV} : uX8_goesBy R 70 [x0, x1, x2] (a2 :: a1 :: a0 :: st) M ↔ (st.length ≤ 4 ∧ zcn (zv 8 tX8_drinks) [a0, a1, a2] M (fun M => uX8_goesBy R 73 [x0, x1, x2] st M)) := Iff.trans (zU_step dX8_goesBy_70 (Or.inl rfl)) ⟨fun h => ⟨h.2.1, zcn_of h.2.2⟩, fun h => ⟨rfl, h.1, zcn_to h.2⟩⟩
theorem dX8_goesBy_73 : decode cX8_goesBy 73 = .ok (.iinc 2 1, 3) := by decide +kernel
theorem rX8_goesBy_73 {R : zP} {x0 : Option zV} {st : List zV} {M : zM} {a : Int} {y : Int} : uX8_goesBy R 73 [x0, some (.inl y), some (.inl a)] st M ↔ uX8_goesBy R 76 [x0, some (.inl y), some (.inl (a + (1)))] st M := Iff.trans (zU_step dX8_goesBy_73 (Or.inl rfl)) ⟨fun h => h.2, fun h => ⟨show 2 < 3 by decide, h⟩⟩
theorem rX8_goesBy_73z {R : zP} {x0 x1 : Option zV} {st : List zV} {M : zM} {a : Int} : uX8_goesBy R 73 [x0, x1, some (.inl a)] st M ↔ uX8_goesBy R 76 [x0, zkeep x1, some (.inl (a + (1)))] st M := Iff.trans (zU_step dX8_goesBy_73 (Or.inl rfl)) ⟨fun h => h.2, fun h => ⟨show 2 < 3 by decide, h⟩⟩
theorem dX8_goesBy_76 : decode cX8_goesBy 76 = .ok (.goto (-74), 3) := by decide +kernel
theorem rX8_goesBy_76 {R : zP} {x0 x1 x2 : Option zV} {st : List zV} {M : zM} : uX8_goesBy R 76 [x0, x1, x2] st M ↔ uX8_goesBy R 2 [x0, x1, x2] st M := Iff.trans (zU_step dX8_goesBy_76 (Or.inl rfl)) ⟨fun h => h.2, fun h => ⟨by decide, h⟩⟩
theorem dX8_goesBy_79 : decode cX8_goesBy 79 = .ok (.iconst 0, 1) := by decide +kernel
theorem rX8_goesBy_79 {R : zP} {x0 x1 x2 : Option zV} {st : List zV} {M : zM} : uX8_goesBy R 79 [x0, x1, x2] st M ↔ uX8_goesBy R 80 [x0, x1, x2] (.inl (0) :: st) M := zU_step dX8_goesBy_79 (Or.inl rfl)
theorem dX8_goesBy_80 : decode cX8_goesBy 80 = .ok (.istore_n 2, 1) := by decide +kernel
theorem rX8_goesBy_80 {R : zP} {x0 x2 : Option zV} {st : List zV} {M : zM} {a : Int} {y : Int} : uX8_goesBy R 80 [x0, some (.inl y), x2] (.inl a :: st) M ↔ uX8_goesBy R 81 [x0, some (.inl y), some (.inl a)] st M := Iff.trans (zU_step dX8_goesBy_80 (Or.inl rfl)) ⟨fun h => h.2, fun h => ⟨show 2 < 3 by decide, h⟩⟩
theorem rX8_goesBy_80z {R : zP} {x0 x1 x2 : Option zV} {st : List zV} {M : zM} {a : Int} : uX8_goesBy R 80 [x0, x1, x2] (.inl a :: st) M ↔ uX8_goesBy R 81 [x0, zkeep x1, some (.inl a)] st M := Iff.trans (zU_step dX8_goesBy_80 (Or.inl rfl)) ⟨fun h => h.2, fun h => ⟨show 2 < 3 by decide, h⟩⟩
theorem dX8_goesBy_81 : decode cX8_goesBy 81 = .ok (.iload_n 2, 1) := by decide +kernel
theorem rX8_goesBy_81 {R : zP} {x0 x1 : Option zV} {st : List zV} {M : zM} {a : Int} : uX8_goesBy R 81 [x0, x1, some (.inl a)] st M ↔ uX8_goesBy R 82 [x0, x1, some (.inl a)] (.inl a :: st) M := zU_step dX8_goesBy_81 (Or.inl rfl)
theorem dX8_goesBy_82 : decode cX8_goesBy 82 = .ok (.iconst 4, 1) := by decide +kernel
theorem rX8_goesBy_82 {R : zP} {x0 x1 x2 : Option zV} {st : List zV} {M : zM} : uX8_goesBy R 82 [x0, x1, x2] st M ↔ uX8_goesBy R 83 [x0, x1, x2] (.inl (4) :: st) M := zU_step dX8_goesBy_82 (Or.inl rfl)
theorem dX8_goesBy_83 : decode cX8_goesBy 83 = .ok (.aload_n 0, 1) := by decide +kernel
theorem rX8_goesBy_83 {R : zP} {x1 x2 : Option zV} {st : List zV} {M : zM} {a : Nat} : uX8_goesBy R 83 [some (.inr (.inr a)), x1, x2] st M ↔ uX8_goesBy R 84 [some (.inr (.inr a)), x1, x2] (.inr (.inr a) :: st) M := zU_step dX8_goesBy_83 (Or.inl rfl)
theorem dX8_goesBy_84 : decode cX8_goesBy 84 = .ok (.getfield 127, 3) := by decide +kernel
theorem rX8_goesBy_84 {R : zP} {x0 x1 x2 : Option zV} {st : List zV} {M : zM} {r : Nat} : uX8_goesBy R 84 [x0, x1, x2] (.inr (.inr r) :: st) M ↔ zgetx fX8 127 r M (fun v => uX8_goesBy R 87 [x0, x1, x2] (v :: st) M) := zU_step dX8_goesBy_84 (Or.inl rfl)
theorem dX8_goesBy_87 : decode cX8_goesBy 87 = .ok (.imul, 1) := by decide +kernel
theorem rX8_goesBy_87 {R : zP} {x0 x1 x2 : Option zV} {st : List zV} {M : zM} {a b : Int} : uX8_goesBy R 87 [x0, x1, x2] (.inl b :: .inl a :: st) M ↔ uX8_goesBy R 88 [x0, x1, x2] (.inl (a * b) :: st) M := zU_step dX8_goesBy_87 (Or.inl rfl)
theorem dX8_goesBy_88 : decode cX8_goesBy 88 = .ok (.if_icmp .ge 60, 3) := by decide +kernel
theorem rX8_goesBy_88 {R : zP} {x0 x1 x2 : Option zV} {st : List zV} {M : zM} {a b : Int} : uX8_goesBy R 88 [x0, x1, x2] (.inl b :: .inl a :: st) M ↔ ((zIR a ∧ zIR b) ∧ if b ≤ a then uX8_goesBy R 148 [x0, x1, x2] st M else uX8_goesBy R 91 [x0, x1, x2] st M) := Iff.trans (zU_step dX8_goesBy_88 (Or.inl rfl)) ⟨fun h => ⟨⟨h.1.1, h.1.2.1⟩, (zite (c := b ≤ a)).mpr h.2⟩, fun h => ⟨⟨h.1.1, h.1.2, by decide⟩, (zite (c := b ≤ a)).mp h.2⟩⟩
theorem dX8_goesBy_91 : decode cX8_goesBy 91 = .ok (.aload_n 0, 1) := by decide +kernel
theorem rX8_goesBy_91 {R : zP} {x1 x2 : Option zV} {st : List zV} {M : zM} {a : Nat} : uX8_goesBy R 91 [some (.inr (.inr a)), x1, x2] st M ↔ uX8_goesBy R 92 [some (.inr (.inr a)), x1, x2] (.inr (.inr a) :: st) M := zU_step dX8_goesBy_91 (Or.inl rfl)
theorem dX8_goesBy_92 : decode cX8_goesBy 92 = .ok (.getfield 61, 3) := by decide +kernel
theorem rX8_goesBy_92 {R : zP} {x0 x1 x2 : Option zV} {st : List zV} {M : zM} {r : Nat} : uX8_goesBy R 92 [x0, x1, x2] (.inr (.inr r) :: st) M ↔ zgetx fX8 61 r M (fun v => uX8_goesBy R 95 [x0, x1, x2] (v :: st) M) := zU_step dX8_goesBy_92 (Or.inl rfl)
theorem dX8_goesBy_95 : decode cX8_goesBy 95 = .ok (.bipush 32, 2) := by decide +kernel
theorem rX8_goesBy_95 {R : zP} {x0 x1 x2 : Option zV} {st : List zV} {M : zM} : uX8_goesBy R 95 [x0, x1, x2] st M ↔ uX8_goesBy R 97 [x0, x1, x2] (.inl (32) :: st) M := Iff.trans (zU_step dX8_goesBy_95 (Or.inl rfl)) ⟨fun h => h.2, fun h => ⟨by decide, h⟩⟩
theorem dX8_goesBy_97 : decode cX8_goesBy 97 = .ok (.iload_n 1, 1) := by decide +kernel
theorem rX8_goesBy_97 {R : zP} {x0 x2 : Option zV} {st : List zV} {M : zM} {a : Int} : uX8_goesBy R 97 [x0, some (.inl a), x2] st M ↔ uX8_goesBy R 98 [x0, some (.inl a), x2] (.inl a :: st) M := zU_step dX8_goesBy_97 (Or.inl rfl)
theorem dX8_goesBy_98 : decode cX8_goesBy 98 = .ok (.imul, 1) := by decide +kernel
theorem rX8_goesBy_98 {R : zP} {x0 x1 x2 : Option zV} {st : List zV} {M : zM} {a b : Int} : uX8_goesBy R 98 [x0, x1, x2] (.inl b :: .inl a :: st) M ↔ uX8_goesBy R 99 [x0, x1, x2] (.inl (a * b) :: st) M := zU_step dX8_goesBy_98 (Or.inl rfl)
theorem dX8_goesBy_99 : decode cX8_goesBy 99 = .ok (.iload_n 2, 1) := by decide +kernel
theorem rX8_goesBy_99 {R : zP} {x0 x1 : Option zV} {st : List zV} {M : zM} {a : Int} : uX8_goesBy R 99 [x0, x1, some (.inl a)] st M ↔ uX8_goesBy R 100 [x0, x1, some (.inl a)] (.inl a :: st) M := zU_step dX8_goesBy_99 (Or.inl rfl)
theorem dX8_goesBy_100 : decode cX8_goesBy 100 = .ok (.iadd, 1) := by decide +kernel
theorem rX8_goesBy_100 {R : zP} {x0 x1 x2 : Option zV} {st : List zV} {M : zM} {a b : Int} : uX8_goesBy R 100 [x0, x1, x2] (.inl b :: .inl a :: st) M ↔ uX8_goesBy R 101 [x0, x1, x2] (.inl (a + b) :: st) M := zU_step dX8_goesBy_100 (Or.inl rfl)
theorem dX8_goesBy_101 : decode cX8_goesBy 101 = .ok (.aload_n 0, 1) := by decide +kernel
theorem rX8_goesBy_101 {R : zP} {x1 x2 : Option zV} {st : List zV} {M : zM} {a : Nat} : uX8_goesBy R 101 [some (.inr (.inr a)), x1, x2] st M ↔ uX8_goesBy R 102 [some (.inr (.inr a)), x1, x2] (.inr (.inr a) :: st) M := zU_step dX8_goesBy_101 (Or.inl rfl)
theorem dX8_goesBy_102 : decode cX8_goesBy 102 = .ok (.getfield 46, 3) := by decide +kernel
theorem rX8_goesBy_102 {R : zP} {x0 x1 x2 : Option zV} {st : List zV} {M : zM} {r : Nat} : uX8_goesBy R 102 [x0, x1, x2] (.inr (.inr r) :: st) M ↔ zgetx fX8 46 r M (fun v => uX8_goesBy R 105 [x0, x1, x2] (v :: st) M) := zU_step dX8_goesBy_102 (Or.inl rfl)
theorem dX8_goesBy_105 : decode cX8_goesBy 105 = .ok (.iload_n 2, 1) := by decide +kernel
theorem rX8_goesBy_105 {R : zP} {x0 x1 : Option zV} {st : List zV} {M : zM} {a : Int} : uX8_goesBy R 105 [x0, x1, some (.inl a)] st M ↔ uX8_goesBy R 106 [x0, x1, some (.inl a)] (.inl a :: st) M := zU_step dX8_goesBy_105 (Or.inl rfl)
theorem dX8_goesBy_106 : decode cX8_goesBy 106 = .ok (.iaload, 1) := by decide +kernel
theorem rX8_goesBy_106 {R : zP} {x0 x1 x2 : Option zV} {st : List zV} {M : zM} {i : Int} {r : Nat} : uX8_goesBy R 106 [x0, x1, x2] (.inl i :: .inr (.inr r) :: st) M ↔ zread fX8 0 r M i (fun v => uX8_goesBy R 107 [x0, x1, x2] (.inl v :: st) M) := zU_step dX8_goesBy_106 (Or.inl rfl)
theorem dX8_goesBy_107 : decode cX8_goesBy 107 = .ok (.iastore, 1) := by decide +kernel
theorem rX8_goesBy_107 {R : zP} {x0 x1 x2 : Option zV} {st : List zV} {M : zM} {i v : Int} {r : Nat} : uX8_goesBy R 107 [x0, x1, x2] (.inl v :: .inl i :: .inr (.inr r) :: st) M ↔ zwrite 0 r i (uX8_goesBy R 108 [x0, x1, x2] st (zup M r i v)) := zU_step dX8_goesBy_107 (Or.inl rfl)
theorem dX8_goesBy_108 : decode cX8_goesBy 108 = .ok (.aload_n 0, 1) := by decide +kernel
theorem rX8_goesBy_108 {R : zP} {x1 x2 : Option zV} {st : List zV} {M : zM} {a : Nat} : uX8_goesBy R 108 [some (.inr (.inr a)), x1, x2] st M ↔ uX8_goesBy R 109 [some (.inr (.inr a)), x1, x2] (.inr (.inr a) :: st) M := zU_step dX8_goesBy_108 (Or.inl rfl)
theorem dX8_goesBy_109 : decode cX8_goesBy 109 = .ok (.getfield 64, 3) := by decide +kernel
theorem rX8_goesBy_109 {R : zP} {x0 x1 x2 : Option zV} {st : List zV} {M : zM} {r : Nat} : uX8_goesBy R 109 [x0, x1, x2] (.inr (.inr r) :: st) M ↔ zgetx fX8 64 r M (fun v => uX8_goesBy R 112 [x0, x1, x2] (v :: st) M) := zU_step dX8_goesBy_109 (Or.inl rfl)
theorem dX8_goesBy_112 : decode cX8_goesBy 112 = .ok (.bipush 32, 2) := by decide +kernel
theorem rX8_goesBy_112 {R : zP} {x0 x1 x2 : Option zV} {st : List zV} {M : zM} : uX8_goesBy R 112 [x0, x1, x2] st M ↔ uX8_goesBy R 114 [x0, x1, x2] (.inl (32) :: st) M := Iff.trans (zU_step dX8_goesBy_112 (Or.inl rfl)) ⟨fun h => h.2, fun h => ⟨by decide, h⟩⟩
theorem dX8_goesBy_114 : decode cX8_goesBy 114 = .ok (.iload_n 1, 1) := by decide +kernel
theorem rX8_goesBy_114 {R : zP} {x0 x2 : Option zV} {st : List zV} {M : zM} {a : Int} : uX8_goesBy R 114 [x0, some (.inl a), x2] st M ↔ uX8_goesBy R 115 [x0, some (.inl a), x2] (.inl a :: st) M := zU_step dX8_goesBy_114 (Or.inl rfl)
theorem dX8_goesBy_115 : decode cX8_goesBy 115 = .ok (.imul, 1) := by decide +kernel
theorem rX8_goesBy_115 {R : zP} {x0 x1 x2 : Option zV} {st : List zV} {M : zM} {a b : Int} : uX8_goesBy R 115 [x0, x1, x2] (.inl b :: .inl a :: st) M ↔ uX8_goesBy R 116 [x0, x1, x2] (.inl (a * b) :: st) M := zU_step dX8_goesBy_115 (Or.inl rfl)
theorem dX8_goesBy_116 : decode cX8_goesBy 116 = .ok (.iload_n 2, 1) := by decide +kernel
theorem rX8_goesBy_116 {R : zP} {x0 x1 : Option zV} {st : List zV} {M : zM} {a : Int} : uX8_goesBy R 116 [x0, x1, some (.inl a)] st M ↔ uX8_goesBy R 117 [x0, x1, some (.inl a)] (.inl a :: st) M := zU_step dX8_goesBy_116 (Or.inl rfl)
theorem dX8_goesBy_117 : decode cX8_goesBy 117 = .ok (.iadd, 1) := by decide +kernel
theorem rX8_goesBy_117 {R : zP} {x0 x1 x2 : Option zV} {st : List zV} {M : zM} {a b : Int} : uX8_goesBy R 117 [x0, x1, x2] (.inl b :: .inl a :: st) M ↔ uX8_goesBy R 118 [x0, x1, x2] (.inl (a + b) :: st) M := zU_step dX8_goesBy_117 (Or.inl rfl)
theorem dX8_goesBy_118 : decode cX8_goesBy 118 = .ok (.aload_n 0, 1) := by decide +kernel
theorem rX8_goesBy_118 {R : zP} {x1 x2 : Option zV} {st : List zV} {M : zM} {a : Nat} : uX8_goesBy R 118 [some (.inr (.inr a)), x1, x2] st M ↔ uX8_goesBy R 119 [some (.inr (.inr a)), x1, x2] (.inr (.inr a) :: st) M := zU_step dX8_goesBy_118 (Or.inl rfl)
theorem dX8_goesBy_119 : decode cX8_goesBy 119 = .ok (.getfield 49, 3) := by decide +kernel
theorem rX8_goesBy_119 {R : zP} {x0 x1 x2 : Option zV} {st : List zV} {M : zM} {r : Nat} : uX8_goesBy R 119 [x0, x1, x2] (.inr (.inr r) :: st) M ↔ zgetx fX8 49 r M (fun v => uX8_goesBy R 122 [x0, x1, x2] (v :: st) M) := zU_step dX8_goesBy_119 (Or.inl rfl)
theorem dX8_goesBy_122 : decode cX8_goesBy 122 = .ok (.iload_n 2, 1) := by decide +kernel
theorem rX8_goesBy_122 {R : zP} {x0 x1 : Option zV} {st : List zV} {M : zM} {a : Int} : uX8_goesBy R 122 [x0, x1, some (.inl a)] st M ↔ uX8_goesBy R 123 [x0, x1, some (.inl a)] (.inl a :: st) M := zU_step dX8_goesBy_122 (Or.inl rfl)
theorem dX8_goesBy_123 : decode cX8_goesBy 123 = .ok (.iaload, 1) := by decide +kernel
theorem rX8_goesBy_123 {R : zP} {x0 x1 x2 : Option zV} {st : List zV} {M : zM} {i : Int} {r : Nat} : uX8_goesBy R 123 [x0, x1, x2] (.inl i :: .inr (.inr r) :: st) M ↔ zread fX8 0 r M i (fun v => uX8_goesBy R 124 [x0, x1, x2] (.inl v :: st) M) := zU_step dX8_goesBy_123 (Or.inl rfl)
theorem dX8_goesBy_124 : decode cX8_goesBy 124 = .ok (.iastore, 1) := by decide +kernel
theorem rX8_goesBy_124 {R : zP} {x0 x1 x2 : Option zV} {st : List zV} {M : zM} {i v : Int} {r : Nat} : uX8_goesBy R 124 [x0, x1, x2] (.inl v :: .inl i :: .inr (.inr r) :: st) M ↔ zwrite 0 r i (uX8_goesBy R 125 [x0, x1, x2] st (zup M r i v)) := zU_step dX8_goesBy_124 (Or.inl rfl)
theorem dX8_goesBy_125 : decode cX8_goesBy 125 = .ok (.aload_n 0, 1) := by decide +kernel
theorem rX8_goesBy_125 {R : zP} {x1 x2 : Option zV} {st : List zV} {M : zM} {a : Nat} : uX8_goesBy R 125 [some (.inr (.inr a)), x1, x2] st M ↔ uX8_goesBy R 126 [some (.inr (.inr a)), x1, x2] (.inr (.inr a) :: st) M := zU_step dX8_goesBy_125 (Or.inl rfl)
theorem dX8_goesBy_126 : decode cX8_goesBy 126 = .ok (.getfield 67, 3) := by decide +kernel
theorem rX8_goesBy_126 {R : zP} {x0 x1 x2 : Option zV} {st : List zV} {M : zM} {r : Nat} : uX8_goesBy R 126 [x0, x1, x2] (.inr (.inr r) :: st) M ↔ zgetx fX8 67 r M (fun v => uX8_goesBy R 129 [x0, x1, x2] (v :: st) M) := zU_step dX8_goesBy_126 (Or.inl rfl)
theorem dX8_goesBy_129 : decode cX8_goesBy 129 = .ok (.bipush 32, 2) := by decide +kernel
theorem rX8_goesBy_129 {R : zP} {x0 x1 x2 : Option zV} {st : List zV} {M : zM} : uX8_goesBy R 129 [x0, x1, x2] st M ↔ uX8_goesBy R 131 [x0, x1, x2] (.inl (32) :: st) M := Iff.trans (zU_step dX8_goesBy_129 (Or.inl rfl)) ⟨fun h => h.2, fun h => ⟨by decide, h⟩⟩
theorem dX8_goesBy_131 : decode cX8_goesBy 131 = .ok (.iload_n 1, 1) := by decide +kernel
theorem rX8_goesBy_131 {R : zP} {x0 x2 : Option zV} {st : List zV} {M : zM} {a : Int} : uX8_goesBy R 131 [x0, some (.inl a), x2] st M ↔ uX8_goesBy R 132 [x0, some (.inl a), x2] (.inl a :: st) M := zU_step dX8_goesBy_131 (Or.inl rfl)
theorem dX8_goesBy_132 : decode cX8_goesBy 132 = .ok (.imul, 1) := by decide +kernel
theorem rX8_goesBy_132 {R : zP} {x0 x1 x2 : Option zV} {st : List zV} {M : zM} {a b : Int} : uX8_goesBy R 132 [x0, x1, x2] (.inl b :: .inl a :: st) M ↔ uX8_goesBy R 133 [x0, x1, x2] (.inl (a * b) :: st) M := zU_step dX8_goesBy_132 (Or.inl rfl)
theorem dX8_goesBy_133 : decode cX8_goesBy 133 = .ok (.iload_n 2, 1) := by decide +kernel
theorem rX8_goesBy_133 {R : zP} {x0 x1 : Option zV} {st : List zV} {M : zM} {a : Int} : uX8_goesBy R 133 [x0, x1, some (.inl a)] st M ↔ uX8_goesBy R 134 [x0, x1, some (.inl a)] (.inl a :: st) M := zU_step dX8_goesBy_133 (Or.inl rfl)
theorem dX8_goesBy_134 : decode cX8_goesBy 134 = .ok (.iadd, 1) := by decide +kernel
theorem rX8_goesBy_134 {R : zP} {x0 x1 x2 : Option zV} {st : List zV} {M : zM} {a b : Int} : uX8_goesBy R 134 [x0, x1, x2] (.inl b :: .inl a :: st) M ↔ uX8_goesBy R 135 [x0, x1, x2] (.inl (a + b) :: st) M := zU_step dX8_goesBy_134 (Or.inl rfl)
theorem dX8_goesBy_135 : decode cX8_goesBy 135 = .ok (.aload_n 0, 1) := by decide +kernel
theorem rX8_goesBy_135 {R : zP} {x1 x2 : Option zV} {st : List zV} {M : zM} {a : Nat} : uX8_goesBy R 135 [some (.inr (.inr a)), x1, x2] st M ↔ uX8_goesBy R 136 [some (.inr (.inr a)), x1, x2] (.inr (.inr a) :: st) M := zU_step dX8_goesBy_135 (Or.inl rfl)
theorem dX8_goesBy_136 : decode cX8_goesBy 136 = .ok (.getfield 52, 3) := by decide +kernel
theorem rX8_goesBy_136 {R : zP} {x0 x1 x2 : Option zV} {st : List zV} {M : zM} {r : Nat} : uX8_goesBy R 136 [x0, x1, x2] (.inr (.inr r) :: st) M ↔ zgetx fX8 52 r M (fun v => uX8_goesBy R 139 [x0, x1, x2] (v :: st) M) := zU_step dX8_goesBy_136 (Or.inl rfl)
theorem dX8_goesBy_139 : decode cX8_goesBy 139 = .ok (.iload_n 2, 1) := by decide +kernel
theorem rX8_goesBy_139 {R : zP} {x0 x1 : Option zV} {st : List zV} {M : zM} {a : Int} : uX8_goesBy R 139 [x0, x1, some (.inl a)] st M ↔ uX8_goesBy R 140 [x0, x1, some (.inl a)] (.inl a :: st) M := zU_step dX8_goesBy_139 (Or.inl rfl)
theorem dX8_goesBy_140 : decode cX8_goesBy 140 = .ok (.iaload, 1) := by decide +kernel
theorem rX8_goesBy_140 {R : zP} {x0 x1 x2 : Option zV} {st : List zV} {M : zM} {i : Int} {r : Nat} : uX8_goesBy R 140 [x0, x1, x2] (.inl i :: .inr (.inr r) :: st) M ↔ zread fX8 0 r M i (fun v => uX8_goesBy R 141 [x0, x1, x2] (.inl v :: st) M) := zU_step dX8_goesBy_140 (Or.inl rfl)
theorem dX8_goesBy_141 : decode cX8_goesBy 141 = .ok (.iastore, 1) := by decide +kernel
theorem rX8_goesBy_141 {R : zP} {x0 x1 x2 : Option zV} {st : List zV} {M : zM} {i v : Int} {r : Nat} : uX8_goesBy R 141 [x0, x1, x2] (.inl v :: .inl i :: .inr (.inr r) :: st) M ↔ zwrite 0 r i (uX8_goesBy R 142 [x0, x1, x2] st (zup M r i v)) := zU_step dX8_goesBy_141 (Or.inl rfl)
theorem dX8_goesBy_142 : decode cX8_goesBy 142 = .ok (.iinc 2 1, 3) := by decide +kernel
theorem rX8_goesBy_142 {R : zP} {x0 : Option zV} {st : List zV} {M : zM} {a : Int} {y : Int} : uX8_goesBy R 142 [x0, some (.inl y), some (.inl a)] st M ↔ uX8_goesBy R 145 [x0, some (.inl y), some (.inl (a + (1)))] st M := Iff.trans (zU_step dX8_goesBy_142 (Or.inl rfl)) ⟨fun h => h.2, fun h => ⟨show 2 < 3 by decide, h⟩⟩
theorem rX8_goesBy_142z {R : zP} {x0 x1 : Option zV} {st : List zV} {M : zM} {a : Int} : uX8_goesBy R 142 [x0, x1, some (.inl a)] st M ↔ uX8_goesBy R 145 [x0, zkeep x1, some (.inl (a + (1)))] st M := Iff.trans (zU_step dX8_goesBy_142 (Or.inl rfl)) ⟨fun h => h.2, fun h => ⟨show 2 < 3 by decide, h⟩⟩
theorem dX8_goesBy_145 : decode cX8_goesBy 145 = .ok (.goto (-64), 3) := by decide +kernel
theorem rX8_goesBy_145 {R : zP} {x0 x1 x2 : Option zV} {st : List zV} {M : zM} : uX8_goesBy R 145 [x0, x1, x2] st M ↔ uX8_goesBy R 81 [x0, x1, x2] st M := Iff.trans (zU_step dX8_goesBy_145 (Or.inl rfl)) ⟨fun h => h.2, fun h => ⟨by decide, h⟩⟩
theorem dX8_goesBy_148 : decode cX8_goesBy 148 = .ok (.iconst 0, 1) := by decide +kernel
theorem rX8_goesBy_148 {R : zP} {x0 x1 x2 : Option zV} {st : List zV} {M : zM} : uX8_goesBy R 148 [x0, x1, x2] st M ↔ uX8_goesBy R 149 [x0, x1, x2] (.inl (0) :: st) M := zU_step dX8_goesBy_148 (Or.inl rfl)
theorem dX8_goesBy_149 : decode cX8_goesBy 149 = .ok (.istore_n 2, 1) := by decide +kernel
theorem rX8_goesBy_149 {R : zP} {x0 x2 : Option zV} {st : List zV} {M : zM} {a : Int} {y : Int} : uX8_goesBy R 149 [x0, some (.inl y), x2] (.inl a :: st) M ↔ uX8_goesBy R 150 [x0, some (.inl y), some (.inl a)] st M := Iff.trans (zU_step dX8_goesBy_149 (Or.inl rfl)) ⟨fun h => h.2, fun h => ⟨show 2 < 3 by decide, h⟩⟩
theorem rX8_goesBy_149z {R : zP} {x0 x1 x2 : Option zV} {st : List zV} {M : zM} {a : Int} : uX8_goesBy R 149 [x0, x1, x2] (.inl a :: st) M ↔ uX8_goesBy R 150 [x0, zkeep x1, some (.inl a)] st M := Iff.trans (zU_step dX8_goesBy_149 (Or.inl rfl)) ⟨fun h => h.2, fun h => ⟨show 2 < 3 by decide, h⟩⟩
theorem dX8_goesBy_150 : decode cX8_goesBy 150 = .ok (.iload_n 2, 1) := by decide +kernel
theorem rX8_goesBy_150 {R : zP} {x0 x1 : Option zV} {st : List zV} {M : zM} {a : Int} : uX8_goesBy R 150 [x0, x1, some (.inl a)] st M ↔ uX8_goesBy R 151 [x0, x1, some (.inl a)] (.inl a :: st) M := zU_step dX8_goesBy_150 (Or.inl rfl)
theorem dX8_goesBy_151 : decode cX8_goesBy 151 = .ok (.aload_n 0, 1) := by decide +kernel
theorem rX8_goesBy_151 {R : zP} {x1 x2 : Option zV} {st : List zV} {M : zM} {a : Nat} : uX8_goesBy R 151 [some (.inr (.inr a)), x1, x2] st M ↔ uX8_goesBy R 152 [some (.inr (.inr a)), x1, x2] (.inr (.inr a) :: st) M := zU_step dX8_goesBy_151 (Or.inl rfl)
theorem dX8_goesBy_152 : decode cX8_goesBy 152 = .ok (.getfield 127, 3) := by decide +kernel
theorem rX8_goesBy_152 {R : zP} {x0 x1 x2 : Option zV} {st : List zV} {M : zM} {r : Nat} : uX8_goesBy R 152 [x0, x1, x2] (.inr (.inr r) :: st) M ↔ zgetx fX8 127 r M (fun v => uX8_goesBy R 155 [x0, x1, x2] (v :: st) M) := zU_step dX8_goesBy_152 (Or.inl rfl)
theorem dX8_goesBy_155 : decode cX8_goesBy 155 = .ok (.if_icmp .ge 43, 3) := by decide +kernel
theorem rX8_goesBy_155 {R : zP} {x0 x1 x2 : Option zV} {st : List zV} {M : zM} {a b : Int} : uX8_goesBy R 155 [x0, x1, x2] (.inl b :: .inl a :: st) M ↔ ((zIR a ∧ zIR b) ∧ if b ≤ a then uX8_goesBy R 198 [x0, x1, x2] st M else uX8_goesBy R 158 [x0, x1, x2] st M) := Iff.trans (zU_step dX8_goesBy_155 (Or.inl rfl)) ⟨fun h => ⟨⟨h.1.1, h.1.2.1⟩, (zite (c := b ≤ a)).mpr h.2⟩, fun h => ⟨⟨h.1.1, h.1.2, by decide⟩, (zite (c := b ≤ a)).mp h.2⟩⟩
theorem dX8_goesBy_158 : decode cX8_goesBy 158 = .ok (.aload_n 0, 1) := by decide +kernel
theorem rX8_goesBy_158 {R : zP} {x1 x2 : Option zV} {st : List zV} {M : zM} {a : Nat} : uX8_goesBy R 158 [some (.inr (.inr a)), x1, x2] st M ↔ uX8_goesBy R 159 [some (.inr (.inr a)), x1, x2] (.inr (.inr a) :: st) M := zU_step dX8_goesBy_158 (Or.inl rfl)
theorem dX8_goesBy_159 : decode cX8_goesBy 159 = .ok (.getfield 70, 3) := by decide +kernel
theorem rX8_goesBy_159 {R : zP} {x0 x1 x2 : Option zV} {st : List zV} {M : zM} {r : Nat} : uX8_goesBy R 159 [x0, x1, x2] (.inr (.inr r) :: st) M ↔ zgetx fX8 70 r M (fun v => uX8_goesBy R 162 [x0, x1, x2] (v :: st) M) := zU_step dX8_goesBy_159 (Or.inl rfl)
theorem dX8_goesBy_162 : decode cX8_goesBy 162 = .ok (.bipush 8, 2) := by decide +kernel
theorem rX8_goesBy_162 {R : zP} {x0 x1 x2 : Option zV} {st : List zV} {M : zM} : uX8_goesBy R 162 [x0, x1, x2] st M ↔ uX8_goesBy R 164 [x0, x1, x2] (.inl (8) :: st) M := Iff.trans (zU_step dX8_goesBy_162 (Or.inl rfl)) ⟨fun h => h.2, fun h => ⟨by decide, h⟩⟩
theorem dX8_goesBy_164 : decode cX8_goesBy 164 = .ok (.iload_n 1, 1) := by decide +kernel
theorem rX8_goesBy_164 {R : zP} {x0 x2 : Option zV} {st : List zV} {M : zM} {a : Int} : uX8_goesBy R 164 [x0, some (.inl a), x2] st M ↔ uX8_goesBy R 165 [x0, some (.inl a), x2] (.inl a :: st) M := zU_step dX8_goesBy_164 (Or.inl rfl)
theorem dX8_goesBy_165 : decode cX8_goesBy 165 = .ok (.imul, 1) := by decide +kernel
theorem rX8_goesBy_165 {R : zP} {x0 x1 x2 : Option zV} {st : List zV} {M : zM} {a b : Int} : uX8_goesBy R 165 [x0, x1, x2] (.inl b :: .inl a :: st) M ↔ uX8_goesBy R 166 [x0, x1, x2] (.inl (a * b) :: st) M := zU_step dX8_goesBy_165 (Or.inl rfl)
theorem dX8_goesBy_166 : decode cX8_goesBy 166 = .ok (.iload_n 2, 1) := by decide +kernel
theorem rX8_goesBy_166 {R : zP} {x0 x1 : Option zV} {st : List zV} {M : zM} {a : Int} : uX8_goesBy R 166 [x0, x1, some (.inl a)] st M ↔ uX8_goesBy R 167 [x0, x1, some (.inl a)] (.inl a :: st) M := zU_step dX8_goesBy_166 (Or.inl rfl)
theorem dX8_goesBy_167 : decode cX8_goesBy 167 = .ok (.iadd, 1) := by decide +kernel
theorem rX8_goesBy_167 {R : zP} {x0 x1 x2 : Option zV} {st : List zV} {M : zM} {a b : Int} : uX8_goesBy R 167 [x0, x1, x2] (.inl b :: .inl a :: st) M ↔ uX8_goesBy R 168 [x0, x1, x2] (.inl (a + b) :: st) M := zU_step dX8_goesBy_167 (Or.inl rfl)
theorem dX8_goesBy_168 : decode cX8_goesBy 168 = .ok (.aload_n 0, 1) := by decide +kernel
theorem rX8_goesBy_168 {R : zP} {x1 x2 : Option zV} {st : List zV} {M : zM} {a : Nat} : uX8_goesBy R 168 [some (.inr (.inr a)), x1, x2] st M ↔ uX8_goesBy R 169 [some (.inr (.inr a)), x1, x2] (.inr (.inr a) :: st) M := zU_step dX8_goesBy_168 (Or.inl rfl)
theorem dX8_goesBy_169 : decode cX8_goesBy 169 = .ok (.getfield 55, 3) := by decide +kernel
theorem rX8_goesBy_169 {R : zP} {x0 x1 x2 : Option zV} {st : List zV} {M : zM} {r : Nat} : uX8_goesBy R 169 [x0, x1, x2] (.inr (.inr r) :: st) M ↔ zgetx fX8 55 r M (fun v => uX8_goesBy R 172 [x0, x1, x2] (v :: st) M) := zU_step dX8_goesBy_169 (Or.inl rfl)
theorem dX8_goesBy_172 : decode cX8_goesBy 172 = .ok (.iload_n 2, 1) := by decide +kernel
theorem rX8_goesBy_172 {R : zP} {x0 x1 : Option zV} {st : List zV} {M : zM} {a : Int} : uX8_goesBy R 172 [x0, x1, some (.inl a)] st M ↔ uX8_goesBy R 173 [x0, x1, some (.inl a)] (.inl a :: st) M := zU_step dX8_goesBy_172 (Or.inl rfl)
theorem dX8_goesBy_173 : decode cX8_goesBy 173 = .ok (.iaload, 1) := by decide +kernel
theorem rX8_goesBy_173 {R : zP} {x0 x1 x2 : Option zV} {st : List zV} {M : zM} {i : Int} {r : Nat} : uX8_goesBy R 173 [x0, x1, x2] (.inl i :: .inr (.inr r) :: st) M ↔ zread fX8 0 r M i (fun v => uX8_goesBy R 174 [x0, x1, x2] (.inl v :: st) M) := zU_step dX8_goesBy_173 (Or.inl rfl)
theorem dX8_goesBy_174 : decode cX8_goesBy 174 = .ok (.iastore, 1) := by decide +kernel
theorem rX8_goesBy_174 {R : zP} {x0 x1 x2 : Option zV} {st : List zV} {M : zM} {i v : Int} {r : Nat} : uX8_goesBy R 174 [x0, x1, x2] (.inl v :: .inl i :: .inr (.inr r) :: st) M ↔ zwrite 0 r i (uX8_goesBy R 175 [x0, x1, x2] st (zup M r i v)) := zU_step dX8_goesBy_174 (Or.inl rfl)
theorem dX8_goesBy_175 : decode cX8_goesBy 175 = .ok (.aload_n 0, 1) := by decide +kernel
theorem rX8_goesBy_175 {R : zP} {x1 x2 : Option zV} {st : List zV} {M : zM} {a : Nat} : uX8_goesBy R 175 [some (.inr (.inr a)), x1, x2] st M ↔ uX8_goesBy R 176 [some (.inr (.inr a)), x1, x2] (.inr (.inr a) :: st) M := zU_step dX8_goesBy_175 (Or.inl rfl)
theorem dX8_goesBy_176 : decode cX8_goesBy 176 = .ok (.getfield 73, 3) := by decide +kernel
theorem rX8_goesBy_176 {R : zP} {x0 x1 x2 : Option zV} {st : List zV} {M : zM} {r : Nat} : uX8_goesBy R 176 [x0, x1, x2] (.inr (.inr r) :: st) M ↔ zgetx fX8 73 r M (fun v => uX8_goesBy R 179 [x0, x1, x2] (v :: st) M) := zU_step dX8_goesBy_176 (Or.inl rfl)
theorem dX8_goesBy_179 : decode cX8_goesBy 179 = .ok (.bipush 8, 2) := by decide +kernel
theorem rX8_goesBy_179 {R : zP} {x0 x1 x2 : Option zV} {st : List zV} {M : zM} : uX8_goesBy R 179 [x0, x1, x2] st M ↔ uX8_goesBy R 181 [x0, x1, x2] (.inl (8) :: st) M := Iff.trans (zU_step dX8_goesBy_179 (Or.inl rfl)) ⟨fun h => h.2, fun h => ⟨by decide, h⟩⟩
theorem dX8_goesBy_181 : decode cX8_goesBy 181 = .ok (.iload_n 1, 1) := by decide +kernel
theorem rX8_goesBy_181 {R : zP} {x0 x2 : Option zV} {st : List zV} {M : zM} {a : Int} : uX8_goesBy R 181 [x0, some (.inl a), x2] st M ↔ uX8_goesBy R 182 [x0, some (.inl a), x2] (.inl a :: st) M := zU_step dX8_goesBy_181 (Or.inl rfl)
theorem dX8_goesBy_182 : decode cX8_goesBy 182 = .ok (.imul, 1) := by decide +kernel
theorem rX8_goesBy_182 {R : zP} {x0 x1 x2 : Option zV} {st : List zV} {M : zM} {a b : Int} : uX8_goesBy R 182 [x0, x1, x2] (.inl b :: .inl a :: st) M ↔ uX8_goesBy R 183 [x0, x1, x2] (.inl (a * b) :: st) M := zU_step dX8_goesBy_182 (Or.inl rfl)
theorem dX8_goesBy_183 : decode cX8_goesBy 183 = .ok (.iload_n 2, 1) := by decide +kernel
theorem rX8_goesBy_183 {R : zP} {x0 x1 : Option zV} {st : List zV} {M : zM} {a : Int} : uX8_goesBy R 183 [x0, x1, some (.inl a)] st M ↔ uX8_goesBy R 184 [x0, x1, some (.inl a)] (.inl a :: st) M := zU_step dX8_goesBy_183 (Or.inl rfl)
theorem dX8_goesBy_184 : decode cX8_goesBy 184 = .ok (.iadd, 1) := by decide +kernel
theorem rX8_goesBy_184 {R : zP} {x0 x1 x2 : Option zV} {st : List zV} {M : zM} {a b : Int} : uX8_goesBy R 184 [x0, x1, x2] (.inl b :: .inl a :: st) M ↔ uX8_goesBy R 185 [x0, x1, x2] (.inl (a + b) :: st) M := zU_step dX8_goesBy_184 (Or.inl rfl)
theorem dX8_goesBy_185 : decode cX8_goesBy 185 = .ok (.aload_n 0, 1) := by decide +kernel
theorem rX8_goesBy_185 {R : zP} {x1 x2 : Option zV} {st : List zV} {M : zM} {a : Nat} : uX8_goesBy R 185 [some (.inr (.inr a)), x1, x2] st M ↔ uX8_goesBy R 186 [some (.inr (.inr a)), x1, x2] (.inr (.inr a) :: st) M := zU_step dX8_goesBy_185 (Or.inl rfl)
theorem dX8_goesBy_186 : decode cX8_goesBy 186 = .ok (.getfield 58, 3) := by decide +kernel
theorem rX8_goesBy_186 {R : zP} {x0 x1 x2 : Option zV} {st : List zV} {M : zM} {r : Nat} : uX8_goesBy R 186 [x0, x1, x2] (.inr (.inr r) :: st) M ↔ zgetx fX8 58 r M (fun v => uX8_goesBy R 189 [x0, x1, x2] (v :: st) M) := zU_step dX8_goesBy_186 (Or.inl rfl)
theorem dX8_goesBy_189 : decode cX8_goesBy 189 = .ok (.iload_n 2, 1) := by decide +kernel
theorem rX8_goesBy_189 {R : zP} {x0 x1 : Option zV} {st : List zV} {M : zM} {a : Int} : uX8_goesBy R 189 [x0, x1, some (.inl a)] st M ↔ uX8_goesBy R 190 [x0, x1, some (.inl a)] (.inl a :: st) M := zU_step dX8_goesBy_189 (Or.inl rfl)
theorem dX8_goesBy_190 : decode cX8_goesBy 190 = .ok (.iaload, 1) := by decide +kernel
theorem rX8_goesBy_190 {R : zP} {x0 x1 x2 : Option zV} {st : List zV} {M : zM} {i : Int} {r : Nat} : uX8_goesBy R 190 [x0, x1, x2] (.inl i :: .inr (.inr r) :: st) M ↔ zread fX8 0 r M i (fun v => uX8_goesBy R 191 [x0, x1, x2] (.inl v :: st) M) := zU_step dX8_goesBy_190 (Or.inl rfl)
theorem dX8_goesBy_191 : decode cX8_goesBy 191 = .ok (.iastore, 1) := by decide +kernel
theorem rX8_goesBy_191 {R : zP} {x0 x1 x2 : Option zV} {st : List zV} {M : zM} {i v : Int} {r : Nat} : uX8_goesBy R 191 [x0, x1, x2] (.inl v :: .inl i :: .inr (.inr r) :: st) M ↔ zwrite 0 r i (uX8_goesBy R 192 [x0, x1, x2] st (zup M r i v)) := zU_step dX8_goesBy_191 (Or.inl rfl)
theorem dX8_goesBy_192 : decode cX8_goesBy 192 = .ok (.iinc 2 1, 3) := by decide +kernel
theorem rX8_goesBy_192 {R : zP} {x0 : Option zV} {st : List zV} {M : zM} {a : Int} {y : Int} : uX8_goesBy R 192 [x0, some (.inl y), some (.inl a)] st M ↔ uX8_goesBy R 195 [x0, some (.inl y), some (.inl (a + (1)))] st M := Iff.trans (zU_step dX8_goesBy_192 (Or.inl rfl)) ⟨fun h => h.2, fun h => ⟨show 2 < 3 by decide, h⟩⟩
theorem rX8_goesBy_192z {R : zP} {x0 x1 : Option zV} {st : List zV} {M : zM} {a : Int} : uX8_goesBy R 192 [x0, x1, some (.inl a)] st M ↔ uX8_goesBy R 195 [x0, zkeep x1, some (.inl (a + (1)))] st M := Iff.trans (zU_step dX8_goesBy_192 (Or.inl rfl)) ⟨fun h => h.2, fun h => ⟨show 2 < 3 by decide, h⟩⟩
theorem dX8_goesBy_195 : decode cX8_goesBy 195 = .ok (.goto (-45), 3) := by decide +kernel
theorem rX8_goesBy_195 {R : zP} {x0 x1 x2 : Option zV} {st : List zV} {M : zM} : uX8_goesBy R 195 [x0, x1, x2] st M ↔ uX8_goesBy R 150 [x0, x1, x2] st M := Iff.trans (zU_step dX8_goesBy_195 (Or.inl rfl)) ⟨fun h => h.2, fun h => ⟨by decide, h⟩⟩
theorem dX8_goesBy_198 : decode cX8_goesBy 198 = .ok (.return_, 1) := by decide +kernel
theorem rX8_goesBy_198 {R : zP} {x0 x1 x2 : Option zV} {M : zM} : uX8_goesBy R 198 [x0, x1, x2] [] M ↔ R none M := Iff.trans (zU_step dX8_goesBy_198 (Or.inl rfl)) ⟨fun h => h.2.2, fun h => ⟨rfl, rfl, h⟩⟩
theorem eX8_goesBy {R : zP} {M : zM} {a0 : Nat} {p0 : Int} : tX8_goesBy [.inr (.inr a0), .inl p0] M R ↔ uX8_goesBy R 0 [some (.inr (.inr a0)), some (.inl p0), none] [] M := ⟨fun h => h.2, fun h => ⟨show 2 ≤ 3 by decide, h⟩⟩
def uX8_runs (R : zP) : zK := zU fX8 vX8_runs cX8_runs R
theorem dX8_runs_0 : decode cX8_runs 0 = .ok (.iconst 0, 1) := by decide +kernel
theorem rX8_runs_0 {R : zP} {x0 x1 : Option zV} {st : List zV} {M : zM} : uX8_runs R 0 [x0, x1] st M ↔ uX8_runs R 1 [x0, x1] (.inl (0) :: st) M := zU_step dX8_runs_0 (Or.inl rfl)
theorem dX8_runs_1 : decode cX8_runs 1 = .ok (.istore_n 1, 1) := by decide +kernel
theorem rX8_runs_1 {R : zP} {x1 : Option zV} {st : List zV} {M : zM} {a : Int} {y : Nat} : uX8_runs R 1 [some (.inr (.inr y)), x1] (.inl a :: st) M ↔ uX8_runs R 2 [some (.inr (.inr y)), some (.inl a)] st M := Iff.trans (zU_step dX8_runs_1 (Or.inl rfl)) ⟨fun h => h.2, fun h => ⟨show 1 < 2 by decide, h⟩⟩
theorem rX8_runs_1z {R : zP} {x0 x1 : Option zV} {st : List zV} {M : zM} {a : Int} : uX8_runs R 1 [x0, x1] (.inl a :: st) M ↔ uX8_runs R 2 [zkeep x0, some (.inl a)] st M := Iff.trans (zU_step dX8_runs_1 (Or.inl rfl)) ⟨fun h => h.2, fun h => ⟨show 1 < 2 by decide, h⟩⟩
theorem dX8_runs_2 : decode cX8_runs 2 = .ok (.iload_n 1, 1) := by decide +kernel
theorem rX8_runs_2 {R : zP} {x0 : Option zV} {st : List zV} {M : zM} {a : Int} : uX8_runs R 2 [x0, some (.inl a)] st M ↔ uX8_runs R 3 [x0, some (.inl a)] (.inl a :: st) M := zU_step dX8_runs_2 (Or.inl rfl)
theorem dX8_runs_3 : decode cX8_runs 3 = .ok (.iconst 4, 1) := by decide +kernel
theorem rX8_runs_3 {R : zP} {x0 x1 : Option zV} {st : List zV} {M : zM} : uX8_runs R 3 [x0, x1] st M ↔ uX8_runs R 4 [x0, x1] (.inl (4) :: st) M := zU_step dX8_runs_3 (Or.inl rfl)
theorem dX8_runs_4 : decode cX8_runs 4 = .ok (.aload_n 0, 1) := by decide +kernel
theorem rX8_runs_4 {R : zP} {x1 : Option zV} {st : List zV} {M : zM} {a : Nat} : uX8_runs R 4 [some (.inr (.inr a)), x1] st M ↔ uX8_runs R 5 [some (.inr (.inr a)), x1] (.inr (.inr a) :: st) M := zU_step dX8_runs_4 (Or.inl rfl)
theorem dX8_runs_5 : decode cX8_runs 5 = .ok (.getfield 127, 3) := by decide +kernel
theorem rX8_runs_5 {R : zP} {x0 x1 : Option zV} {st : List zV} {M : zM} {r : Nat} : uX8_runs R 5 [x0, x1] (.inr (.inr r) :: st) M ↔ zgetx fX8 127 r M (fun v => uX8_runs R 8 [x0, x1] (v :: st) M) := zU_step dX8_runs_5 (Or.inl rfl)
theorem dX8_runs_8 : decode cX8_runs 8 = .ok (.imul, 1) := by decide +kernel
theorem rX8_runs_8 {R : zP} {x0 x1 : Option zV} {st : List zV} {M : zM} {a b : Int} : uX8_runs R 8 [x0, x1] (.inl b :: .inl a :: st) M ↔ uX8_runs R 9 [x0, x1] (.inl (a * b) :: st) M := zU_step dX8_runs_8 (Or.inl rfl)
theorem dX8_runs_9 : decode cX8_runs 9 = .ok (.if_icmp .ge 45, 3) := by decide +kernel
theorem rX8_runs_9 {R : zP} {x0 x1 : Option zV} {st : List zV} {M : zM} {a b : Int} : uX8_runs R 9 [x0, x1] (.inl b :: .inl a :: st) M ↔ ((zIR a ∧ zIR b) ∧ if b ≤ a then uX8_runs R 54 [x0, x1] st M else uX8_runs R 12 [x0, x1] st M) := Iff.trans (zU_step dX8_runs_9 (Or.inl rfl)) ⟨fun h => ⟨⟨h.1.1, h.1.2.1⟩, (zite (c := b ≤ a)).mpr h.2⟩, fun h => ⟨⟨h.1.1, h.1.2, by decide⟩, (zite (c := b ≤ a)).mp h.2⟩⟩
theorem dX8_runs_12 : decode cX8_runs 12 = .ok (.aload_n 0, 1) := by decide +kernel
theorem rX8_runs_12 {R : zP} {x1 : Option zV} {st : List zV} {M : zM} {a : Nat} : uX8_runs R 12 [some (.inr (.inr a)), x1] st M ↔ uX8_runs R 13 [some (.inr (.inr a)), x1] (.inr (.inr a) :: st) M := zU_step dX8_runs_12 (Or.inl rfl)
theorem dX8_runs_13 : decode cX8_runs 13 = .ok (.getfield 46, 3) := by decide +kernel
theorem rX8_runs_13 {R : zP} {x0 x1 : Option zV} {st : List zV} {M : zM} {r : Nat} : uX8_runs R 13 [x0, x1] (.inr (.inr r) :: st) M ↔ zgetx fX8 46 r M (fun v => uX8_runs R 16 [x0, x1] (v :: st) M) := zU_step dX8_runs_13 (Or.inl rfl)
theorem dX8_runs_16 : decode cX8_runs 16 = .ok (.iload_n 1, 1) := by decide +kernel
theorem rX8_runs_16 {R : zP} {x0 : Option zV} {st : List zV} {M : zM} {a : Int} : uX8_runs R 16 [x0, some (.inl a)] st M ↔ uX8_runs R 17 [x0, some (.inl a)] (.inl a :: st) M := zU_step dX8_runs_16 (Or.inl rfl)
theorem dX8_runs_17 : decode cX8_runs 17 = .ok (.aload_n 0, 1) := by decide +kernel
theorem rX8_runs_17 {R : zP} {x1 : Option zV} {st : List zV} {M : zM} {a : Nat} : uX8_runs R 17 [some (.inr (.inr a)), x1] st M ↔ uX8_runs R 18 [some (.inr (.inr a)), x1] (.inr (.inr a) :: st) M := zU_step dX8_runs_17 (Or.inl rfl)
theorem dX8_runs_18 : decode cX8_runs 18 = .ok (.getfield 19, 3) := by decide +kernel
theorem rX8_runs_18 {R : zP} {x0 x1 : Option zV} {st : List zV} {M : zM} {r : Nat} : uX8_runs R 18 [x0, x1] (.inr (.inr r) :: st) M ↔ zgetx fX8 19 r M (fun v => uX8_runs R 21 [x0, x1] (v :: st) M) := zU_step dX8_runs_18 (Or.inl rfl)
theorem dX8_runs_21 : decode cX8_runs 21 = .ok (.iload_n 1, 1) := by decide +kernel
theorem rX8_runs_21 {R : zP} {x0 : Option zV} {st : List zV} {M : zM} {a : Int} : uX8_runs R 21 [x0, some (.inl a)] st M ↔ uX8_runs R 22 [x0, some (.inl a)] (.inl a :: st) M := zU_step dX8_runs_21 (Or.inl rfl)
theorem dX8_runs_22 : decode cX8_runs 22 = .ok (.iaload, 1) := by decide +kernel
theorem rX8_runs_22 {R : zP} {x0 x1 : Option zV} {st : List zV} {M : zM} {i : Int} {r : Nat} : uX8_runs R 22 [x0, x1] (.inl i :: .inr (.inr r) :: st) M ↔ zread fX8 0 r M i (fun v => uX8_runs R 23 [x0, x1] (.inl v :: st) M) := zU_step dX8_runs_22 (Or.inl rfl)
theorem dX8_runs_23 : decode cX8_runs 23 = .ok (.iastore, 1) := by decide +kernel
theorem rX8_runs_23 {R : zP} {x0 x1 : Option zV} {st : List zV} {M : zM} {i v : Int} {r : Nat} : uX8_runs R 23 [x0, x1] (.inl v :: .inl i :: .inr (.inr r) :: st) M ↔ zwrite 0 r i (uX8_runs R 24 [x0, x1] st (zup M r i v)) := zU_step dX8_runs_23 (Or.inl rfl)
theorem dX8_runs_24 : decode cX8_runs 24 = .ok (.aload_n 0, 1) := by decide +kernel
theorem rX8_runs_24 {R : zP} {x1 : Option zV} {st : List zV} {M : zM} {a : Nat} : uX8_runs R 24 [some (.inr (.inr a)), x1] st M ↔ uX8_runs R 25 [some (.inr (.inr a)), x1] (.inr (.inr a) :: st) M := zU_step dX8_runs_24 (Or.inl rfl)
theorem dX8_runs_25 : decode cX8_runs 25 = .ok (.getfield 49, 3) := by decide +kernel
theorem rX8_runs_25 {R : zP} {x0 x1 : Option zV} {st : List zV} {M : zM} {r : Nat} : uX8_runs R 25 [x0, x1] (.inr (.inr r) :: st) M ↔ zgetx fX8 49 r M (fun v => uX8_runs R 28 [x0, x1] (v :: st) M) := zU_step dX8_runs_25 (Or.inl rfl)
theorem dX8_runs_28 : decode cX8_runs 28 = .ok (.iload_n 1, 1) := by decide +kernel
theorem rX8_runs_28 {R : zP} {x0 : Option zV} {st : List zV} {M : zM} {a : Int} : uX8_runs R 28 [x0, some (.inl a)] st M ↔ uX8_runs R 29 [x0, some (.inl a)] (.inl a :: st) M := zU_step dX8_runs_28 (Or.inl rfl)
theorem dX8_runs_29 : decode cX8_runs 29 = .ok (.aload_n 0, 1) := by decide +kernel
theorem rX8_runs_29 {R : zP} {x1 : Option zV} {st : List zV} {M : zM} {a : Nat} : uX8_runs R 29 [some (.inr (.inr a)), x1] st M ↔ uX8_runs R 30 [some (.inr (.inr a)), x1] (.inr (.inr a) :: st) M := zU_step dX8_runs_29 (Or.inl rfl)
theorem dX8_runs_30 : decode cX8_runs 30 = .ok (.getfield 19, 3) := by decide +kernel
theorem rX8_runs_30 {R : zP} {x0 x1 : Option zV} {st : List zV} {M : zM} {r : Nat} : uX8_runs R 30 [x0, x1] (.inr (.inr r) :: st) M ↔ zgetx fX8 19 r M (fun v => uX8_runs R 33 [x0, x1] (v :: st) M) := zU_step dX8_runs_30 (Or.inl rfl)
theorem dX8_runs_33 : decode cX8_runs 33 = .ok (.iload_n 1, 1) := by decide +kernel
theorem rX8_runs_33 {R : zP} {x0 : Option zV} {st : List zV} {M : zM} {a : Int} : uX8_runs R 33 [x0, some (.inl a)] st M ↔ uX8_runs R 34 [x0, some (.inl a)] (.inl a :: st) M := zU_step dX8_runs_33 (Or.inl rfl)
theorem dX8_runs_34 : decode cX8_runs 34 = .ok (.iaload, 1) := by decide +kernel
theorem rX8_runs_34 {R : zP} {x0 x1 : Option zV} {st : List zV} {M : zM} {i : Int} {r : Nat} : uX8_runs R 34 [x0, x1] (.inl i :: .inr (.inr r) :: st) M ↔ zread fX8 0 r M i (fun v => uX8_runs R 35 [x0, x1] (.inl v :: st) M) := zU_step dX8_runs_34 (Or.inl rfl)
theorem dX8_runs_35 : decode cX8_runs 35 = .ok (.iastore, 1) := by decide +kernel
theorem rX8_runs_35 {R : zP} {x0 x1 : Option zV} {st : List zV} {M : zM} {i v : Int} {r : Nat} : uX8_runs R 35 [x0, x1] (.inl v :: .inl i :: .inr (.inr r) :: st) M ↔ zwrite 0 r i (uX8_runs R 36 [x0, x1] st (zup M r i v)) := zU_step dX8_runs_35 (Or.inl rfl)
theorem dX8_runs_36 : decode cX8_runs 36 = .ok (.aload_n 0, 1) := by decide +kernel
theorem rX8_runs_36 {R : zP} {x1 : Option zV} {st : List zV} {M : zM} {a : Nat} : uX8_runs R 36 [some (.inr (.inr a)), x1] st M ↔ uX8_runs R 37 [some (.inr (.inr a)), x1] (.inr (.inr a) :: st) M := zU_step dX8_runs_36 (Or.inl rfl)
theorem dX8_runs_37 : decode cX8_runs 37 = .ok (.getfield 52, 3) := by decide +kernel
theorem rX8_runs_37 {R : zP} {x0 x1 : Option zV} {st : List zV} {M : zM} {r : Nat} : uX8_runs R 37 [x0, x1] (.inr (.inr r) :: st) M ↔ zgetx fX8 52 r M (fun v => uX8_runs R 40 [x0, x1] (v :: st) M) := zU_step dX8_runs_37 (Or.inl rfl)
theorem dX8_runs_40 : decode cX8_runs 40 = .ok (.iload_n 1, 1) := by decide +kernel
theorem rX8_runs_40 {R : zP} {x0 : Option zV} {st : List zV} {M : zM} {a : Int} : uX8_runs R 40 [x0, some (.inl a)] st M ↔ uX8_runs R 41 [x0, some (.inl a)] (.inl a :: st) M := zU_step dX8_runs_40 (Or.inl rfl)
theorem dX8_runs_41 : decode cX8_runs 41 = .ok (.aload_n 0, 1) := by decide +kernel
theorem rX8_runs_41 {R : zP} {x1 : Option zV} {st : List zV} {M : zM} {a : Nat} : uX8_runs R 41 [some (.inr (.inr a)), x1] st M ↔ uX8_runs R 42 [some (.inr (.inr a)), x1] (.inr (.inr a) :: st) M := zU_step dX8_runs_41 (Or.inl rfl)
theorem dX8_runs_42 : decode cX8_runs 42 = .ok (.getfield 19, 3) := by decide +kernel
theorem rX8_runs_42 {R : zP} {x0 x1 : Option zV} {st : List zV} {M : zM} {r : Nat} : uX8_runs R 42 [x0, x1] (.inr (.inr r) :: st) M ↔ zgetx fX8 19 r M (fun v => uX8_runs R 45 [x0, x1] (v :: st) M) := zU_step dX8_runs_42 (Or.inl rfl)
theorem dX8_runs_45 : decode cX8_runs 45 = .ok (.iload_n 1, 1) := by decide +kernel
theorem rX8_runs_45 {R : zP} {x0 : Option zV} {st : List zV} {M : zM} {a : Int} : uX8_runs R 45 [x0, some (.inl a)] st M ↔ uX8_runs R 46 [x0, some (.inl a)] (.inl a :: st) M := zU_step dX8_runs_45 (Or.inl rfl)
theorem dX8_runs_46 : decode cX8_runs 46 = .ok (.iaload, 1) := by decide +kernel
theorem rX8_runs_46 {R : zP} {x0 x1 : Option zV} {st : List zV} {M : zM} {i : Int} {r : Nat} : uX8_runs R 46 [x0, x1] (.inl i :: .inr (.inr r) :: st) M ↔ zread fX8 0 r M i (fun v => uX8_runs R 47 [x0, x1] (.inl v :: st) M) := zU_step dX8_runs_46 (Or.inl rfl)
theorem dX8_runs_47 : decode cX8_runs 47 = .ok (.iastore, 1) := by decide +kernel
theorem rX8_runs_47 {R : zP} {x0 x1 : Option zV} {st : List zV} {M : zM} {i v : Int} {r : Nat} : uX8_runs R 47 [x0, x1] (.inl v :: .inl i :: .inr (.inr r) :: st) M ↔ zwrite 0 r i (uX8_runs R 48 [x0, x1] st (zup M r i v)) := zU_step dX8_runs_47 (Or.inl rfl)
theorem dX8_runs_48 : decode cX8_runs 48 = .ok (.iinc 1 1, 3) := by decide +kernel
theorem rX8_runs_48 {R : zP} {st : List zV} {M : zM} {a : Int} {y : Nat} : uX8_runs R 48 [some (.inr (.inr y)), some (.inl a)] st M ↔ uX8_runs R 51 [some (.inr (.inr y)), some (.inl (a + (1)))] st M := Iff.trans (zU_step dX8_runs_48 (Or.inl rfl)) ⟨fun h => h.2, fun h => ⟨show 1 < 2 by decide, h⟩⟩
theorem rX8_runs_48z {R : zP} {x0 : Option zV} {st : List zV} {M : zM} {a : Int} : uX8_runs R 48 [x0, some (.inl a)] st M ↔ uX8_runs R 51 [zkeep x0, some (.inl (a + (1)))] st M := Iff.trans (zU_step dX8_runs_48 (Or.inl rfl)) ⟨fun h => h.2, fun h => ⟨show 1 < 2 by decide, h⟩⟩
theorem dX8_runs_51 : decode cX8_runs 51 = .ok (.goto (-49), 3) := by decide +kernel
theorem rX8_runs_51 {R : zP} {x0 x1 : Option zV} {st : List zV} {M : zM} : uX8_runs R 51 [x0, x1] st M ↔ uX8_runs R 2 [x0, x1] st M := Iff.trans (zU_step dX8_runs_51 (Or.inl rfl)) ⟨fun h => h.2, fun h => ⟨by decide, h⟩⟩
theorem dX8_runs_54 : decode cX8_runs 54 = .ok (.iconst 0, 1) := by decide +kernel
theorem rX8_runs_54 {R : zP} {x0 x1 : Option zV} {st : List zV} {M : zM} : uX8_runs R 54 [x0, x1] st M ↔ uX8_runs R 55 [x0, x1] (.inl (0) :: st) M := zU_step dX8_runs_54 (Or.inl rfl)
theorem dX8_runs_55 : decode cX8_runs 55 = .ok (.istore_n 1, 1) := by decide +kernel
theorem rX8_runs_55 {R : zP} {x1 : Option zV} {st : List zV} {M : zM} {a : Int} {y : Nat} : uX8_runs R 55 [some (.inr (.inr y)), x1] (.inl a :: st) M ↔ uX8_runs R 56 [some (.inr (.inr y)), some (.inl a)] st M := Iff.trans (zU_step dX8_runs_55 (Or.inl rfl)) ⟨fun h => h.2, fun h => ⟨show 1 < 2 by decide, h⟩⟩
theorem rX8_runs_55z {R : zP} {x0 x1 : Option zV} {st : List zV} {M : zM} {a : Int} : uX8_runs R 55 [x0, x1] (.inl a :: st) M ↔ uX8_runs R 56 [zkeep x0, some (.inl a)] st M := Iff.trans (zU_step dX8_runs_55 (Or.inl rfl)) ⟨fun h => h.2, fun h => ⟨show 1 < 2 by decide, h⟩⟩
theorem dX8_runs_56 : decode cX8_runs 56 = .ok (.iload_n 1, 1) := by decide +kernel
theorem rX8_runs_56 {R : zP} {x0 : Option zV} {st : List zV} {M : zM} {a : Int} : uX8_runs R 56 [x0, some (.inl a)] st M ↔ uX8_runs R 57 [x0, some (.inl a)] (.inl a :: st) M := zU_step dX8_runs_56 (Or.inl rfl)
theorem dX8_runs_57 : decode cX8_runs 57 = .ok (.aload_n 0, 1) := by decide +kernel
theorem rX8_runs_57 {R : zP} {x1 : Option zV} {st : List zV} {M : zM} {a : Nat} : uX8_runs R 57 [some (.inr (.inr a)), x1] st M ↔ uX8_runs R 58 [some (.inr (.inr a)), x1] (.inr (.inr a) :: st) M := zU_step dX8_runs_57 (Or.inl rfl)
theorem dX8_runs_58 : decode cX8_runs 58 = .ok (.getfield 127, 3) := by decide +kernel
theorem rX8_runs_58 {R : zP} {x0 x1 : Option zV} {st : List zV} {M : zM} {r : Nat} : uX8_runs R 58 [x0, x1] (.inr (.inr r) :: st) M ↔ zgetx fX8 127 r M (fun v => uX8_runs R 61 [x0, x1] (v :: st) M) := zU_step dX8_runs_58 (Or.inl rfl)
theorem dX8_runs_61 : decode cX8_runs 61 = .ok (.if_icmp .ge 50, 3) := by decide +kernel
theorem rX8_runs_61 {R : zP} {x0 x1 : Option zV} {st : List zV} {M : zM} {a b : Int} : uX8_runs R 61 [x0, x1] (.inl b :: .inl a :: st) M ↔ ((zIR a ∧ zIR b) ∧ if b ≤ a then uX8_runs R 111 [x0, x1] st M else uX8_runs R 64 [x0, x1] st M) := Iff.trans (zU_step dX8_runs_61 (Or.inl rfl)) ⟨fun h => ⟨⟨h.1.1, h.1.2.1⟩, (zite (c := b ≤ a)).mpr h.2⟩, fun h => ⟨⟨h.1.1, h.1.2, by decide⟩, (zite (c := b ≤ a)).mp h.2⟩⟩
theorem dX8_runs_64 : decode cX8_runs 64 = .ok (.aload_n 0, 1) := by decide +kernel
theorem rX8_runs_64 {R : zP} {x1 : Option zV} {st : List zV} {M : zM} {a : Nat} : uX8_runs R 64 [some (.inr (.inr a)), x1] st M ↔ uX8_runs R 65 [some (.inr (.inr a)), x1] (.inr (.inr a) :: st) M := zU_step dX8_runs_64 (Or.inl rfl)
theorem dX8_runs_65 : decode cX8_runs 65 = .ok (.getfield 55, 3) := by decide +kernel
theorem rX8_runs_65 {R : zP} {x0 x1 : Option zV} {st : List zV} {M : zM} {r : Nat} : uX8_runs R 65 [x0, x1] (.inr (.inr r) :: st) M ↔ zgetx fX8 55 r M (fun v => uX8_runs R 68 [x0, x1] (v :: st) M) := zU_step dX8_runs_65 (Or.inl rfl)
theorem dX8_runs_68 : decode cX8_runs 68 = .ok (.iload_n 1, 1) := by decide +kernel
theorem rX8_runs_68 {R : zP} {x0 : Option zV} {st : List zV} {M : zM} {a : Int} : uX8_runs R 68 [x0, some (.inl a)] st M ↔ uX8_runs R 69 [x0, some (.inl a)] (.inl a :: st) M := zU_step dX8_runs_68 (Or.inl rfl)
theorem dX8_runs_69 : decode cX8_runs 69 = .ok (.aload_n 0, 1) := by decide +kernel
theorem rX8_runs_69 {R : zP} {x1 : Option zV} {st : List zV} {M : zM} {a : Nat} : uX8_runs R 69 [some (.inr (.inr a)), x1] st M ↔ uX8_runs R 70 [some (.inr (.inr a)), x1] (.inr (.inr a) :: st) M := zU_step dX8_runs_69 (Or.inl rfl)
theorem dX8_runs_70 : decode cX8_runs 70 = .ok (.getfield 16, 3) := by decide +kernel
theorem rX8_runs_70 {R : zP} {x0 x1 : Option zV} {st : List zV} {M : zM} {r : Nat} : uX8_runs R 70 [x0, x1] (.inr (.inr r) :: st) M ↔ zgetx fX8 16 r M (fun v => uX8_runs R 73 [x0, x1] (v :: st) M) := zU_step dX8_runs_70 (Or.inl rfl)
theorem dX8_runs_73 : decode cX8_runs 73 = .ok (.iload_n 1, 1) := by decide +kernel
theorem rX8_runs_73 {R : zP} {x0 : Option zV} {st : List zV} {M : zM} {a : Int} : uX8_runs R 73 [x0, some (.inl a)] st M ↔ uX8_runs R 74 [x0, some (.inl a)] (.inl a :: st) M := zU_step dX8_runs_73 (Or.inl rfl)
theorem dX8_runs_74 : decode cX8_runs 74 = .ok (.iaload, 1) := by decide +kernel
theorem rX8_runs_74 {R : zP} {x0 x1 : Option zV} {st : List zV} {M : zM} {i : Int} {r : Nat} : uX8_runs R 74 [x0, x1] (.inl i :: .inr (.inr r) :: st) M ↔ zread fX8 0 r M i (fun v => uX8_runs R 75 [x0, x1] (.inl v :: st) M) := zU_step dX8_runs_74 (Or.inl rfl)
theorem dX8_runs_75 : decode cX8_runs 75 = .ok (.ifCond .ne 7, 3) := by decide +kernel
theorem rX8_runs_75 {R : zP} {x0 x1 : Option zV} {st : List zV} {M : zM} {a : Int} : uX8_runs R 75 [x0, x1] (.inl a :: st) M ↔ (zIR a ∧ if a ≠ 0 then uX8_runs R 82 [x0, x1] st M else uX8_runs R 78 [x0, x1] st M) := Iff.trans (zU_step dX8_runs_75 (Or.inl rfl)) ⟨fun h => ⟨h.1.1, (zite (c := a ≠ 0)).mpr h.2⟩, fun h => ⟨⟨h.1, by decide⟩, (zite (c := a ≠ 0)).mp h.2⟩⟩
theorem dX8_runs_78 : decode cX8_runs 78 = .ok (.iconst 3, 1) := by decide +kernel
theorem rX8_runs_78 {R : zP} {x0 x1 : Option zV} {st : List zV} {M : zM} : uX8_runs R 78 [x0, x1] st M ↔ uX8_runs R 79 [x0, x1] (.inl (3) :: st) M := zU_step dX8_runs_78 (Or.inl rfl)
theorem dX8_runs_79 : decode cX8_runs 79 = .ok (.goto 18, 3) := by decide +kernel
theorem rX8_runs_79 {R : zP} {x0 x1 : Option zV} {st : List zV} {M : zM} : uX8_runs R 79 [x0, x1] st M ↔ uX8_runs R 97 [x0, x1] st M := Iff.trans (zU_step dX8_runs_79 (Or.inl rfl)) ⟨fun h => h.2, fun h => ⟨by decide, h⟩⟩
theorem dX8_runs_82 : decode cX8_runs 82 = .ok (.aload_n 0, 1) := by decide +kernel
theorem rX8_runs_82 {R : zP} {x1 : Option zV} {st : List zV} {M : zM} {a : Nat} : uX8_runs R 82 [some (.inr (.inr a)), x1] st M ↔ uX8_runs R 83 [some (.inr (.inr a)), x1] (.inr (.inr a) :: st) M := zU_step dX8_runs_82 (Or.inl rfl)
theorem dX8_runs_83 : decode cX8_runs 83 = .ok (.getfield 16, 3) := by decide +kernel
theorem rX8_runs_83 {R : zP} {x0 x1 : Option zV} {st : List zV} {M : zM} {r : Nat} : uX8_runs R 83 [x0, x1] (.inr (.inr r) :: st) M ↔ zgetx fX8 16 r M (fun v => uX8_runs R 86 [x0, x1] (v :: st) M) := zU_step dX8_runs_83 (Or.inl rfl)
theorem dX8_runs_86 : decode cX8_runs 86 = .ok (.iload_n 1, 1) := by decide +kernel
theorem rX8_runs_86 {R : zP} {x0 : Option zV} {st : List zV} {M : zM} {a : Int} : uX8_runs R 86 [x0, some (.inl a)] st M ↔ uX8_runs R 87 [x0, some (.inl a)] (.inl a :: st) M := zU_step dX8_runs_86 (Or.inl rfl)
theorem dX8_runs_87 : decode cX8_runs 87 = .ok (.iaload, 1) := by decide +kernel
theorem rX8_runs_87 {R : zP} {x0 x1 : Option zV} {st : List zV} {M : zM} {i : Int} {r : Nat} : uX8_runs R 87 [x0, x1] (.inl i :: .inr (.inr r) :: st) M ↔ zread fX8 0 r M i (fun v => uX8_runs R 88 [x0, x1] (.inl v :: st) M) := zU_step dX8_runs_87 (Or.inl rfl)
theorem dX8_runs_88 : decode cX8_runs 88 = .ok (.iconst 1, 1) := by decide +kernel
theorem rX8_runs_88 {R : zP} {x0 x1 : Option zV} {st : List zV} {M : zM} : uX8_runs R 88 [x0, x1] st M ↔ uX8_runs R 89 [x0, x1] (.inl (1) :: st) M := zU_step dX8_runs_88 (Or.inl rfl)
theorem dX8_runs_89 : decode cX8_runs 89 = .ok (.if_icmp .ne 7, 3) := by decide +kernel
theorem rX8_runs_89 {R : zP} {x0 x1 : Option zV} {st : List zV} {M : zM} {a b : Int} : uX8_runs R 89 [x0, x1] (.inl b :: .inl a :: st) M ↔ ((zIR a ∧ zIR b) ∧ if a ≠ b then uX8_runs R 96 [x0, x1] st M else uX8_runs R 92 [x0, x1] st M) := Iff.trans (zU_step dX8_runs_89 (Or.inl rfl)) ⟨fun h => ⟨⟨h.1.1, h.1.2.1⟩, (zite (c := a ≠ b)).mpr h.2⟩, fun h => ⟨⟨h.1.1, h.1.2, by decide⟩, (zite (c := a ≠ b)).mp h.2⟩⟩
theorem dX8_runs_92 : decode cX8_runs 92 = .ok (.iconst 2, 1) := by decide +kernel
theorem rX8_runs_92 {R : zP} {x0 x1 : Option zV} {st : List zV} {M : zM} : uX8_runs R 92 [x0, x1] st M ↔ uX8_runs R 93 [x0, x1] (.inl (2) :: st) M := zU_step dX8_runs_92 (Or.inl rfl)
theorem dX8_runs_93 : decode cX8_runs 93 = .ok (.goto 4, 3) := by decide +kernel
theorem rX8_runs_93 {R : zP} {x0 x1 : Option zV} {st : List zV} {M : zM} : uX8_runs R 93 [x0, x1] st M ↔ uX8_runs R 97 [x0, x1] st M := Iff.trans (zU_step dX8_runs_93 (Or.inl rfl)) ⟨fun h => h.2, fun h => ⟨by decide, h⟩⟩
theorem dX8_runs_96 : decode cX8_runs 96 = .ok (.iconst 5, 1) := by decide +kernel
theorem rX8_runs_96 {R : zP} {x0 x1 : Option zV} {st : List zV} {M : zM} : uX8_runs R 96 [x0, x1] st M ↔ uX8_runs R 97 [x0, x1] (.inl (5) :: st) M := zU_step dX8_runs_96 (Or.inl rfl)
theorem dX8_runs_97 : decode cX8_runs 97 = .ok (.iastore, 1) := by decide +kernel
theorem rX8_runs_97 {R : zP} {x0 x1 : Option zV} {st : List zV} {M : zM} {i v : Int} {r : Nat} : uX8_runs R 97 [x0, x1] (.inl v :: .inl i :: .inr (.inr r) :: st) M ↔ zwrite 0 r i (uX8_runs R 98 [x0, x1] st (zup M r i v)) := zU_step dX8_runs_97 (Or.inl rfl)
theorem dX8_runs_98 : decode cX8_runs 98 = .ok (.aload_n 0, 1) := by decide +kernel
theorem rX8_runs_98 {R : zP} {x1 : Option zV} {st : List zV} {M : zM} {a : Nat} : uX8_runs R 98 [some (.inr (.inr a)), x1] st M ↔ uX8_runs R 99 [some (.inr (.inr a)), x1] (.inr (.inr a) :: st) M := zU_step dX8_runs_98 (Or.inl rfl)
theorem dX8_runs_99 : decode cX8_runs 99 = .ok (.getfield 58, 3) := by decide +kernel
theorem rX8_runs_99 {R : zP} {x0 x1 : Option zV} {st : List zV} {M : zM} {r : Nat} : uX8_runs R 99 [x0, x1] (.inr (.inr r) :: st) M ↔ zgetx fX8 58 r M (fun v => uX8_runs R 102 [x0, x1] (v :: st) M) := zU_step dX8_runs_99 (Or.inl rfl)
theorem dX8_runs_102 : decode cX8_runs 102 = .ok (.iload_n 1, 1) := by decide +kernel
theorem rX8_runs_102 {R : zP} {x0 : Option zV} {st : List zV} {M : zM} {a : Int} : uX8_runs R 102 [x0, some (.inl a)] st M ↔ uX8_runs R 103 [x0, some (.inl a)] (.inl a :: st) M := zU_step dX8_runs_102 (Or.inl rfl)
theorem dX8_runs_103 : decode cX8_runs 103 = .ok (.iconst 0, 1) := by decide +kernel
theorem rX8_runs_103 {R : zP} {x0 x1 : Option zV} {st : List zV} {M : zM} : uX8_runs R 103 [x0, x1] st M ↔ uX8_runs R 104 [x0, x1] (.inl (0) :: st) M := zU_step dX8_runs_103 (Or.inl rfl)
theorem dX8_runs_104 : decode cX8_runs 104 = .ok (.iastore, 1) := by decide +kernel
theorem rX8_runs_104 {R : zP} {x0 x1 : Option zV} {st : List zV} {M : zM} {i v : Int} {r : Nat} : uX8_runs R 104 [x0, x1] (.inl v :: .inl i :: .inr (.inr r) :: st) M ↔ zwrite 0 r i (uX8_runs R 105 [x0, x1] st (zup M r i v)) := zU_step dX8_runs_104 (Or.inl rfl)
theorem dX8_runs_105 : decode cX8_runs 105 = .ok (.iinc 1 1, 3) := by decide +kernel
theorem rX8_runs_105 {R : zP} {st : List zV} {M : zM} {a : Int} {y : Nat} : uX8_runs R 105 [some (.inr (.inr y)), some (.inl a)] st M ↔ uX8_runs R 108 [some (.inr (.inr y)), some (.inl (a + (1)))] st M := Iff.trans (zU_step dX8_runs_105 (Or.inl rfl)) ⟨fun h => h.2, fun h => ⟨show 1 < 2 by decide, h⟩⟩
theorem rX8_runs_105z {R : zP} {x0 : Option zV} {st : List zV} {M : zM} {a : Int} : uX8_runs R 105 [x0, some (.inl a)] st M ↔ uX8_runs R 108 [zkeep x0, some (.inl (a + (1)))] st M := Iff.trans (zU_step dX8_runs_105 (Or.inl rfl)) ⟨fun h => h.2, fun h => ⟨show 1 < 2 by decide, h⟩⟩
theorem dX8_runs_108 : decode cX8_runs 108 = .ok (.goto (-52), 3) := by decide +kernel
theorem rX8_runs_108 {R : zP} {x0 x1 : Option zV} {st : List zV} {M : zM} : uX8_runs R 108 [x0, x1] st M ↔ uX8_runs R 56 [x0, x1] st M := Iff.trans (zU_step dX8_runs_108 (Or.inl rfl)) ⟨fun h => h.2, fun h => ⟨by decide, h⟩⟩
theorem dX8_runs_111 : decode cX8_runs 111 = .ok (.iconst 0, 1) := by decide +kernel
theorem rX8_runs_111 {R : zP} {x0 x1 : Option zV} {st : List zV} {M : zM} : uX8_runs R 111 [x0, x1] st M ↔ uX8_runs R 112 [x0, x1] (.inl (0) :: st) M := zU_step dX8_runs_111 (Or.inl rfl)
theorem dX8_runs_112 : decode cX8_runs 112 = .ok (.istore_n 1, 1) := by decide +kernel
theorem rX8_runs_112 {R : zP} {x1 : Option zV} {st : List zV} {M : zM} {a : Int} {y : Nat} : uX8_runs R 112 [some (.inr (.inr y)), x1] (.inl a :: st) M ↔ uX8_runs R 113 [some (.inr (.inr y)), some (.inl a)] st M := Iff.trans (zU_step dX8_runs_112 (Or.inl rfl)) ⟨fun h => h.2, fun h => ⟨show 1 < 2 by decide, h⟩⟩
theorem rX8_runs_112z {R : zP} {x0 x1 : Option zV} {st : List zV} {M : zM} {a : Int} : uX8_runs R 112 [x0, x1] (.inl a :: st) M ↔ uX8_runs R 113 [zkeep x0, some (.inl a)] st M := Iff.trans (zU_step dX8_runs_112 (Or.inl rfl)) ⟨fun h => h.2, fun h => ⟨show 1 < 2 by decide, h⟩⟩
theorem dX8_runs_113 : decode cX8_runs 113 = .ok (.iload_n 1, 1) := by decide +kernel
theorem rX8_runs_113 {R : zP} {x0 : Option zV} {st : List zV} {M : zM} {a : Int} : uX8_runs R 113 [x0, some (.inl a)] st M ↔ uX8_runs R 114 [x0, some (.inl a)] (.inl a :: st) M := zU_step dX8_runs_113 (Or.inl rfl)
theorem dX8_runs_114 : decode cX8_runs 114 = .ok (.bipush 20, 2) := by decide +kernel
theorem rX8_runs_114 {R : zP} {x0 x1 : Option zV} {st : List zV} {M : zM} : uX8_runs R 114 [x0, x1] st M ↔ uX8_runs R 116 [x0, x1] (.inl (20) :: st) M := Iff.trans (zU_step dX8_runs_114 (Or.inl rfl)) ⟨fun h => h.2, fun h => ⟨by decide, h⟩⟩
theorem dX8_runs_116 : decode cX8_runs 116 = .ok (.if_icmp .ge 14, 3) := by decide +kernel
theorem rX8_runs_116 {R : zP} {x0 x1 : Option zV} {st : List zV} {M : zM} {a b : Int} : uX8_runs R 116 [x0, x1] (.inl b :: .inl a :: st) M ↔ ((zIR a ∧ zIR b) ∧ if b ≤ a then uX8_runs R 130 [x0, x1] st M else uX8_runs R 119 [x0, x1] st M) := Iff.trans (zU_step dX8_runs_116 (Or.inl rfl)) ⟨fun h => ⟨⟨h.1.1, h.1.2.1⟩, (zite (c := b ≤ a)).mpr h.2⟩, fun h => ⟨⟨h.1.1, h.1.2, by decide⟩, (zite (c := b ≤ a)).mp h.2⟩⟩
theorem dX8_runs_119 : decode cX8_runs 119 = .ok (.aload_n 0, 1) := by decide +kernel
theorem rX8_runs_119 {R : zP} {x1 : Option zV} {st : List zV} {M : zM} {a : Nat} : uX8_runs R 119 [some (.inr (.inr a)), x1] st M ↔ uX8_runs R 120 [some (.inr (.inr a)), x1] (.inr (.inr a) :: st) M := zU_step dX8_runs_119 (Or.inl rfl)
theorem dX8_runs_120 : decode cX8_runs 120 = .ok (.iload_n 1, 1) := by decide +kernel
theorem rX8_runs_120 {R : zP} {x0 : Option zV} {st : List zV} {M : zM} {a : Int} : uX8_runs R 120 [x0, some (.inl a)] st M ↔ uX8_runs R 121 [x0, some (.inl a)] (.inl a :: st) M := zU_step dX8_runs_120 (Or.inl rfl)
theorem dX8_runs_121 : decode cX8_runs 121 = .ok (.invokevirtual 195, 3) := by decide +kernel
theorem rX8_runs_121 {R : zP} {x0 x1 : Option zV} {st : List zV} {M : zM} {a0 a1 : zV} : uX8_runs R 121 [x0, x1] (a1 :: a0 :: st) M ↔ (st.length ≤ 4 ∧ zcn (zv 8 tX8_goesBy) [a0, a1] M (fun M => uX8_runs R 124 [x0, x1] st M)) := Iff.trans (zU_step dX8_runs_121 (Or.inl rfl)) ⟨fun h => ⟨h.2.1, zcn_of h.2.2⟩, fun h => ⟨rfl, h.1, zcn_to h.2⟩⟩
theorem dX8_runs_124 : decode cX8_runs 124 = .ok (.iinc 1 1, 3) := by decide +kernel
theorem rX8_runs_124 {R : zP} {st : List zV} {M : zM} {a : Int} {y : Nat} : uX8_runs R 124 [some (.inr (.inr y)), some (.inl a)] st M ↔ uX8_runs R 127 [some (.inr (.inr y)), some (.inl (a + (1)))] st M := Iff.trans (zU_step dX8_runs_124 (Or.inl rfl)) ⟨fun h => h.2, fun h => ⟨show 1 < 2 by decide, h⟩⟩
theorem rX8_runs_124z {R : zP} {x0 : Option zV} {st : List zV} {M : zM} {a : Int} : uX8_runs R 124 [x0, some (.inl a)] st M ↔ uX8_runs R 127 [zkeep x0, some (.inl (a + (1)))] st M := Iff.trans (zU_step dX8_runs_124 (Or.inl rfl)) ⟨fun h => h.2, fun h => ⟨show 1 < 2 by decide, h⟩⟩
theorem dX8_runs_127 : decode cX8_runs 127 = .ok (.goto (-14), 3) := by decide +kernel
theorem rX8_runs_127 {R : zP} {x0 x1 : Option zV} {st : List zV} {M : zM} : uX8_runs R 127 [x0, x1] st M ↔ uX8_runs R 113 [x0, x1] st M := Iff.trans (zU_step dX8_runs_127 (Or.inl rfl)) ⟨fun h => h.2, fun h => ⟨by decide, h⟩⟩
theorem dX8_runs_130 : decode cX8_runs 130 = .ok (.return_, 1) := by decide +kernel
theorem rX8_runs_130 {R : zP} {x0 x1 : Option zV} {M : zM} : uX8_runs R 130 [x0, x1] [] M ↔ R none M := Iff.trans (zU_step dX8_runs_130 (Or.inl rfl)) ⟨fun h => h.2.2, fun h => ⟨rfl, rfl, h⟩⟩
theorem eX8_runs {R : zP} {M : zM} {a0 : Nat} : tX8_runs [.inr (.inr a0)] M R ↔ uX8_runs R 0 [some (.inr (.inr a0)), none] [] M := ⟨fun h => h.2, fun h => ⟨show 1 ≤ 2 by decide, h⟩⟩
def uX8_runsTold (R : zP) : zK := zU fX8 vX8_runsTold cX8_runsTold R
theorem dX8_runsTold_0 : decode cX8_runsTold 0 = .ok (.aload_n 0, 1) := by decide +kernel
theorem rX8_runsTold_0 {R : zP} {st : List zV} {M : zM} {a : Nat} : uX8_runsTold R 0 [some (.inr (.inr a))] st M ↔ uX8_runsTold R 1 [some (.inr (.inr a))] (.inr (.inr a) :: st) M := zU_step dX8_runsTold_0 (Or.inl rfl)
theorem dX8_runsTold_1 : decode cX8_runsTold 1 = .ok (.invokevirtual 199, 3) := by decide +kernel
theorem rX8_runsTold_1 {R : zP} {x0 : Option zV} {st : List zV} {M : zM} {a0 : zV} : uX8_runsTold R 1 [x0] (a0 :: st) M ↔ (st.length ≤ 4 ∧ zcn (zv 8 tX8_asTold) [a0] M (fun M => uX8_runsTold R 4 [x0] st M)) := Iff.trans (zU_step dX8_runsTold_1 (Or.inl rfl)) ⟨fun h => ⟨h.2.1, zcn_of h.2.2⟩, fun h => ⟨rfl, h.1, zcn_to h.2⟩⟩
theorem dX8_runsTold_4 : decode cX8_runsTold 4 = .ok (.aload_n 0, 1) := by decide +kernel
theorem rX8_runsTold_4 {R : zP} {st : List zV} {M : zM} {a : Nat} : uX8_runsTold R 4 [some (.inr (.inr a))] st M ↔ uX8_runsTold R 5 [some (.inr (.inr a))] (.inr (.inr a) :: st) M := zU_step dX8_runsTold_4 (Or.inl rfl)
theorem dX8_runsTold_5 : decode cX8_runsTold 5 = .ok (.invokevirtual 202, 3) := by decide +kernel
theorem rX8_runsTold_5 {R : zP} {x0 : Option zV} {st : List zV} {M : zM} {a0 : zV} : uX8_runsTold R 5 [x0] (a0 :: st) M ↔ (st.length ≤ 4 ∧ zcn (zv 8 tX8_runs) [a0] M (fun M => uX8_runsTold R 8 [x0] st M)) := Iff.trans (zU_step dX8_runsTold_5 (Or.inl rfl)) ⟨fun h => ⟨h.2.1, zcn_of h.2.2⟩, fun h => ⟨rfl, h.1, zcn_to h.2⟩⟩
theorem dX8_runsTold_8 : decode cX8_runsTold 8 = .ok (.return_, 1) := by decide +kernel
theorem rX8_runsTold_8 {R : zP} {x0 : Option zV} {M : zM} : uX8_runsTold R 8 [x0] [] M ↔ R none M := Iff.trans (zU_step dX8_runsTold_8 (Or.inl rfl)) ⟨fun h => h.2.2, fun h => ⟨rfl, rfl, h⟩⟩
theorem eX8_runsTold {R : zP} {M : zM} {a0 : Nat} : tX8_runsTold [.inr (.inr a0)] M R ↔ uX8_runsTold R 0 [some (.inr (.inr a0))] [] M := ⟨fun h => h.2, fun h => ⟨show 1 ≤ 1 by decide, h⟩⟩
def uX8_atOf (R : zP) : zK := zU fX8 vX8_atOf cX8_atOf R
theorem dX8_atOf_0 : decode cX8_atOf 0 = .ok (.aload_n 0, 1) := by decide +kernel
theorem rX8_atOf_0 {R : zP} {x1 x2 x3 x4 x5 : Option zV} {st : List zV} {M : zM} {a : Nat} : uX8_atOf R 0 [some (.inr (.inr a)), x1, x2, x3, x4, x5] st M ↔ uX8_atOf R 1 [some (.inr (.inr a)), x1, x2, x3, x4, x5] (.inr (.inr a) :: st) M := zU_step dX8_atOf_0 (Or.inl rfl)
theorem dX8_atOf_1 : decode cX8_atOf 1 = .ok (.invokevirtual 205, 3) := by decide +kernel
theorem rX8_atOf_1 {R : zP} {x0 x1 x2 x3 x4 x5 : Option zV} {st : List zV} {M : zM} {a0 : zV} : uX8_atOf R 1 [x0, x1, x2, x3, x4, x5] (a0 :: st) M ↔ (st.length ≤ 4 ∧ zcn (zv 8 tX8_runsTold) [a0] M (fun M => uX8_atOf R 4 [x0, x1, x2, x3, x4, x5] st M)) := Iff.trans (zU_step dX8_atOf_1 (Or.inl rfl)) ⟨fun h => ⟨h.2.1, zcn_of h.2.2⟩, fun h => ⟨rfl, h.1, zcn_to h.2⟩⟩
theorem dX8_atOf_4 : decode cX8_atOf 4 = .ok (.bipush 32, 2) := by decide +kernel
theorem rX8_atOf_4 {R : zP} {x0 x1 x2 x3 x4 x5 : Option zV} {st : List zV} {M : zM} : uX8_atOf R 4 [x0, x1, x2, x3, x4, x5] st M ↔ uX8_atOf R 6 [x0, x1, x2, x3, x4, x5] (.inl (32) :: st) M := Iff.trans (zU_step dX8_atOf_4 (Or.inl rfl)) ⟨fun h => h.2, fun h => ⟨by decide, h⟩⟩
theorem dX8_atOf_6 : decode cX8_atOf 6 = .ok (.iload_n 1, 1) := by decide +kernel
theorem rX8_atOf_6 {R : zP} {x0 x2 x3 x4 x5 : Option zV} {st : List zV} {M : zM} {a : Int} : uX8_atOf R 6 [x0, some (.inl a), x2, x3, x4, x5] st M ↔ uX8_atOf R 7 [x0, some (.inl a), x2, x3, x4, x5] (.inl a :: st) M := zU_step dX8_atOf_6 (Or.inl rfl)
theorem dX8_atOf_7 : decode cX8_atOf 7 = .ok (.imul, 1) := by decide +kernel
theorem rX8_atOf_7 {R : zP} {x0 x1 x2 x3 x4 x5 : Option zV} {st : List zV} {M : zM} {a b : Int} : uX8_atOf R 7 [x0, x1, x2, x3, x4, x5] (.inl b :: .inl a :: st) M ↔ uX8_atOf R 8 [x0, x1, x2, x3, x4, x5] (.inl (a * b) :: st) M := zU_step dX8_atOf_7 (Or.inl rfl)
theorem dX8_atOf_8 : decode cX8_atOf 8 = .ok (.iconst 4, 1) := by decide +kernel
theorem rX8_atOf_8 {R : zP} {x0 x1 x2 x3 x4 x5 : Option zV} {st : List zV} {M : zM} : uX8_atOf R 8 [x0, x1, x2, x3, x4, x5] st M ↔ uX8_atOf R 9 [x0, x1, x2, x3, x4, x5] (.inl (4) :: st) M := zU_step dX8_atOf_8 (Or.inl rfl)
theorem dX8_atOf_9 : decode cX8_atOf 9 = .ok (.iload_n 2, 1) := by decide +kernel
theorem rX8_atOf_9 {R : zP} {x0 x1 x3 x4 x5 : Option zV} {st : List zV} {M : zM} {a : Int} : uX8_atOf R 9 [x0, x1, some (.inl a), x3, x4, x5] st M ↔ uX8_atOf R 10 [x0, x1, some (.inl a), x3, x4, x5] (.inl a :: st) M := zU_step dX8_atOf_9 (Or.inl rfl)
theorem dX8_atOf_10 : decode cX8_atOf 10 = .ok (.imul, 1) := by decide +kernel
theorem rX8_atOf_10 {R : zP} {x0 x1 x2 x3 x4 x5 : Option zV} {st : List zV} {M : zM} {a b : Int} : uX8_atOf R 10 [x0, x1, x2, x3, x4, x5] (.inl b :: .inl a :: st) M ↔ uX8_atOf R 11 [x0, x1, x2, x3, x4, x5] (.inl (a * b) :: st) M := zU_step dX8_atOf_10 (Or.inl rfl)
theorem dX8_atOf_11 : decode cX8_atOf 11 = .ok (.iadd, 1) := by decide +kernel
theorem rX8_atOf_11 {R : zP} {x0 x1 x2 x3 x4 x5 : Option zV} {st : List zV} {M : zM} {a b : Int} : uX8_atOf R 11 [x0, x1, x2, x3, x4, x5] (.inl b :: .inl a :: st) M ↔ uX8_atOf R 12 [x0, x1, x2, x3, x4, x5] (.inl (a + b) :: st) M := zU_step dX8_atOf_11 (Or.inl rfl)
theorem dX8_atOf_12 : decode cX8_atOf 12 = .ok (.iload_n 3, 1) := by decide +kernel
theorem rX8_atOf_12 {R : zP} {x0 x1 x2 x4 x5 : Option zV} {st : List zV} {M : zM} {a : Int} : uX8_atOf R 12 [x0, x1, x2, some (.inl a), x4, x5] st M ↔ uX8_atOf R 13 [x0, x1, x2, some (.inl a), x4, x5] (.inl a :: st) M := zU_step dX8_atOf_12 (Or.inl rfl)
theorem dX8_atOf_13 : decode cX8_atOf 13 = .ok (.iadd, 1) := by decide +kernel
theorem rX8_atOf_13 {R : zP} {x0 x1 x2 x3 x4 x5 : Option zV} {st : List zV} {M : zM} {a b : Int} : uX8_atOf R 13 [x0, x1, x2, x3, x4, x5] (.inl b :: .inl a :: st) M ↔ uX8_atOf R 14 [x0, x1, x2, x3, x4, x5] (.inl (a + b) :: st) M := zU_step dX8_atOf_13 (Or.inl rfl)
theorem dX8_atOf_14 : decode cX8_atOf 14 = .ok (.istore 5, 2) := by decide +kernel
theorem rX8_atOf_14 {R : zP} {x0 x1 x2 x3 x5 : Option zV} {st : List zV} {M : zM} {a : Int} {y : Int} : uX8_atOf R 14 [x0, x1, x2, x3, some (.inl y), x5] (.inl a :: st) M ↔ uX8_atOf R 16 [x0, x1, x2, x3, some (.inl y), some (.inl a)] st M := Iff.trans (zU_step dX8_atOf_14 (Or.inl rfl)) ⟨fun h => h.2, fun h => ⟨show 5 < 6 by decide, h⟩⟩
theorem rX8_atOf_14z {R : zP} {x0 x1 x2 x3 x4 x5 : Option zV} {st : List zV} {M : zM} {a : Int} : uX8_atOf R 14 [x0, x1, x2, x3, x4, x5] (.inl a :: st) M ↔ uX8_atOf R 16 [x0, x1, x2, x3, zkeep x4, some (.inl a)] st M := Iff.trans (zU_step dX8_atOf_14 (Or.inl rfl)) ⟨fun h => h.2, fun h => ⟨show 5 < 6 by decide, h⟩⟩
theorem dX8_atOf_16 : decode cX8_atOf 16 = .ok (.iload 4, 2) := by decide +kernel
theorem rX8_atOf_16 {R : zP} {x0 x1 x2 x3 x5 : Option zV} {st : List zV} {M : zM} {a : Int} : uX8_atOf R 16 [x0, x1, x2, x3, some (.inl a), x5] st M ↔ uX8_atOf R 18 [x0, x1, x2, x3, some (.inl a), x5] (.inl a :: st) M := zU_step dX8_atOf_16 (Or.inl rfl)
theorem dX8_atOf_18 : decode cX8_atOf 18 = .ok (.ifCond .ne 13, 3) := by decide +kernel
theorem rX8_atOf_18 {R : zP} {x0 x1 x2 x3 x4 x5 : Option zV} {st : List zV} {M : zM} {a : Int} : uX8_atOf R 18 [x0, x1, x2, x3, x4, x5] (.inl a :: st) M ↔ (zIR a ∧ if a ≠ 0 then uX8_atOf R 31 [x0, x1, x2, x3, x4, x5] st M else uX8_atOf R 21 [x0, x1, x2, x3, x4, x5] st M) := Iff.trans (zU_step dX8_atOf_18 (Or.inl rfl)) ⟨fun h => ⟨h.1.1, (zite (c := a ≠ 0)).mpr h.2⟩, fun h => ⟨⟨h.1, by decide⟩, (zite (c := a ≠ 0)).mp h.2⟩⟩
theorem dX8_atOf_21 : decode cX8_atOf 21 = .ok (.aload_n 0, 1) := by decide +kernel
theorem rX8_atOf_21 {R : zP} {x1 x2 x3 x4 x5 : Option zV} {st : List zV} {M : zM} {a : Nat} : uX8_atOf R 21 [some (.inr (.inr a)), x1, x2, x3, x4, x5] st M ↔ uX8_atOf R 22 [some (.inr (.inr a)), x1, x2, x3, x4, x5] (.inr (.inr a) :: st) M := zU_step dX8_atOf_21 (Or.inl rfl)
theorem dX8_atOf_22 : decode cX8_atOf 22 = .ok (.getfield 61, 3) := by decide +kernel
theorem rX8_atOf_22 {R : zP} {x0 x1 x2 x3 x4 x5 : Option zV} {st : List zV} {M : zM} {r : Nat} : uX8_atOf R 22 [x0, x1, x2, x3, x4, x5] (.inr (.inr r) :: st) M ↔ zgetx fX8 61 r M (fun v => uX8_atOf R 25 [x0, x1, x2, x3, x4, x5] (v :: st) M) := zU_step dX8_atOf_22 (Or.inl rfl)
theorem dX8_atOf_25 : decode cX8_atOf 25 = .ok (.iload 5, 2) := by decide +kernel
theorem rX8_atOf_25 {R : zP} {x0 x1 x2 x3 x4 : Option zV} {st : List zV} {M : zM} {a : Int} : uX8_atOf R 25 [x0, x1, x2, x3, x4, some (.inl a)] st M ↔ uX8_atOf R 27 [x0, x1, x2, x3, x4, some (.inl a)] (.inl a :: st) M := zU_step dX8_atOf_25 (Or.inl rfl)
theorem dX8_atOf_27 : decode cX8_atOf 27 = .ok (.iaload, 1) := by decide +kernel
theorem rX8_atOf_27 {R : zP} {x0 x1 x2 x3 x4 x5 : Option zV} {st : List zV} {M : zM} {i : Int} {r : Nat} : uX8_atOf R 27 [x0, x1, x2, x3, x4, x5] (.inl i :: .inr (.inr r) :: st) M ↔ zread fX8 0 r M i (fun v => uX8_atOf R 28 [x0, x1, x2, x3, x4, x5] (.inl v :: st) M) := zU_step dX8_atOf_27 (Or.inl rfl)
theorem dX8_atOf_28 : decode cX8_atOf 28 = .ok (.goto 51, 3) := by decide +kernel
theorem rX8_atOf_28 {R : zP} {x0 x1 x2 x3 x4 x5 : Option zV} {st : List zV} {M : zM} : uX8_atOf R 28 [x0, x1, x2, x3, x4, x5] st M ↔ uX8_atOf R 79 [x0, x1, x2, x3, x4, x5] st M := Iff.trans (zU_step dX8_atOf_28 (Or.inl rfl)) ⟨fun h => h.2, fun h => ⟨by decide, h⟩⟩
theorem dX8_atOf_31 : decode cX8_atOf 31 = .ok (.iload 4, 2) := by decide +kernel
theorem rX8_atOf_31 {R : zP} {x0 x1 x2 x3 x5 : Option zV} {st : List zV} {M : zM} {a : Int} : uX8_atOf R 31 [x0, x1, x2, x3, some (.inl a), x5] st M ↔ uX8_atOf R 33 [x0, x1, x2, x3, some (.inl a), x5] (.inl a :: st) M := zU_step dX8_atOf_31 (Or.inl rfl)
theorem dX8_atOf_33 : decode cX8_atOf 33 = .ok (.iconst 1, 1) := by decide +kernel
theorem rX8_atOf_33 {R : zP} {x0 x1 x2 x3 x4 x5 : Option zV} {st : List zV} {M : zM} : uX8_atOf R 33 [x0, x1, x2, x3, x4, x5] st M ↔ uX8_atOf R 34 [x0, x1, x2, x3, x4, x5] (.inl (1) :: st) M := zU_step dX8_atOf_33 (Or.inl rfl)
theorem dX8_atOf_34 : decode cX8_atOf 34 = .ok (.if_icmp .ne 13, 3) := by decide +kernel
theorem rX8_atOf_34 {R : zP} {x0 x1 x2 x3 x4 x5 : Option zV} {st : List zV} {M : zM} {a b : Int} : uX8_atOf R 34 [x0, x1, x2, x3, x4, x5] (.inl b :: .inl a :: st) M ↔ ((zIR a ∧ zIR b) ∧ if a ≠ b then uX8_atOf R 47 [x0, x1, x2, x3, x4, x5] st M else uX8_atOf R 37 [x0, x1, x2, x3, x4, x5] st M) := Iff.trans (zU_step dX8_atOf_34 (Or.inl rfl)) ⟨fun h => ⟨⟨h.1.1, h.1.2.1⟩, (zite (c := a ≠ b)).mpr h.2⟩, fun h => ⟨⟨h.1.1, h.1.2, by decide⟩, (zite (c := a ≠ b)).mp h.2⟩⟩
theorem dX8_atOf_37 : decode cX8_atOf 37 = .ok (.aload_n 0, 1) := by decide +kernel
theorem rX8_atOf_37 {R : zP} {x1 x2 x3 x4 x5 : Option zV} {st : List zV} {M : zM} {a : Nat} : uX8_atOf R 37 [some (.inr (.inr a)), x1, x2, x3, x4, x5] st M ↔ uX8_atOf R 38 [some (.inr (.inr a)), x1, x2, x3, x4, x5] (.inr (.inr a) :: st) M := zU_step dX8_atOf_37 (Or.inl rfl)
theorem dX8_atOf_38 : decode cX8_atOf 38 = .ok (.getfield 64, 3) := by decide +kernel
theorem rX8_atOf_38 {R : zP} {x0 x1 x2 x3 x4 x5 : Option zV} {st : List zV} {M : zM} {r : Nat} : uX8_atOf R 38 [x0, x1, x2, x3, x4, x5] (.inr (.inr r) :: st) M ↔ zgetx fX8 64 r M (fun v => uX8_atOf R 41 [x0, x1, x2, x3, x4, x5] (v :: st) M) := zU_step dX8_atOf_38 (Or.inl rfl)
theorem dX8_atOf_41 : decode cX8_atOf 41 = .ok (.iload 5, 2) := by decide +kernel
theorem rX8_atOf_41 {R : zP} {x0 x1 x2 x3 x4 : Option zV} {st : List zV} {M : zM} {a : Int} : uX8_atOf R 41 [x0, x1, x2, x3, x4, some (.inl a)] st M ↔ uX8_atOf R 43 [x0, x1, x2, x3, x4, some (.inl a)] (.inl a :: st) M := zU_step dX8_atOf_41 (Or.inl rfl)
theorem dX8_atOf_43 : decode cX8_atOf 43 = .ok (.iaload, 1) := by decide +kernel
theorem rX8_atOf_43 {R : zP} {x0 x1 x2 x3 x4 x5 : Option zV} {st : List zV} {M : zM} {i : Int} {r : Nat} : uX8_atOf R 43 [x0, x1, x2, x3, x4, x5] (.inl i :: .inr (.inr r) :: st) M ↔ zread fX8 0 r M i (fun v => uX8_atOf R 44 [x0, x1, x2, x3, x4, x5] (.inl v :: st) M) := zU_step dX8_atOf_43 (Or.inl rfl)
theorem dX8_atOf_44 : decode cX8_atOf 44 = .ok (.goto 35, 3) := by decide +kernel
theorem rX8_atOf_44 {R : zP} {x0 x1 x2 x3 x4 x5 : Option zV} {st : List zV} {M : zM} : uX8_atOf R 44 [x0, x1, x2, x3, x4, x5] st M ↔ uX8_atOf R 79 [x0, x1, x2, x3, x4, x5] st M := Iff.trans (zU_step dX8_atOf_44 (Or.inl rfl)) ⟨fun h => h.2, fun h => ⟨by decide, h⟩⟩
theorem dX8_atOf_47 : decode cX8_atOf 47 = .ok (.iload 4, 2) := by decide +kernel
theorem rX8_atOf_47 {R : zP} {x0 x1 x2 x3 x5 : Option zV} {st : List zV} {M : zM} {a : Int} : uX8_atOf R 47 [x0, x1, x2, x3, some (.inl a), x5] st M ↔ uX8_atOf R 49 [x0, x1, x2, x3, some (.inl a), x5] (.inl a :: st) M := zU_step dX8_atOf_47 (Or.inl rfl)
theorem dX8_atOf_49 : decode cX8_atOf 49 = .ok (.iconst 2, 1) := by decide +kernel
theorem rX8_atOf_49 {R : zP} {x0 x1 x2 x3 x4 x5 : Option zV} {st : List zV} {M : zM} : uX8_atOf R 49 [x0, x1, x2, x3, x4, x5] st M ↔ uX8_atOf R 50 [x0, x1, x2, x3, x4, x5] (.inl (2) :: st) M := zU_step dX8_atOf_49 (Or.inl rfl)
theorem dX8_atOf_50 : decode cX8_atOf 50 = .ok (.if_icmp .ne 13, 3) := by decide +kernel
theorem rX8_atOf_50 {R : zP} {x0 x1 x2 x3 x4 x5 : Option zV} {st : List zV} {M : zM} {a b : Int} : uX8_atOf R 50 [x0, x1, x2, x3, x4, x5] (.inl b :: .inl a :: st) M ↔ ((zIR a ∧ zIR b) ∧ if a ≠ b then uX8_atOf R 63 [x0, x1, x2, x3, x4, x5] st M else uX8_atOf R 53 [x0, x1, x2, x3, x4, x5] st M) := Iff.trans (zU_step dX8_atOf_50 (Or.inl rfl)) ⟨fun h => ⟨⟨h.1.1, h.1.2.1⟩, (zite (c := a ≠ b)).mpr h.2⟩, fun h => ⟨⟨h.1.1, h.1.2, by decide⟩, (zite (c := a ≠ b)).mp h.2⟩⟩
theorem dX8_atOf_53 : decode cX8_atOf 53 = .ok (.aload_n 0, 1) := by decide +kernel
theorem rX8_atOf_53 {R : zP} {x1 x2 x3 x4 x5 : Option zV} {st : List zV} {M : zM} {a : Nat} : uX8_atOf R 53 [some (.inr (.inr a)), x1, x2, x3, x4, x5] st M ↔ uX8_atOf R 54 [some (.inr (.inr a)), x1, x2, x3, x4, x5] (.inr (.inr a) :: st) M := zU_step dX8_atOf_53 (Or.inl rfl)
theorem dX8_atOf_54 : decode cX8_atOf 54 = .ok (.getfield 67, 3) := by decide +kernel
theorem rX8_atOf_54 {R : zP} {x0 x1 x2 x3 x4 x5 : Option zV} {st : List zV} {M : zM} {r : Nat} : uX8_atOf R 54 [x0, x1, x2, x3, x4, x5] (.inr (.inr r) :: st) M ↔ zgetx fX8 67 r M (fun v => uX8_atOf R 57 [x0, x1, x2, x3, x4, x5] (v :: st) M) := zU_step dX8_atOf_54 (Or.inl rfl)
theorem dX8_atOf_57 : decode cX8_atOf 57 = .ok (.iload 5, 2) := by decide +kernel
theorem rX8_atOf_57 {R : zP} {x0 x1 x2 x3 x4 : Option zV} {st : List zV} {M : zM} {a : Int} : uX8_atOf R 57 [x0, x1, x2, x3, x4, some (.inl a)] st M ↔ uX8_atOf R 59 [x0, x1, x2, x3, x4, some (.inl a)] (.inl a :: st) M := zU_step dX8_atOf_57 (Or.inl rfl)
theorem dX8_atOf_59 : decode cX8_atOf 59 = .ok (.iaload, 1) := by decide +kernel
theorem rX8_atOf_59 {R : zP} {x0 x1 x2 x3 x4 x5 : Option zV} {st : List zV} {M : zM} {i : Int} {r : Nat} : uX8_atOf R 59 [x0, x1, x2, x3, x4, x5] (.inl i :: .inr (.inr r) :: st) M ↔ zread fX8 0 r M i (fun v => uX8_atOf R 60 [x0, x1, x2, x3, x4, x5] (.inl v :: st) M) := zU_step dX8_atOf_59 (Or.inl rfl)
theorem dX8_atOf_60 : decode cX8_atOf 60 = .ok (.goto 19, 3) := by decide +kernel
theorem rX8_atOf_60 {R : zP} {x0 x1 x2 x3 x4 x5 : Option zV} {st : List zV} {M : zM} : uX8_atOf R 60 [x0, x1, x2, x3, x4, x5] st M ↔ uX8_atOf R 79 [x0, x1, x2, x3, x4, x5] st M := Iff.trans (zU_step dX8_atOf_60 (Or.inl rfl)) ⟨fun h => h.2, fun h => ⟨by decide, h⟩⟩
theorem dX8_atOf_63 : decode cX8_atOf 63 = .ok (.aload_n 0, 1) := by decide +kernel
theorem rX8_atOf_63 {R : zP} {x1 x2 x3 x4 x5 : Option zV} {st : List zV} {M : zM} {a : Nat} : uX8_atOf R 63 [some (.inr (.inr a)), x1, x2, x3, x4, x5] st M ↔ uX8_atOf R 64 [some (.inr (.inr a)), x1, x2, x3, x4, x5] (.inr (.inr a) :: st) M := zU_step dX8_atOf_63 (Or.inl rfl)
theorem dX8_atOf_64 : decode cX8_atOf 64 = .ok (.getfield 61, 3) := by decide +kernel
theorem rX8_atOf_64 {R : zP} {x0 x1 x2 x3 x4 x5 : Option zV} {st : List zV} {M : zM} {r : Nat} : uX8_atOf R 64 [x0, x1, x2, x3, x4, x5] (.inr (.inr r) :: st) M ↔ zgetx fX8 61 r M (fun v => uX8_atOf R 67 [x0, x1, x2, x3, x4, x5] (v :: st) M) := zU_step dX8_atOf_64 (Or.inl rfl)
theorem dX8_atOf_67 : decode cX8_atOf 67 = .ok (.iload 5, 2) := by decide +kernel
theorem rX8_atOf_67 {R : zP} {x0 x1 x2 x3 x4 : Option zV} {st : List zV} {M : zM} {a : Int} : uX8_atOf R 67 [x0, x1, x2, x3, x4, some (.inl a)] st M ↔ uX8_atOf R 69 [x0, x1, x2, x3, x4, some (.inl a)] (.inl a :: st) M := zU_step dX8_atOf_67 (Or.inl rfl)
theorem dX8_atOf_69 : decode cX8_atOf 69 = .ok (.iaload, 1) := by decide +kernel
theorem rX8_atOf_69 {R : zP} {x0 x1 x2 x3 x4 x5 : Option zV} {st : List zV} {M : zM} {i : Int} {r : Nat} : uX8_atOf R 69 [x0, x1, x2, x3, x4, x5] (.inl i :: .inr (.inr r) :: st) M ↔ zread fX8 0 r M i (fun v => uX8_atOf R 70 [x0, x1, x2, x3, x4, x5] (.inl v :: st) M) := zU_step dX8_atOf_69 (Or.inl rfl)
theorem dX8_atOf_70 : decode cX8_atOf 70 = .ok (.iconst 4, 1) := by decide +kernel
theorem rX8_atOf_70 {R : zP} {x0 x1 x2 x3 x4 x5 : Option zV} {st : List zV} {M : zM} : uX8_atOf R 70 [x0, x1, x2, x3, x4, x5] st M ↔ uX8_atOf R 71 [x0, x1, x2, x3, x4, x5] (.inl (4) :: st) M := zU_step dX8_atOf_70 (Or.inl rfl)
theorem dX8_atOf_71 : decode cX8_atOf 71 = .ok (.if_icmp .le 7, 3) := by decide +kernel
theorem rX8_atOf_71 {R : zP} {x0 x1 x2 x3 x4 x5 : Option zV} {st : List zV} {M : zM} {a b : Int} : uX8_atOf R 71 [x0, x1, x2, x3, x4, x5] (.inl b :: .inl a :: st) M ↔ ((zIR a ∧ zIR b) ∧ if a ≤ b then uX8_atOf R 78 [x0, x1, x2, x3, x4, x5] st M else uX8_atOf R 74 [x0, x1, x2, x3, x4, x5] st M) := Iff.trans (zU_step dX8_atOf_71 (Or.inl rfl)) ⟨fun h => ⟨⟨h.1.1, h.1.2.1⟩, (zite (c := a ≤ b)).mpr h.2⟩, fun h => ⟨⟨h.1.1, h.1.2, by decide⟩, (zite (c := a ≤ b)).mp h.2⟩⟩
theorem dX8_atOf_74 : decode cX8_atOf 74 = .ok (.iconst 1, 1) := by decide +kernel
theorem rX8_atOf_74 {R : zP} {x0 x1 x2 x3 x4 x5 : Option zV} {st : List zV} {M : zM} : uX8_atOf R 74 [x0, x1, x2, x3, x4, x5] st M ↔ uX8_atOf R 75 [x0, x1, x2, x3, x4, x5] (.inl (1) :: st) M := zU_step dX8_atOf_74 (Or.inl rfl)
theorem dX8_atOf_75 : decode cX8_atOf 75 = .ok (.goto 4, 3) := by decide +kernel
theorem rX8_atOf_75 {R : zP} {x0 x1 x2 x3 x4 x5 : Option zV} {st : List zV} {M : zM} : uX8_atOf R 75 [x0, x1, x2, x3, x4, x5] st M ↔ uX8_atOf R 79 [x0, x1, x2, x3, x4, x5] st M := Iff.trans (zU_step dX8_atOf_75 (Or.inl rfl)) ⟨fun h => h.2, fun h => ⟨by decide, h⟩⟩
theorem dX8_atOf_78 : decode cX8_atOf 78 = .ok (.iconst 0, 1) := by decide +kernel
theorem rX8_atOf_78 {R : zP} {x0 x1 x2 x3 x4 x5 : Option zV} {st : List zV} {M : zM} : uX8_atOf R 78 [x0, x1, x2, x3, x4, x5] st M ↔ uX8_atOf R 79 [x0, x1, x2, x3, x4, x5] (.inl (0) :: st) M := zU_step dX8_atOf_78 (Or.inl rfl)
theorem dX8_atOf_79 : decode cX8_atOf 79 = .ok (.ireturn, 1) := by decide +kernel
theorem rX8_atOf_79 {R : zP} {x0 x1 x2 x3 x4 x5 : Option zV} {M : zM} {a : Int} : uX8_atOf R 79 [x0, x1, x2, x3, x4, x5] [.inl a] M ↔ R (some (.inl a)) M := Iff.trans (zU_step dX8_atOf_79 (Or.inl rfl)) ⟨fun h => h.2.2, fun h => ⟨rfl, Or.inl rfl, h⟩⟩
theorem eX8_atOf {R : zP} {M : zM} {a0 : Nat} {p0 : Int} {p1 : Int} {p2 : Int} {p3 : Int} : tX8_atOf [.inr (.inr a0), .inl p0, .inl p1, .inl p2, .inl p3] M R ↔ uX8_atOf R 0 [some (.inr (.inr a0)), some (.inl p0), some (.inl p1), some (.inl p2), some (.inl p3), none] [] M := ⟨fun h => h.2, fun h => ⟨show 5 ≤ 6 by decide, h⟩⟩
def uX8_at (R : zP) : zK := zU fX8 vX8_at cX8_at R
theorem dX8_at_0 : decode cX8_at 0 = .ok (.iload_n 1, 1) := by decide +kernel
theorem rX8_at_0 {R : zP} {x0 x2 x3 x4 : Option zV} {st : List zV} {M : zM} {a : Int} : uX8_at R 0 [x0, some (.inl a), x2, x3, x4] st M ↔ uX8_at R 1 [x0, some (.inl a), x2, x3, x4] (.inl a :: st) M := zU_step dX8_at_0 (Or.inl rfl)
theorem dX8_at_1 : decode cX8_at 1 = .ok (.invokestatic 160, 3) := by decide +kernel
theorem rX8_at_1 {R : zP} {x0 x1 x2 x3 x4 : Option zV} {st : List zV} {M : zM} {a0 : zV} : uX8_at R 1 [x0, x1, x2, x3, x4] (a0 :: st) M ↔ (st.length ≤ 4 ∧ zcv tX8_isTerm [a0] M (fun v M => uX8_at R 4 [x0, x1, x2, x3, x4] (v :: st) M)) := Iff.trans (zU_step dX8_at_1 (Or.inl rfl)) ⟨fun h => ⟨h.2.1, zcv_of h.2.2⟩, fun h => ⟨rfl, h.1, zcv_to h.2⟩⟩
theorem dX8_at_4 : decode cX8_at 4 = .ok (.ifCond .eq 40, 3) := by decide +kernel
theorem rX8_at_4 {R : zP} {x0 x1 x2 x3 x4 : Option zV} {st : List zV} {M : zM} {a : Int} : uX8_at R 4 [x0, x1, x2, x3, x4] (.inl a :: st) M ↔ (zIR a ∧ if a = 0 then uX8_at R 44 [x0, x1, x2, x3, x4] st M else uX8_at R 7 [x0, x1, x2, x3, x4] st M) := Iff.trans (zU_step dX8_at_4 (Or.inl rfl)) ⟨fun h => ⟨h.1.1, (zite (c := a = 0)).mpr h.2⟩, fun h => ⟨⟨h.1, by decide⟩, (zite (c := a = 0)).mp h.2⟩⟩
theorem dX8_at_7 : decode cX8_at 7 = .ok (.aload_n 0, 1) := by decide +kernel
theorem rX8_at_7 {R : zP} {x1 x2 x3 x4 : Option zV} {st : List zV} {M : zM} {a : Nat} : uX8_at R 7 [some (.inr (.inr a)), x1, x2, x3, x4] st M ↔ uX8_at R 8 [some (.inr (.inr a)), x1, x2, x3, x4] (.inr (.inr a) :: st) M := zU_step dX8_at_7 (Or.inl rfl)
theorem dX8_at_8 : decode cX8_at 8 = .ok (.iload_n 2, 1) := by decide +kernel
theorem rX8_at_8 {R : zP} {x0 x1 x3 x4 : Option zV} {st : List zV} {M : zM} {a : Int} : uX8_at R 8 [x0, x1, some (.inl a), x3, x4] st M ↔ uX8_at R 9 [x0, x1, some (.inl a), x3, x4] (.inl a :: st) M := zU_step dX8_at_8 (Or.inl rfl)
theorem dX8_at_9 : decode cX8_at 9 = .ok (.invokevirtual 148, 3) := by decide +kernel
theorem rX8_at_9 {R : zP} {x0 x1 x2 x3 x4 : Option zV} {st : List zV} {M : zM} {a0 a1 : zV} : uX8_at R 9 [x0, x1, x2, x3, x4] (a1 :: a0 :: st) M ↔ (st.length ≤ 4 ∧ zcv (zv 8 tX8_isMember) [a0, a1] M (fun v M => uX8_at R 12 [x0, x1, x2, x3, x4] (v :: st) M)) := Iff.trans (zU_step dX8_at_9 (Or.inl rfl)) ⟨fun h => ⟨h.2.1, zcv_of h.2.2⟩, fun h => ⟨rfl, h.1, zcv_to h.2⟩⟩
theorem dX8_at_12 : decode cX8_at 12 = .ok (.ifCond .eq 32, 3) := by decide +kernel
theorem rX8_at_12 {R : zP} {x0 x1 x2 x3 x4 : Option zV} {st : List zV} {M : zM} {a : Int} : uX8_at R 12 [x0, x1, x2, x3, x4] (.inl a :: st) M ↔ (zIR a ∧ if a = 0 then uX8_at R 44 [x0, x1, x2, x3, x4] st M else uX8_at R 15 [x0, x1, x2, x3, x4] st M) := Iff.trans (zU_step dX8_at_12 (Or.inl rfl)) ⟨fun h => ⟨h.1.1, (zite (c := a = 0)).mpr h.2⟩, fun h => ⟨⟨h.1, by decide⟩, (zite (c := a = 0)).mp h.2⟩⟩
theorem dX8_at_15 : decode cX8_at 15 = .ok (.iload_n 3, 1) := by decide +kernel
theorem rX8_at_15 {R : zP} {x0 x1 x2 x4 : Option zV} {st : List zV} {M : zM} {a : Int} : uX8_at R 15 [x0, x1, x2, some (.inl a), x4] st M ↔ uX8_at R 16 [x0, x1, x2, some (.inl a), x4] (.inl a :: st) M := zU_step dX8_at_15 (Or.inl rfl)
theorem dX8_at_16 : decode cX8_at 16 = .ok (.invokestatic 208, 3) := by decide +kernel
theorem rX8_at_16 {R : zP} {x0 x1 x2 x3 x4 : Option zV} {st : List zV} {M : zM} {a0 : zV} : uX8_at R 16 [x0, x1, x2, x3, x4] (a0 :: st) M ↔ (st.length ≤ 4 ∧ zcv tX8_isQuestion [a0] M (fun v M => uX8_at R 19 [x0, x1, x2, x3, x4] (v :: st) M)) := Iff.trans (zU_step dX8_at_16 (Or.inl rfl)) ⟨fun h => ⟨h.2.1, zcv_of h.2.2⟩, fun h => ⟨rfl, h.1, zcv_to h.2⟩⟩
theorem dX8_at_19 : decode cX8_at 19 = .ok (.ifCond .eq 25, 3) := by decide +kernel
theorem rX8_at_19 {R : zP} {x0 x1 x2 x3 x4 : Option zV} {st : List zV} {M : zM} {a : Int} : uX8_at R 19 [x0, x1, x2, x3, x4] (.inl a :: st) M ↔ (zIR a ∧ if a = 0 then uX8_at R 44 [x0, x1, x2, x3, x4] st M else uX8_at R 22 [x0, x1, x2, x3, x4] st M) := Iff.trans (zU_step dX8_at_19 (Or.inl rfl)) ⟨fun h => ⟨h.1.1, (zite (c := a = 0)).mpr h.2⟩, fun h => ⟨⟨h.1, by decide⟩, (zite (c := a = 0)).mp h.2⟩⟩
theorem dX8_at_22 : decode cX8_at 22 = .ok (.iload 4, 2) := by decide +kernel
theorem rX8_at_22 {R : zP} {x0 x1 x2 x3 : Option zV} {st : List zV} {M : zM} {a : Int} : uX8_at R 22 [x0, x1, x2, x3, some (.inl a)] st M ↔ uX8_at R 24 [x0, x1, x2, x3, some (.inl a)] (.inl a :: st) M := zU_step dX8_at_22 (Or.inl rfl)
theorem dX8_at_24 : decode cX8_at 24 = .ok (.iconst 0, 1) := by decide +kernel
theorem rX8_at_24 {R : zP} {x0 x1 x2 x3 x4 : Option zV} {st : List zV} {M : zM} : uX8_at R 24 [x0, x1, x2, x3, x4] st M ↔ uX8_at R 25 [x0, x1, x2, x3, x4] (.inl (0) :: st) M := zU_step dX8_at_24 (Or.inl rfl)
theorem dX8_at_25 : decode cX8_at 25 = .ok (.iconst 3, 1) := by decide +kernel
theorem rX8_at_25 {R : zP} {x0 x1 x2 x3 x4 : Option zV} {st : List zV} {M : zM} : uX8_at R 25 [x0, x1, x2, x3, x4] st M ↔ uX8_at R 26 [x0, x1, x2, x3, x4] (.inl (3) :: st) M := zU_step dX8_at_25 (Or.inl rfl)
theorem dX8_at_26 : decode cX8_at 26 = .ok (.invokestatic 112, 3) := by decide +kernel
theorem rX8_at_26 {R : zP} {x0 x1 x2 x3 x4 : Option zV} {st : List zV} {M : zM} {a0 a1 a2 : zV} : uX8_at R 26 [x0, x1, x2, x3, x4] (a2 :: a1 :: a0 :: st) M ↔ (st.length ≤ 4 ∧ zcv tX8_in [a0, a1, a2] M (fun v M => uX8_at R 29 [x0, x1, x2, x3, x4] (v :: st) M)) := Iff.trans (zU_step dX8_at_26 (Or.inl rfl)) ⟨fun h => ⟨h.2.1, zcv_of h.2.2⟩, fun h => ⟨rfl, h.1, zcv_to h.2⟩⟩
theorem dX8_at_29 : decode cX8_at 29 = .ok (.ifCond .eq 15, 3) := by decide +kernel
theorem rX8_at_29 {R : zP} {x0 x1 x2 x3 x4 : Option zV} {st : List zV} {M : zM} {a : Int} : uX8_at R 29 [x0, x1, x2, x3, x4] (.inl a :: st) M ↔ (zIR a ∧ if a = 0 then uX8_at R 44 [x0, x1, x2, x3, x4] st M else uX8_at R 32 [x0, x1, x2, x3, x4] st M) := Iff.trans (zU_step dX8_at_29 (Or.inl rfl)) ⟨fun h => ⟨h.1.1, (zite (c := a = 0)).mpr h.2⟩, fun h => ⟨⟨h.1, by decide⟩, (zite (c := a = 0)).mp h.2⟩⟩
theorem dX8_at_32 : decode cX8_at 32 = .ok (.aload_n 0, 1) := by decide +kernel
theorem rX8_at_32 {R : zP} {x1 x2 x3 x4 : Option zV} {st : List zV} {M : zM} {a : Nat} : uX8_at R 32 [some (.inr (.inr a)), x1, x2, x3, x4] st M ↔ uX8_at R 33 [some (.inr (.inr a)), x1, x2, x3, x4] (.inr (.inr a) :: st) M := zU_step dX8_at_32 (Or.inl rfl)
theorem dX8_at_33 : decode cX8_at 33 = .ok (.iload_n 1, 1) := by decide +kernel
theorem rX8_at_33 {R : zP} {x0 x2 x3 x4 : Option zV} {st : List zV} {M : zM} {a : Int} : uX8_at R 33 [x0, some (.inl a), x2, x3, x4] st M ↔ uX8_at R 34 [x0, some (.inl a), x2, x3, x4] (.inl a :: st) M := zU_step dX8_at_33 (Or.inl rfl)
theorem dX8_at_34 : decode cX8_at 34 = .ok (.iload_n 2, 1) := by decide +kernel
theorem rX8_at_34 {R : zP} {x0 x1 x3 x4 : Option zV} {st : List zV} {M : zM} {a : Int} : uX8_at R 34 [x0, x1, some (.inl a), x3, x4] st M ↔ uX8_at R 35 [x0, x1, some (.inl a), x3, x4] (.inl a :: st) M := zU_step dX8_at_34 (Or.inl rfl)
theorem dX8_at_35 : decode cX8_at 35 = .ok (.iload_n 3, 1) := by decide +kernel
theorem rX8_at_35 {R : zP} {x0 x1 x2 x4 : Option zV} {st : List zV} {M : zM} {a : Int} : uX8_at R 35 [x0, x1, x2, some (.inl a), x4] st M ↔ uX8_at R 36 [x0, x1, x2, some (.inl a), x4] (.inl a :: st) M := zU_step dX8_at_35 (Or.inl rfl)
theorem dX8_at_36 : decode cX8_at 36 = .ok (.iload 4, 2) := by decide +kernel
theorem rX8_at_36 {R : zP} {x0 x1 x2 x3 : Option zV} {st : List zV} {M : zM} {a : Int} : uX8_at R 36 [x0, x1, x2, x3, some (.inl a)] st M ↔ uX8_at R 38 [x0, x1, x2, x3, some (.inl a)] (.inl a :: st) M := zU_step dX8_at_36 (Or.inl rfl)
theorem dX8_at_38 : decode cX8_at 38 = .ok (.invokevirtual 211, 3) := by decide +kernel
theorem rX8_at_38 {R : zP} {x0 x1 x2 x3 x4 : Option zV} {st : List zV} {M : zM} {a0 a1 a2 a3 a4 : zV} : uX8_at R 38 [x0, x1, x2, x3, x4] (a4 :: a3 :: a2 :: a1 :: a0 :: st) M ↔ (st.length ≤ 4 ∧ zcv (zv 8 tX8_atOf) [a0, a1, a2, a3, a4] M (fun v M => uX8_at R 41 [x0, x1, x2, x3, x4] (v :: st) M)) := Iff.trans (zU_step dX8_at_38 (Or.inl rfl)) ⟨fun h => ⟨h.2.1, zcv_of h.2.2⟩, fun h => ⟨rfl, h.1, zcv_to h.2⟩⟩
theorem dX8_at_41 : decode cX8_at 41 = .ok (.goto 5, 3) := by decide +kernel
theorem rX8_at_41 {R : zP} {x0 x1 x2 x3 x4 : Option zV} {st : List zV} {M : zM} : uX8_at R 41 [x0, x1, x2, x3, x4] st M ↔ uX8_at R 46 [x0, x1, x2, x3, x4] st M := Iff.trans (zU_step dX8_at_41 (Or.inl rfl)) ⟨fun h => h.2, fun h => ⟨by decide, h⟩⟩
theorem dX8_at_44 : decode cX8_at 44 = .ok (.bipush (-2), 2) := by decide +kernel
theorem rX8_at_44 {R : zP} {x0 x1 x2 x3 x4 : Option zV} {st : List zV} {M : zM} : uX8_at R 44 [x0, x1, x2, x3, x4] st M ↔ uX8_at R 46 [x0, x1, x2, x3, x4] (.inl (-2) :: st) M := Iff.trans (zU_step dX8_at_44 (Or.inl rfl)) ⟨fun h => h.2, fun h => ⟨by decide, h⟩⟩
theorem dX8_at_46 : decode cX8_at 46 = .ok (.ireturn, 1) := by decide +kernel
theorem rX8_at_46 {R : zP} {x0 x1 x2 x3 x4 : Option zV} {M : zM} {a : Int} : uX8_at R 46 [x0, x1, x2, x3, x4] [.inl a] M ↔ R (some (.inl a)) M := Iff.trans (zU_step dX8_at_46 (Or.inl rfl)) ⟨fun h => h.2.2, fun h => ⟨rfl, Or.inl rfl, h⟩⟩
theorem eX8_at {R : zP} {M : zM} {a0 : Nat} {p0 : Int} {p1 : Int} {p2 : Int} {p3 : Int} : tX8_at [.inr (.inr a0), .inl p0, .inl p1, .inl p2, .inl p3] M R ↔ uX8_at R 0 [some (.inr (.inr a0)), some (.inl p0), some (.inl p1), some (.inl p2), some (.inl p3)] [] M := ⟨fun h => h.2, fun h => ⟨show 5 ≤ 5 by decide, h⟩⟩
def uX8_knows (R : zP) : zK := zU fX8 vX8_knows cX8_knows R
theorem dX8_knows_0 : decode cX8_knows 0 = .ok (.iconst 1, 1) := by decide +kernel
theorem rX8_knows_0 {R : zP} {x0 x1 x2 x3 x4 : Option zV} {st : List zV} {M : zM} : uX8_knows R 0 [x0, x1, x2, x3, x4] st M ↔ uX8_knows R 1 [x0, x1, x2, x3, x4] (.inl (1) :: st) M := zU_step dX8_knows_0 (Or.inl rfl)
theorem dX8_knows_1 : decode cX8_knows 1 = .ok (.istore_n 3, 1) := by decide +kernel
theorem rX8_knows_1 {R : zP} {x0 x1 x3 x4 : Option zV} {st : List zV} {M : zM} {a : Int} {y : Int} : uX8_knows R 1 [x0, x1, some (.inl y), x3, x4] (.inl a :: st) M ↔ uX8_knows R 2 [x0, x1, some (.inl y), some (.inl a), x4] st M := Iff.trans (zU_step dX8_knows_1 (Or.inl rfl)) ⟨fun h => h.2, fun h => ⟨show 3 < 5 by decide, h⟩⟩
theorem rX8_knows_1z {R : zP} {x0 x1 x2 x3 x4 : Option zV} {st : List zV} {M : zM} {a : Int} : uX8_knows R 1 [x0, x1, x2, x3, x4] (.inl a :: st) M ↔ uX8_knows R 2 [x0, x1, zkeep x2, some (.inl a), x4] st M := Iff.trans (zU_step dX8_knows_1 (Or.inl rfl)) ⟨fun h => h.2, fun h => ⟨show 3 < 5 by decide, h⟩⟩
theorem dX8_knows_2 : decode cX8_knows 2 = .ok (.iconst 0, 1) := by decide +kernel
theorem rX8_knows_2 {R : zP} {x0 x1 x2 x3 x4 : Option zV} {st : List zV} {M : zM} : uX8_knows R 2 [x0, x1, x2, x3, x4] st M ↔ uX8_knows R 3 [x0, x1, x2, x3, x4] (.inl (0) :: st) M := zU_step dX8_knows_2 (Or.inl rfl)
theorem dX8_knows_3 : decode cX8_knows 3 = .ok (.istore 4, 2) := by decide +kernel
theorem rX8_knows_3 {R : zP} {x0 x1 x2 x4 : Option zV} {st : List zV} {M : zM} {a : Int} {y : Int} : uX8_knows R 3 [x0, x1, x2, some (.inl y), x4] (.inl a :: st) M ↔ uX8_knows R 5 [x0, x1, x2, some (.inl y), some (.inl a)] st M := Iff.trans (zU_step dX8_knows_3 (Or.inl rfl)) ⟨fun h => h.2, fun h => ⟨show 4 < 5 by decide, h⟩⟩
theorem rX8_knows_3z {R : zP} {x0 x1 x2 x3 x4 : Option zV} {st : List zV} {M : zM} {a : Int} : uX8_knows R 3 [x0, x1, x2, x3, x4] (.inl a :: st) M ↔ uX8_knows R 5 [x0, x1, x2, zkeep x3, some (.inl a)] st M := Iff.trans (zU_step dX8_knows_3 (Or.inl rfl)) ⟨fun h => h.2, fun h => ⟨show 4 < 5 by decide, h⟩⟩
theorem dX8_knows_5 : decode cX8_knows 5 = .ok (.iload 4, 2) := by decide +kernel
theorem rX8_knows_5 {R : zP} {x0 x1 x2 x3 : Option zV} {st : List zV} {M : zM} {a : Int} : uX8_knows R 5 [x0, x1, x2, x3, some (.inl a)] st M ↔ uX8_knows R 7 [x0, x1, x2, x3, some (.inl a)] (.inl a :: st) M := zU_step dX8_knows_5 (Or.inl rfl)
theorem dX8_knows_7 : decode cX8_knows 7 = .ok (.iconst 4, 1) := by decide +kernel
theorem rX8_knows_7 {R : zP} {x0 x1 x2 x3 x4 : Option zV} {st : List zV} {M : zM} : uX8_knows R 7 [x0, x1, x2, x3, x4] st M ↔ uX8_knows R 8 [x0, x1, x2, x3, x4] (.inl (4) :: st) M := zU_step dX8_knows_7 (Or.inl rfl)
theorem dX8_knows_8 : decode cX8_knows 8 = .ok (.if_icmp .ge 53, 3) := by decide +kernel
theorem rX8_knows_8 {R : zP} {x0 x1 x2 x3 x4 : Option zV} {st : List zV} {M : zM} {a b : Int} : uX8_knows R 8 [x0, x1, x2, x3, x4] (.inl b :: .inl a :: st) M ↔ ((zIR a ∧ zIR b) ∧ if b ≤ a then uX8_knows R 61 [x0, x1, x2, x3, x4] st M else uX8_knows R 11 [x0, x1, x2, x3, x4] st M) := Iff.trans (zU_step dX8_knows_8 (Or.inl rfl)) ⟨fun h => ⟨⟨h.1.1, h.1.2.1⟩, (zite (c := b ≤ a)).mpr h.2⟩, fun h => ⟨⟨h.1.1, h.1.2, by decide⟩, (zite (c := b ≤ a)).mp h.2⟩⟩
theorem dX8_knows_11 : decode cX8_knows 11 = .ok (.iload_n 3, 1) := by decide +kernel
theorem rX8_knows_11 {R : zP} {x0 x1 x2 x4 : Option zV} {st : List zV} {M : zM} {a : Int} : uX8_knows R 11 [x0, x1, x2, some (.inl a), x4] st M ↔ uX8_knows R 12 [x0, x1, x2, some (.inl a), x4] (.inl a :: st) M := zU_step dX8_knows_11 (Or.inl rfl)
theorem dX8_knows_12 : decode cX8_knows 12 = .ok (.ifCond .eq 41, 3) := by decide +kernel
theorem rX8_knows_12 {R : zP} {x0 x1 x2 x3 x4 : Option zV} {st : List zV} {M : zM} {a : Int} : uX8_knows R 12 [x0, x1, x2, x3, x4] (.inl a :: st) M ↔ (zIR a ∧ if a = 0 then uX8_knows R 53 [x0, x1, x2, x3, x4] st M else uX8_knows R 15 [x0, x1, x2, x3, x4] st M) := Iff.trans (zU_step dX8_knows_12 (Or.inl rfl)) ⟨fun h => ⟨h.1.1, (zite (c := a = 0)).mpr h.2⟩, fun h => ⟨⟨h.1, by decide⟩, (zite (c := a = 0)).mp h.2⟩⟩
theorem dX8_knows_15 : decode cX8_knows 15 = .ok (.aload_n 0, 1) := by decide +kernel
theorem rX8_knows_15 {R : zP} {x1 x2 x3 x4 : Option zV} {st : List zV} {M : zM} {a : Nat} : uX8_knows R 15 [some (.inr (.inr a)), x1, x2, x3, x4] st M ↔ uX8_knows R 16 [some (.inr (.inr a)), x1, x2, x3, x4] (.inr (.inr a) :: st) M := zU_step dX8_knows_15 (Or.inl rfl)
theorem dX8_knows_16 : decode cX8_knows 16 = .ok (.getfield 61, 3) := by decide +kernel
theorem rX8_knows_16 {R : zP} {x0 x1 x2 x3 x4 : Option zV} {st : List zV} {M : zM} {r : Nat} : uX8_knows R 16 [x0, x1, x2, x3, x4] (.inr (.inr r) :: st) M ↔ zgetx fX8 61 r M (fun v => uX8_knows R 19 [x0, x1, x2, x3, x4] (v :: st) M) := zU_step dX8_knows_16 (Or.inl rfl)
theorem dX8_knows_19 : decode cX8_knows 19 = .ok (.bipush 32, 2) := by decide +kernel
theorem rX8_knows_19 {R : zP} {x0 x1 x2 x3 x4 : Option zV} {st : List zV} {M : zM} : uX8_knows R 19 [x0, x1, x2, x3, x4] st M ↔ uX8_knows R 21 [x0, x1, x2, x3, x4] (.inl (32) :: st) M := Iff.trans (zU_step dX8_knows_19 (Or.inl rfl)) ⟨fun h => h.2, fun h => ⟨by decide, h⟩⟩
theorem dX8_knows_21 : decode cX8_knows 21 = .ok (.iload_n 1, 1) := by decide +kernel
theorem rX8_knows_21 {R : zP} {x0 x2 x3 x4 : Option zV} {st : List zV} {M : zM} {a : Int} : uX8_knows R 21 [x0, some (.inl a), x2, x3, x4] st M ↔ uX8_knows R 22 [x0, some (.inl a), x2, x3, x4] (.inl a :: st) M := zU_step dX8_knows_21 (Or.inl rfl)
theorem dX8_knows_22 : decode cX8_knows 22 = .ok (.imul, 1) := by decide +kernel
theorem rX8_knows_22 {R : zP} {x0 x1 x2 x3 x4 : Option zV} {st : List zV} {M : zM} {a b : Int} : uX8_knows R 22 [x0, x1, x2, x3, x4] (.inl b :: .inl a :: st) M ↔ uX8_knows R 23 [x0, x1, x2, x3, x4] (.inl (a * b) :: st) M := zU_step dX8_knows_22 (Or.inl rfl)
theorem dX8_knows_23 : decode cX8_knows 23 = .ok (.iconst 4, 1) := by decide +kernel
theorem rX8_knows_23 {R : zP} {x0 x1 x2 x3 x4 : Option zV} {st : List zV} {M : zM} : uX8_knows R 23 [x0, x1, x2, x3, x4] st M ↔ uX8_knows R 24 [x0, x1, x2, x3, x4] (.inl (4) :: st) M := zU_step dX8_knows_23 (Or.inl rfl)
theorem dX8_knows_24 : decode cX8_knows 24 = .ok (.iload_n 2, 1) := by decide +kernel
theorem rX8_knows_24 {R : zP} {x0 x1 x3 x4 : Option zV} {st : List zV} {M : zM} {a : Int} : uX8_knows R 24 [x0, x1, some (.inl a), x3, x4] st M ↔ uX8_knows R 25 [x0, x1, some (.inl a), x3, x4] (.inl a :: st) M := zU_step dX8_knows_24 (Or.inl rfl)
theorem dX8_knows_25 : decode cX8_knows 25 = .ok (.imul, 1) := by decide +kernel
theorem rX8_knows_25 {R : zP} {x0 x1 x2 x3 x4 : Option zV} {st : List zV} {M : zM} {a b : Int} : uX8_knows R 25 [x0, x1, x2, x3, x4] (.inl b :: .inl a :: st) M ↔ uX8_knows R 26 [x0, x1, x2, x3, x4] (.inl (a * b) :: st) M := zU_step dX8_knows_25 (Or.inl rfl)
theorem dX8_knows_26 : decode cX8_knows 26 = .ok (.iadd, 1) := by decide +kernel
theorem rX8_knows_26 {R : zP} {x0 x1 x2 x3 x4 : Option zV} {st : List zV} {M : zM} {a b : Int} : uX8_knows R 26 [x0, x1, x2, x3, x4] (.inl b :: .inl a :: st) M ↔ uX8_knows R 27 [x0, x1, x2, x3, x4] (.inl (a + b) :: st) M := zU_step dX8_knows_26 (Or.inl rfl)
theorem dX8_knows_27 : decode cX8_knows 27 = .ok (.iload 4, 2) := by decide +kernel
theorem rX8_knows_27 {R : zP} {x0 x1 x2 x3 : Option zV} {st : List zV} {M : zM} {a : Int} : uX8_knows R 27 [x0, x1, x2, x3, some (.inl a)] st M ↔ uX8_knows R 29 [x0, x1, x2, x3, some (.inl a)] (.inl a :: st) M := zU_step dX8_knows_27 (Or.inl rfl)
theorem dX8_knows_29 : decode cX8_knows 29 = .ok (.iadd, 1) := by decide +kernel
theorem rX8_knows_29 {R : zP} {x0 x1 x2 x3 x4 : Option zV} {st : List zV} {M : zM} {a b : Int} : uX8_knows R 29 [x0, x1, x2, x3, x4] (.inl b :: .inl a :: st) M ↔ uX8_knows R 30 [x0, x1, x2, x3, x4] (.inl (a + b) :: st) M := zU_step dX8_knows_29 (Or.inl rfl)
theorem dX8_knows_30 : decode cX8_knows 30 = .ok (.iaload, 1) := by decide +kernel
theorem rX8_knows_30 {R : zP} {x0 x1 x2 x3 x4 : Option zV} {st : List zV} {M : zM} {i : Int} {r : Nat} : uX8_knows R 30 [x0, x1, x2, x3, x4] (.inl i :: .inr (.inr r) :: st) M ↔ zread fX8 0 r M i (fun v => uX8_knows R 31 [x0, x1, x2, x3, x4] (.inl v :: st) M) := zU_step dX8_knows_30 (Or.inl rfl)
theorem dX8_knows_31 : decode cX8_knows 31 = .ok (.aload_n 0, 1) := by decide +kernel
theorem rX8_knows_31 {R : zP} {x1 x2 x3 x4 : Option zV} {st : List zV} {M : zM} {a : Nat} : uX8_knows R 31 [some (.inr (.inr a)), x1, x2, x3, x4] st M ↔ uX8_knows R 32 [some (.inr (.inr a)), x1, x2, x3, x4] (.inr (.inr a) :: st) M := zU_step dX8_knows_31 (Or.inl rfl)
theorem dX8_knows_32 : decode cX8_knows 32 = .ok (.getfield 19, 3) := by decide +kernel
theorem rX8_knows_32 {R : zP} {x0 x1 x2 x3 x4 : Option zV} {st : List zV} {M : zM} {r : Nat} : uX8_knows R 32 [x0, x1, x2, x3, x4] (.inr (.inr r) :: st) M ↔ zgetx fX8 19 r M (fun v => uX8_knows R 35 [x0, x1, x2, x3, x4] (v :: st) M) := zU_step dX8_knows_32 (Or.inl rfl)
theorem dX8_knows_35 : decode cX8_knows 35 = .ok (.iconst 4, 1) := by decide +kernel
theorem rX8_knows_35 {R : zP} {x0 x1 x2 x3 x4 : Option zV} {st : List zV} {M : zM} : uX8_knows R 35 [x0, x1, x2, x3, x4] st M ↔ uX8_knows R 36 [x0, x1, x2, x3, x4] (.inl (4) :: st) M := zU_step dX8_knows_35 (Or.inl rfl)
theorem dX8_knows_36 : decode cX8_knows 36 = .ok (.iload_n 2, 1) := by decide +kernel
theorem rX8_knows_36 {R : zP} {x0 x1 x3 x4 : Option zV} {st : List zV} {M : zM} {a : Int} : uX8_knows R 36 [x0, x1, some (.inl a), x3, x4] st M ↔ uX8_knows R 37 [x0, x1, some (.inl a), x3, x4] (.inl a :: st) M := zU_step dX8_knows_36 (Or.inl rfl)
theorem dX8_knows_37 : decode cX8_knows 37 = .ok (.imul, 1) := by decide +kernel
theorem rX8_knows_37 {R : zP} {x0 x1 x2 x3 x4 : Option zV} {st : List zV} {M : zM} {a b : Int} : uX8_knows R 37 [x0, x1, x2, x3, x4] (.inl b :: .inl a :: st) M ↔ uX8_knows R 38 [x0, x1, x2, x3, x4] (.inl (a * b) :: st) M := zU_step dX8_knows_37 (Or.inl rfl)
theorem dX8_knows_38 : decode cX8_knows 38 = .ok (.iload 4, 2) := by decide +kernel
theorem rX8_knows_38 {R : zP} {x0 x1 x2 x3 : Option zV} {st : List zV} {M : zM} {a : Int} : uX8_knows R 38 [x0, x1, x2, x3, some (.inl a)] st M ↔ uX8_knows R 40 [x0, x1, x2, x3, some (.inl a)] (.inl a :: st) M := zU_step dX8_knows_38 (Or.inl rfl)
theorem dX8_knows_40 : decode cX8_knows 40 = .ok (.iadd, 1) := by decide +kernel
theorem rX8_knows_40 {R : zP} {x0 x1 x2 x3 x4 : Option zV} {st : List zV} {M : zM} {a b : Int} : uX8_knows R 40 [x0, x1, x2, x3, x4] (.inl b :: .inl a :: st) M ↔ uX8_knows R 41 [x0, x1, x2, x3, x4] (.inl (a + b) :: st) M := zU_step dX8_knows_40 (Or.inl rfl)
theorem dX8_knows_41 : decode cX8_knows 41 = .ok (.iaload, 1) := by decide +kernel
theorem rX8_knows_41 {R : zP} {x0 x1 x2 x3 x4 : Option zV} {st : List zV} {M : zM} {i : Int} {r : Nat} : uX8_knows R 41 [x0, x1, x2, x3, x4] (.inl i :: .inr (.inr r) :: st) M ↔ zread fX8 0 r M i (fun v => uX8_knows R 42 [x0, x1, x2, x3, x4] (.inl v :: st) M) := zU_step dX8_knows_41 (Or.inl rfl)
theorem dX8_knows_42 : decode cX8_knows 42 = .ok (.invokestatic 184, 3) := by decide +kernel
theorem rX8_knows_42 {R : zP} {x0 x1 x2 x3 x4 : Option zV} {st : List zV} {M : zM} {a0 a1 : zV} : uX8_knows R 42 [x0, x1, x2, x3, x4] (a1 :: a0 :: st) M ↔ (st.length ≤ 4 ∧ zcv tX8_far [a0, a1] M (fun v M => uX8_knows R 45 [x0, x1, x2, x3, x4] (v :: st) M)) := Iff.trans (zU_step dX8_knows_42 (Or.inl rfl)) ⟨fun h => ⟨h.2.1, zcv_of h.2.2⟩, fun h => ⟨rfl, h.1, zcv_to h.2⟩⟩
theorem dX8_knows_45 : decode cX8_knows 45 = .ok (.iconst 2, 1) := by decide +kernel
theorem rX8_knows_45 {R : zP} {x0 x1 x2 x3 x4 : Option zV} {st : List zV} {M : zM} : uX8_knows R 45 [x0, x1, x2, x3, x4] st M ↔ uX8_knows R 46 [x0, x1, x2, x3, x4] (.inl (2) :: st) M := zU_step dX8_knows_45 (Or.inl rfl)
theorem dX8_knows_46 : decode cX8_knows 46 = .ok (.if_icmp .gt 7, 3) := by decide +kernel
theorem rX8_knows_46 {R : zP} {x0 x1 x2 x3 x4 : Option zV} {st : List zV} {M : zM} {a b : Int} : uX8_knows R 46 [x0, x1, x2, x3, x4] (.inl b :: .inl a :: st) M ↔ ((zIR a ∧ zIR b) ∧ if b < a then uX8_knows R 53 [x0, x1, x2, x3, x4] st M else uX8_knows R 49 [x0, x1, x2, x3, x4] st M) := Iff.trans (zU_step dX8_knows_46 (Or.inl rfl)) ⟨fun h => ⟨⟨h.1.1, h.1.2.1⟩, (zite (c := b < a)).mpr h.2⟩, fun h => ⟨⟨h.1.1, h.1.2, by decide⟩, (zite (c := b < a)).mp h.2⟩⟩
theorem dX8_knows_49 : decode cX8_knows 49 = .ok (.iconst 1, 1) := by decide +kernel
theorem rX8_knows_49 {R : zP} {x0 x1 x2 x3 x4 : Option zV} {st : List zV} {M : zM} : uX8_knows R 49 [x0, x1, x2, x3, x4] st M ↔ uX8_knows R 50 [x0, x1, x2, x3, x4] (.inl (1) :: st) M := zU_step dX8_knows_49 (Or.inl rfl)
theorem dX8_knows_50 : decode cX8_knows 50 = .ok (.goto 4, 3) := by decide +kernel
theorem rX8_knows_50 {R : zP} {x0 x1 x2 x3 x4 : Option zV} {st : List zV} {M : zM} : uX8_knows R 50 [x0, x1, x2, x3, x4] st M ↔ uX8_knows R 54 [x0, x1, x2, x3, x4] st M := Iff.trans (zU_step dX8_knows_50 (Or.inl rfl)) ⟨fun h => h.2, fun h => ⟨by decide, h⟩⟩
theorem dX8_knows_53 : decode cX8_knows 53 = .ok (.iconst 0, 1) := by decide +kernel
theorem rX8_knows_53 {R : zP} {x0 x1 x2 x3 x4 : Option zV} {st : List zV} {M : zM} : uX8_knows R 53 [x0, x1, x2, x3, x4] st M ↔ uX8_knows R 54 [x0, x1, x2, x3, x4] (.inl (0) :: st) M := zU_step dX8_knows_53 (Or.inl rfl)
theorem dX8_knows_54 : decode cX8_knows 54 = .ok (.istore_n 3, 1) := by decide +kernel
theorem rX8_knows_54 {R : zP} {x0 x1 x3 x4 : Option zV} {st : List zV} {M : zM} {a : Int} {y : Int} : uX8_knows R 54 [x0, x1, some (.inl y), x3, x4] (.inl a :: st) M ↔ uX8_knows R 55 [x0, x1, some (.inl y), some (.inl a), x4] st M := Iff.trans (zU_step dX8_knows_54 (Or.inl rfl)) ⟨fun h => h.2, fun h => ⟨show 3 < 5 by decide, h⟩⟩
theorem rX8_knows_54z {R : zP} {x0 x1 x2 x3 x4 : Option zV} {st : List zV} {M : zM} {a : Int} : uX8_knows R 54 [x0, x1, x2, x3, x4] (.inl a :: st) M ↔ uX8_knows R 55 [x0, x1, zkeep x2, some (.inl a), x4] st M := Iff.trans (zU_step dX8_knows_54 (Or.inl rfl)) ⟨fun h => h.2, fun h => ⟨show 3 < 5 by decide, h⟩⟩
theorem dX8_knows_55 : decode cX8_knows 55 = .ok (.iinc 4 1, 3) := by decide +kernel
theorem rX8_knows_55 {R : zP} {x0 x1 x2 : Option zV} {st : List zV} {M : zM} {a : Int} {y : Int} : uX8_knows R 55 [x0, x1, x2, some (.inl y), some (.inl a)] st M ↔ uX8_knows R 58 [x0, x1, x2, some (.inl y), some (.inl (a + (1)))] st M := Iff.trans (zU_step dX8_knows_55 (Or.inl rfl)) ⟨fun h => h.2, fun h => ⟨show 4 < 5 by decide, h⟩⟩
theorem rX8_knows_55z {R : zP} {x0 x1 x2 x3 : Option zV} {st : List zV} {M : zM} {a : Int} : uX8_knows R 55 [x0, x1, x2, x3, some (.inl a)] st M ↔ uX8_knows R 58 [x0, x1, x2, zkeep x3, some (.inl (a + (1)))] st M := Iff.trans (zU_step dX8_knows_55 (Or.inl rfl)) ⟨fun h => h.2, fun h => ⟨show 4 < 5 by decide, h⟩⟩
theorem dX8_knows_58 : decode cX8_knows 58 = .ok (.goto (-53), 3) := by decide +kernel
theorem rX8_knows_58 {R : zP} {x0 x1 x2 x3 x4 : Option zV} {st : List zV} {M : zM} : uX8_knows R 58 [x0, x1, x2, x3, x4] st M ↔ uX8_knows R 5 [x0, x1, x2, x3, x4] st M := Iff.trans (zU_step dX8_knows_58 (Or.inl rfl)) ⟨fun h => h.2, fun h => ⟨by decide, h⟩⟩
theorem dX8_knows_61 : decode cX8_knows 61 = .ok (.iload_n 3, 1) := by decide +kernel
theorem rX8_knows_61 {R : zP} {x0 x1 x2 x4 : Option zV} {st : List zV} {M : zM} {a : Int} : uX8_knows R 61 [x0, x1, x2, some (.inl a), x4] st M ↔ uX8_knows R 62 [x0, x1, x2, some (.inl a), x4] (.inl a :: st) M := zU_step dX8_knows_61 (Or.inl rfl)
theorem dX8_knows_62 : decode cX8_knows 62 = .ok (.ireturn, 1) := by decide +kernel
theorem rX8_knows_62 {R : zP} {x0 x1 x2 x3 x4 : Option zV} {M : zM} {a : Int} : uX8_knows R 62 [x0, x1, x2, x3, x4] [.inl a] M ↔ ((a = 0 ∨ a = 1) ∧ R (some (.inl a)) M) := Iff.trans (zU_step dX8_knows_62 (Or.inl rfl)) ⟨fun h => ⟨zret2 rfl h.2.1, h.2.2⟩, fun h => ⟨rfl, Or.inr (Or.inl ⟨rfl, h.1⟩), h.2⟩⟩
theorem eX8_knows {R : zP} {M : zM} {a0 : Nat} {p0 : Int} {p1 : Int} : tX8_knows [.inr (.inr a0), .inl p0, .inl p1] M R ↔ uX8_knows R 0 [some (.inr (.inr a0)), some (.inl p0), some (.inl p1), none, none] [] M := ⟨fun h => h.2, fun h => ⟨show 3 ≤ 5 by decide, h⟩⟩
def uX8_ableOf (R : zP) : zK := zU fX8 vX8_ableOf cX8_ableOf R
theorem dX8_ableOf_0 : decode cX8_ableOf 0 = .ok (.aload_n 0, 1) := by decide +kernel
theorem rX8_ableOf_0 {R : zP} {x1 x2 x3 : Option zV} {st : List zV} {M : zM} {a : Nat} : uX8_ableOf R 0 [some (.inr (.inr a)), x1, x2, x3] st M ↔ uX8_ableOf R 1 [some (.inr (.inr a)), x1, x2, x3] (.inr (.inr a) :: st) M := zU_step dX8_ableOf_0 (Or.inl rfl)
theorem dX8_ableOf_1 : decode cX8_ableOf 1 = .ok (.invokevirtual 205, 3) := by decide +kernel
theorem rX8_ableOf_1 {R : zP} {x0 x1 x2 x3 : Option zV} {st : List zV} {M : zM} {a0 : zV} : uX8_ableOf R 1 [x0, x1, x2, x3] (a0 :: st) M ↔ (st.length ≤ 4 ∧ zcn (zv 8 tX8_runsTold) [a0] M (fun M => uX8_ableOf R 4 [x0, x1, x2, x3] st M)) := Iff.trans (zU_step dX8_ableOf_1 (Or.inl rfl)) ⟨fun h => ⟨h.2.1, zcn_of h.2.2⟩, fun h => ⟨rfl, h.1, zcn_to h.2⟩⟩
theorem dX8_ableOf_4 : decode cX8_ableOf 4 = .ok (.iload_n 3, 1) := by decide +kernel
theorem rX8_ableOf_4 {R : zP} {x0 x1 x2 : Option zV} {st : List zV} {M : zM} {a : Int} : uX8_ableOf R 4 [x0, x1, x2, some (.inl a)] st M ↔ uX8_ableOf R 5 [x0, x1, x2, some (.inl a)] (.inl a :: st) M := zU_step dX8_ableOf_4 (Or.inl rfl)
theorem dX8_ableOf_5 : decode cX8_ableOf 5 = .ok (.ifCond .ne 17, 3) := by decide +kernel
theorem rX8_ableOf_5 {R : zP} {x0 x1 x2 x3 : Option zV} {st : List zV} {M : zM} {a : Int} : uX8_ableOf R 5 [x0, x1, x2, x3] (.inl a :: st) M ↔ (zIR a ∧ if a ≠ 0 then uX8_ableOf R 22 [x0, x1, x2, x3] st M else uX8_ableOf R 8 [x0, x1, x2, x3] st M) := Iff.trans (zU_step dX8_ableOf_5 (Or.inl rfl)) ⟨fun h => ⟨h.1.1, (zite (c := a ≠ 0)).mpr h.2⟩, fun h => ⟨⟨h.1, by decide⟩, (zite (c := a ≠ 0)).mp h.2⟩⟩
theorem dX8_ableOf_8 : decode cX8_ableOf 8 = .ok (.aload_n 0, 1) := by decide +kernel
theorem rX8_ableOf_8 {R : zP} {x1 x2 x3 : Option zV} {st : List zV} {M : zM} {a : Nat} : uX8_ableOf R 8 [some (.inr (.inr a)), x1, x2, x3] st M ↔ uX8_ableOf R 9 [some (.inr (.inr a)), x1, x2, x3] (.inr (.inr a) :: st) M := zU_step dX8_ableOf_8 (Or.inl rfl)
theorem dX8_ableOf_9 : decode cX8_ableOf 9 = .ok (.getfield 70, 3) := by decide +kernel
theorem rX8_ableOf_9 {R : zP} {x0 x1 x2 x3 : Option zV} {st : List zV} {M : zM} {r : Nat} : uX8_ableOf R 9 [x0, x1, x2, x3] (.inr (.inr r) :: st) M ↔ zgetx fX8 70 r M (fun v => uX8_ableOf R 12 [x0, x1, x2, x3] (v :: st) M) := zU_step dX8_ableOf_9 (Or.inl rfl)
theorem dX8_ableOf_12 : decode cX8_ableOf 12 = .ok (.bipush 8, 2) := by decide +kernel
theorem rX8_ableOf_12 {R : zP} {x0 x1 x2 x3 : Option zV} {st : List zV} {M : zM} : uX8_ableOf R 12 [x0, x1, x2, x3] st M ↔ uX8_ableOf R 14 [x0, x1, x2, x3] (.inl (8) :: st) M := Iff.trans (zU_step dX8_ableOf_12 (Or.inl rfl)) ⟨fun h => h.2, fun h => ⟨by decide, h⟩⟩
theorem dX8_ableOf_14 : decode cX8_ableOf 14 = .ok (.iload_n 1, 1) := by decide +kernel
theorem rX8_ableOf_14 {R : zP} {x0 x2 x3 : Option zV} {st : List zV} {M : zM} {a : Int} : uX8_ableOf R 14 [x0, some (.inl a), x2, x3] st M ↔ uX8_ableOf R 15 [x0, some (.inl a), x2, x3] (.inl a :: st) M := zU_step dX8_ableOf_14 (Or.inl rfl)
theorem dX8_ableOf_15 : decode cX8_ableOf 15 = .ok (.imul, 1) := by decide +kernel
theorem rX8_ableOf_15 {R : zP} {x0 x1 x2 x3 : Option zV} {st : List zV} {M : zM} {a b : Int} : uX8_ableOf R 15 [x0, x1, x2, x3] (.inl b :: .inl a :: st) M ↔ uX8_ableOf R 16 [x0, x1, x2, x3] (.inl (a * b) :: st) M := zU_step dX8_ableOf_15 (Or.inl rfl)
theorem dX8_ableOf_16 : decode cX8_ableOf 16 = .ok (.iload_n 2, 1) := by decide +kernel
theorem rX8_ableOf_16 {R : zP} {x0 x1 x3 : Option zV} {st : List zV} {M : zM} {a : Int} : uX8_ableOf R 16 [x0, x1, some (.inl a), x3] st M ↔ uX8_ableOf R 17 [x0, x1, some (.inl a), x3] (.inl a :: st) M := zU_step dX8_ableOf_16 (Or.inl rfl)
theorem dX8_ableOf_17 : decode cX8_ableOf 17 = .ok (.iadd, 1) := by decide +kernel
theorem rX8_ableOf_17 {R : zP} {x0 x1 x2 x3 : Option zV} {st : List zV} {M : zM} {a b : Int} : uX8_ableOf R 17 [x0, x1, x2, x3] (.inl b :: .inl a :: st) M ↔ uX8_ableOf R 18 [x0, x1, x2, x3] (.inl (a + b) :: st) M := zU_step dX8_ableOf_17 (Or.inl rfl)
theorem dX8_ableOf_18 : decode cX8_ableOf 18 = .ok (.iaload, 1) := by decide +kernel
theorem rX8_ableOf_18 {R : zP} {x0 x1 x2 x3 : Option zV} {st : List zV} {M : zM} {i : Int} {r : Nat} : uX8_ableOf R 18 [x0, x1, x2, x3] (.inl i :: .inr (.inr r) :: st) M ↔ zread fX8 0 r M i (fun v => uX8_ableOf R 19 [x0, x1, x2, x3] (.inl v :: st) M) := zU_step dX8_ableOf_18 (Or.inl rfl)
theorem dX8_ableOf_19 : decode cX8_ableOf 19 = .ok (.goto 36, 3) := by decide +kernel
theorem rX8_ableOf_19 {R : zP} {x0 x1 x2 x3 : Option zV} {st : List zV} {M : zM} : uX8_ableOf R 19 [x0, x1, x2, x3] st M ↔ uX8_ableOf R 55 [x0, x1, x2, x3] st M := Iff.trans (zU_step dX8_ableOf_19 (Or.inl rfl)) ⟨fun h => h.2, fun h => ⟨by decide, h⟩⟩
theorem dX8_ableOf_22 : decode cX8_ableOf 22 = .ok (.iload_n 3, 1) := by decide +kernel
theorem rX8_ableOf_22 {R : zP} {x0 x1 x2 : Option zV} {st : List zV} {M : zM} {a : Int} : uX8_ableOf R 22 [x0, x1, x2, some (.inl a)] st M ↔ uX8_ableOf R 23 [x0, x1, x2, some (.inl a)] (.inl a :: st) M := zU_step dX8_ableOf_22 (Or.inl rfl)
theorem dX8_ableOf_23 : decode cX8_ableOf 23 = .ok (.iconst 1, 1) := by decide +kernel
theorem rX8_ableOf_23 {R : zP} {x0 x1 x2 x3 : Option zV} {st : List zV} {M : zM} : uX8_ableOf R 23 [x0, x1, x2, x3] st M ↔ uX8_ableOf R 24 [x0, x1, x2, x3] (.inl (1) :: st) M := zU_step dX8_ableOf_23 (Or.inl rfl)
theorem dX8_ableOf_24 : decode cX8_ableOf 24 = .ok (.if_icmp .ne 17, 3) := by decide +kernel
theorem rX8_ableOf_24 {R : zP} {x0 x1 x2 x3 : Option zV} {st : List zV} {M : zM} {a b : Int} : uX8_ableOf R 24 [x0, x1, x2, x3] (.inl b :: .inl a :: st) M ↔ ((zIR a ∧ zIR b) ∧ if a ≠ b then uX8_ableOf R 41 [x0, x1, x2, x3] st M else uX8_ableOf R 27 [x0, x1, x2, x3] st M) := Iff.trans (zU_step dX8_ableOf_24 (Or.inl rfl)) ⟨fun h => ⟨⟨h.1.1, h.1.2.1⟩, (zite (c := a ≠ b)).mpr h.2⟩, fun h => ⟨⟨h.1.1, h.1.2, by decide⟩, (zite (c := a ≠ b)).mp h.2⟩⟩
theorem dX8_ableOf_27 : decode cX8_ableOf 27 = .ok (.aload_n 0, 1) := by decide +kernel
theorem rX8_ableOf_27 {R : zP} {x1 x2 x3 : Option zV} {st : List zV} {M : zM} {a : Nat} : uX8_ableOf R 27 [some (.inr (.inr a)), x1, x2, x3] st M ↔ uX8_ableOf R 28 [some (.inr (.inr a)), x1, x2, x3] (.inr (.inr a) :: st) M := zU_step dX8_ableOf_27 (Or.inl rfl)
theorem dX8_ableOf_28 : decode cX8_ableOf 28 = .ok (.getfield 73, 3) := by decide +kernel
theorem rX8_ableOf_28 {R : zP} {x0 x1 x2 x3 : Option zV} {st : List zV} {M : zM} {r : Nat} : uX8_ableOf R 28 [x0, x1, x2, x3] (.inr (.inr r) :: st) M ↔ zgetx fX8 73 r M (fun v => uX8_ableOf R 31 [x0, x1, x2, x3] (v :: st) M) := zU_step dX8_ableOf_28 (Or.inl rfl)
theorem dX8_ableOf_31 : decode cX8_ableOf 31 = .ok (.bipush 8, 2) := by decide +kernel
theorem rX8_ableOf_31 {R : zP} {x0 x1 x2 x3 : Option zV} {st : List zV} {M : zM} : uX8_ableOf R 31 [x0, x1, x2, x3] st M ↔ uX8_ableOf R 33 [x0, x1, x2, x3] (.inl (8) :: st) M := Iff.trans (zU_step dX8_ableOf_31 (Or.inl rfl)) ⟨fun h => h.2, fun h => ⟨by decide, h⟩⟩
theorem dX8_ableOf_33 : decode cX8_ableOf 33 = .ok (.iload_n 1, 1) := by decide +kernel
theorem rX8_ableOf_33 {R : zP} {x0 x2 x3 : Option zV} {st : List zV} {M : zM} {a : Int} : uX8_ableOf R 33 [x0, some (.inl a), x2, x3] st M ↔ uX8_ableOf R 34 [x0, some (.inl a), x2, x3] (.inl a :: st) M := zU_step dX8_ableOf_33 (Or.inl rfl)
theorem dX8_ableOf_34 : decode cX8_ableOf 34 = .ok (.imul, 1) := by decide +kernel
theorem rX8_ableOf_34 {R : zP} {x0 x1 x2 x3 : Option zV} {st : List zV} {M : zM} {a b : Int} : uX8_ableOf R 34 [x0, x1, x2, x3] (.inl b :: .inl a :: st) M ↔ uX8_ableOf R 35 [x0, x1, x2, x3] (.inl (a * b) :: st) M := zU_step dX8_ableOf_34 (Or.inl rfl)
theorem dX8_ableOf_35 : decode cX8_ableOf 35 = .ok (.iload_n 2, 1) := by decide +kernel
theorem rX8_ableOf_35 {R : zP} {x0 x1 x3 : Option zV} {st : List zV} {M : zM} {a : Int} : uX8_ableOf R 35 [x0, x1, some (.inl a), x3] st M ↔ uX8_ableOf R 36 [x0, x1, some (.inl a), x3] (.inl a :: st) M := zU_step dX8_ableOf_35 (Or.inl rfl)
theorem dX8_ableOf_36 : decode cX8_ableOf 36 = .ok (.iadd, 1) := by decide +kernel
theorem rX8_ableOf_36 {R : zP} {x0 x1 x2 x3 : Option zV} {st : List zV} {M : zM} {a b : Int} : uX8_ableOf R 36 [x0, x1, x2, x3] (.inl b :: .inl a :: st) M ↔ uX8_ableOf R 37 [x0, x1, x2, x3] (.inl (a + b) :: st) M := zU_step dX8_ableOf_36 (Or.inl rfl)
theorem dX8_ableOf_37 : decode cX8_ableOf 37 = .ok (.iaload, 1) := by decide +kernel
theorem rX8_ableOf_37 {R : zP} {x0 x1 x2 x3 : Option zV} {st : List zV} {M : zM} {i : Int} {r : Nat} : uX8_ableOf R 37 [x0, x1, x2, x3] (.inl i :: .inr (.inr r) :: st) M ↔ zread fX8 0 r M i (fun v => uX8_ableOf R 38 [x0, x1, x2, x3] (.inl v :: st) M) := zU_step dX8_ableOf_37 (Or.inl rfl)
theorem dX8_ableOf_38 : decode cX8_ableOf 38 = .ok (.goto 17, 3) := by decide +kernel
theorem rX8_ableOf_38 {R : zP} {x0 x1 x2 x3 : Option zV} {st : List zV} {M : zM} : uX8_ableOf R 38 [x0, x1, x2, x3] st M ↔ uX8_ableOf R 55 [x0, x1, x2, x3] st M := Iff.trans (zU_step dX8_ableOf_38 (Or.inl rfl)) ⟨fun h => h.2, fun h => ⟨by decide, h⟩⟩
theorem dX8_ableOf_41 : decode cX8_ableOf 41 = .ok (.aload_n 0, 1) := by decide +kernel
theorem rX8_ableOf_41 {R : zP} {x1 x2 x3 : Option zV} {st : List zV} {M : zM} {a : Nat} : uX8_ableOf R 41 [some (.inr (.inr a)), x1, x2, x3] st M ↔ uX8_ableOf R 42 [some (.inr (.inr a)), x1, x2, x3] (.inr (.inr a) :: st) M := zU_step dX8_ableOf_41 (Or.inl rfl)
theorem dX8_ableOf_42 : decode cX8_ableOf 42 = .ok (.iload_n 1, 1) := by decide +kernel
theorem rX8_ableOf_42 {R : zP} {x0 x2 x3 : Option zV} {st : List zV} {M : zM} {a : Int} : uX8_ableOf R 42 [x0, some (.inl a), x2, x3] st M ↔ uX8_ableOf R 43 [x0, some (.inl a), x2, x3] (.inl a :: st) M := zU_step dX8_ableOf_42 (Or.inl rfl)
theorem dX8_ableOf_43 : decode cX8_ableOf 43 = .ok (.iload_n 2, 1) := by decide +kernel
theorem rX8_ableOf_43 {R : zP} {x0 x1 x3 : Option zV} {st : List zV} {M : zM} {a : Int} : uX8_ableOf R 43 [x0, x1, some (.inl a), x3] st M ↔ uX8_ableOf R 44 [x0, x1, some (.inl a), x3] (.inl a :: st) M := zU_step dX8_ableOf_43 (Or.inl rfl)
theorem dX8_ableOf_44 : decode cX8_ableOf 44 = .ok (.invokevirtual 215, 3) := by decide +kernel
theorem rX8_ableOf_44 {R : zP} {x0 x1 x2 x3 : Option zV} {st : List zV} {M : zM} {a0 a1 a2 : zV} : uX8_ableOf R 44 [x0, x1, x2, x3] (a2 :: a1 :: a0 :: st) M ↔ (st.length ≤ 4 ∧ zcv (zv 8 tX8_knows) [a0, a1, a2] M (fun v M => uX8_ableOf R 47 [x0, x1, x2, x3] (v :: st) M)) := Iff.trans (zU_step dX8_ableOf_44 (Or.inl rfl)) ⟨fun h => ⟨h.2.1, zcv_of h.2.2⟩, fun h => ⟨rfl, h.1, zcv_to h.2⟩⟩
theorem dX8_ableOf_47 : decode cX8_ableOf 47 = .ok (.ifCond .eq 7, 3) := by decide +kernel
theorem rX8_ableOf_47 {R : zP} {x0 x1 x2 x3 : Option zV} {st : List zV} {M : zM} {a : Int} : uX8_ableOf R 47 [x0, x1, x2, x3] (.inl a :: st) M ↔ (zIR a ∧ if a = 0 then uX8_ableOf R 54 [x0, x1, x2, x3] st M else uX8_ableOf R 50 [x0, x1, x2, x3] st M) := Iff.trans (zU_step dX8_ableOf_47 (Or.inl rfl)) ⟨fun h => ⟨h.1.1, (zite (c := a = 0)).mpr h.2⟩, fun h => ⟨⟨h.1, by decide⟩, (zite (c := a = 0)).mp h.2⟩⟩
theorem dX8_ableOf_50 : decode cX8_ableOf 50 = .ok (.iconst 1, 1) := by decide +kernel
theorem rX8_ableOf_50 {R : zP} {x0 x1 x2 x3 : Option zV} {st : List zV} {M : zM} : uX8_ableOf R 50 [x0, x1, x2, x3] st M ↔ uX8_ableOf R 51 [x0, x1, x2, x3] (.inl (1) :: st) M := zU_step dX8_ableOf_50 (Or.inl rfl)
theorem dX8_ableOf_51 : decode cX8_ableOf 51 = .ok (.goto 4, 3) := by decide +kernel
theorem rX8_ableOf_51 {R : zP} {x0 x1 x2 x3 : Option zV} {st : List zV} {M : zM} : uX8_ableOf R 51 [x0, x1, x2, x3] st M ↔ uX8_ableOf R 55 [x0, x1, x2, x3] st M := Iff.trans (zU_step dX8_ableOf_51 (Or.inl rfl)) ⟨fun h => h.2, fun h => ⟨by decide, h⟩⟩
theorem dX8_ableOf_54 : decode cX8_ableOf 54 = .ok (.iconst 0, 1) := by decide +kernel
theorem rX8_ableOf_54 {R : zP} {x0 x1 x2 x3 : Option zV} {st : List zV} {M : zM} : uX8_ableOf R 54 [x0, x1, x2, x3] st M ↔ uX8_ableOf R 55 [x0, x1, x2, x3] (.inl (0) :: st) M := zU_step dX8_ableOf_54 (Or.inl rfl)
theorem dX8_ableOf_55 : decode cX8_ableOf 55 = .ok (.ireturn, 1) := by decide +kernel
theorem rX8_ableOf_55 {R : zP} {x0 x1 x2 x3 : Option zV} {M : zM} {a : Int} : uX8_ableOf R 55 [x0, x1, x2, x3] [.inl a] M ↔ R (some (.inl a)) M := Iff.trans (zU_step dX8_ableOf_55 (Or.inl rfl)) ⟨fun h => h.2.2, fun h => ⟨rfl, Or.inl rfl, h⟩⟩
theorem eX8_ableOf {R : zP} {M : zM} {a0 : Nat} {p0 : Int} {p1 : Int} {p2 : Int} : tX8_ableOf [.inr (.inr a0), .inl p0, .inl p1, .inl p2] M R ↔ uX8_ableOf R 0 [some (.inr (.inr a0)), some (.inl p0), some (.inl p1), some (.inl p2)] [] M := ⟨fun h => h.2, fun h => ⟨show 4 ≤ 4 by decide, h⟩⟩
def uX8_able (R : zP) : zK := zU fX8 vX8_able cX8_able R
theorem dX8_able_0 : decode cX8_able 0 = .ok (.iload_n 1, 1) := by decide +kernel
theorem rX8_able_0 {R : zP} {x0 x2 x3 : Option zV} {st : List zV} {M : zM} {a : Int} : uX8_able R 0 [x0, some (.inl a), x2, x3] st M ↔ uX8_able R 1 [x0, some (.inl a), x2, x3] (.inl a :: st) M := zU_step dX8_able_0 (Or.inl rfl)
theorem dX8_able_1 : decode cX8_able 1 = .ok (.invokestatic 160, 3) := by decide +kernel
theorem rX8_able_1 {R : zP} {x0 x1 x2 x3 : Option zV} {st : List zV} {M : zM} {a0 : zV} : uX8_able R 1 [x0, x1, x2, x3] (a0 :: st) M ↔ (st.length ≤ 4 ∧ zcv tX8_isTerm [a0] M (fun v M => uX8_able R 4 [x0, x1, x2, x3] (v :: st) M)) := Iff.trans (zU_step dX8_able_1 (Or.inl rfl)) ⟨fun h => ⟨h.2.1, zcv_of h.2.2⟩, fun h => ⟨rfl, h.1, zcv_to h.2⟩⟩
theorem dX8_able_4 : decode cX8_able 4 = .ok (.ifCond .eq 30, 3) := by decide +kernel
theorem rX8_able_4 {R : zP} {x0 x1 x2 x3 : Option zV} {st : List zV} {M : zM} {a : Int} : uX8_able R 4 [x0, x1, x2, x3] (.inl a :: st) M ↔ (zIR a ∧ if a = 0 then uX8_able R 34 [x0, x1, x2, x3] st M else uX8_able R 7 [x0, x1, x2, x3] st M) := Iff.trans (zU_step dX8_able_4 (Or.inl rfl)) ⟨fun h => ⟨h.1.1, (zite (c := a = 0)).mpr h.2⟩, fun h => ⟨⟨h.1, by decide⟩, (zite (c := a = 0)).mp h.2⟩⟩
theorem dX8_able_7 : decode cX8_able 7 = .ok (.aload_n 0, 1) := by decide +kernel
theorem rX8_able_7 {R : zP} {x1 x2 x3 : Option zV} {st : List zV} {M : zM} {a : Nat} : uX8_able R 7 [some (.inr (.inr a)), x1, x2, x3] st M ↔ uX8_able R 8 [some (.inr (.inr a)), x1, x2, x3] (.inr (.inr a) :: st) M := zU_step dX8_able_7 (Or.inl rfl)
theorem dX8_able_8 : decode cX8_able 8 = .ok (.iload_n 2, 1) := by decide +kernel
theorem rX8_able_8 {R : zP} {x0 x1 x3 : Option zV} {st : List zV} {M : zM} {a : Int} : uX8_able R 8 [x0, x1, some (.inl a), x3] st M ↔ uX8_able R 9 [x0, x1, some (.inl a), x3] (.inl a :: st) M := zU_step dX8_able_8 (Or.inl rfl)
theorem dX8_able_9 : decode cX8_able 9 = .ok (.invokevirtual 148, 3) := by decide +kernel
theorem rX8_able_9 {R : zP} {x0 x1 x2 x3 : Option zV} {st : List zV} {M : zM} {a0 a1 : zV} : uX8_able R 9 [x0, x1, x2, x3] (a1 :: a0 :: st) M ↔ (st.length ≤ 4 ∧ zcv (zv 8 tX8_isMember) [a0, a1] M (fun v M => uX8_able R 12 [x0, x1, x2, x3] (v :: st) M)) := Iff.trans (zU_step dX8_able_9 (Or.inl rfl)) ⟨fun h => ⟨h.2.1, zcv_of h.2.2⟩, fun h => ⟨rfl, h.1, zcv_to h.2⟩⟩
theorem dX8_able_12 : decode cX8_able 12 = .ok (.ifCond .eq 22, 3) := by decide +kernel
theorem rX8_able_12 {R : zP} {x0 x1 x2 x3 : Option zV} {st : List zV} {M : zM} {a : Int} : uX8_able R 12 [x0, x1, x2, x3] (.inl a :: st) M ↔ (zIR a ∧ if a = 0 then uX8_able R 34 [x0, x1, x2, x3] st M else uX8_able R 15 [x0, x1, x2, x3] st M) := Iff.trans (zU_step dX8_able_12 (Or.inl rfl)) ⟨fun h => ⟨h.1.1, (zite (c := a = 0)).mpr h.2⟩, fun h => ⟨⟨h.1, by decide⟩, (zite (c := a = 0)).mp h.2⟩⟩
theorem dX8_able_15 : decode cX8_able 15 = .ok (.iload_n 3, 1) := by decide +kernel
theorem rX8_able_15 {R : zP} {x0 x1 x2 : Option zV} {st : List zV} {M : zM} {a : Int} : uX8_able R 15 [x0, x1, x2, some (.inl a)] st M ↔ uX8_able R 16 [x0, x1, x2, some (.inl a)] (.inl a :: st) M := zU_step dX8_able_15 (Or.inl rfl)
theorem dX8_able_16 : decode cX8_able 16 = .ok (.iconst 0, 1) := by decide +kernel
theorem rX8_able_16 {R : zP} {x0 x1 x2 x3 : Option zV} {st : List zV} {M : zM} : uX8_able R 16 [x0, x1, x2, x3] st M ↔ uX8_able R 17 [x0, x1, x2, x3] (.inl (0) :: st) M := zU_step dX8_able_16 (Or.inl rfl)
theorem dX8_able_17 : decode cX8_able 17 = .ok (.iconst 2, 1) := by decide +kernel
theorem rX8_able_17 {R : zP} {x0 x1 x2 x3 : Option zV} {st : List zV} {M : zM} : uX8_able R 17 [x0, x1, x2, x3] st M ↔ uX8_able R 18 [x0, x1, x2, x3] (.inl (2) :: st) M := zU_step dX8_able_17 (Or.inl rfl)
theorem dX8_able_18 : decode cX8_able 18 = .ok (.invokestatic 112, 3) := by decide +kernel
theorem rX8_able_18 {R : zP} {x0 x1 x2 x3 : Option zV} {st : List zV} {M : zM} {a0 a1 a2 : zV} : uX8_able R 18 [x0, x1, x2, x3] (a2 :: a1 :: a0 :: st) M ↔ (st.length ≤ 4 ∧ zcv tX8_in [a0, a1, a2] M (fun v M => uX8_able R 21 [x0, x1, x2, x3] (v :: st) M)) := Iff.trans (zU_step dX8_able_18 (Or.inl rfl)) ⟨fun h => ⟨h.2.1, zcv_of h.2.2⟩, fun h => ⟨rfl, h.1, zcv_to h.2⟩⟩
theorem dX8_able_21 : decode cX8_able 21 = .ok (.ifCond .eq 13, 3) := by decide +kernel
theorem rX8_able_21 {R : zP} {x0 x1 x2 x3 : Option zV} {st : List zV} {M : zM} {a : Int} : uX8_able R 21 [x0, x1, x2, x3] (.inl a :: st) M ↔ (zIR a ∧ if a = 0 then uX8_able R 34 [x0, x1, x2, x3] st M else uX8_able R 24 [x0, x1, x2, x3] st M) := Iff.trans (zU_step dX8_able_21 (Or.inl rfl)) ⟨fun h => ⟨h.1.1, (zite (c := a = 0)).mpr h.2⟩, fun h => ⟨⟨h.1, by decide⟩, (zite (c := a = 0)).mp h.2⟩⟩
theorem dX8_able_24 : decode cX8_able 24 = .ok (.aload_n 0, 1) := by decide +kernel
theorem rX8_able_24 {R : zP} {x1 x2 x3 : Option zV} {st : List zV} {M : zM} {a : Nat} : uX8_able R 24 [some (.inr (.inr a)), x1, x2, x3] st M ↔ uX8_able R 25 [some (.inr (.inr a)), x1, x2, x3] (.inr (.inr a) :: st) M := zU_step dX8_able_24 (Or.inl rfl)
theorem dX8_able_25 : decode cX8_able 25 = .ok (.iload_n 1, 1) := by decide +kernel
theorem rX8_able_25 {R : zP} {x0 x2 x3 : Option zV} {st : List zV} {M : zM} {a : Int} : uX8_able R 25 [x0, some (.inl a), x2, x3] st M ↔ uX8_able R 26 [x0, some (.inl a), x2, x3] (.inl a :: st) M := zU_step dX8_able_25 (Or.inl rfl)
theorem dX8_able_26 : decode cX8_able 26 = .ok (.iload_n 2, 1) := by decide +kernel
theorem rX8_able_26 {R : zP} {x0 x1 x3 : Option zV} {st : List zV} {M : zM} {a : Int} : uX8_able R 26 [x0, x1, some (.inl a), x3] st M ↔ uX8_able R 27 [x0, x1, some (.inl a), x3] (.inl a :: st) M := zU_step dX8_able_26 (Or.inl rfl)
theorem dX8_able_27 : decode cX8_able 27 = .ok (.iload_n 3, 1) := by decide +kernel
theorem rX8_able_27 {R : zP} {x0 x1 x2 : Option zV} {st : List zV} {M : zM} {a : Int} : uX8_able R 27 [x0, x1, x2, some (.inl a)] st M ↔ uX8_able R 28 [x0, x1, x2, some (.inl a)] (.inl a :: st) M := zU_step dX8_able_27 (Or.inl rfl)
theorem dX8_able_28 : decode cX8_able 28 = .ok (.invokevirtual 218, 3) := by decide +kernel
theorem rX8_able_28 {R : zP} {x0 x1 x2 x3 : Option zV} {st : List zV} {M : zM} {a0 a1 a2 a3 : zV} : uX8_able R 28 [x0, x1, x2, x3] (a3 :: a2 :: a1 :: a0 :: st) M ↔ (st.length ≤ 4 ∧ zcv (zv 8 tX8_ableOf) [a0, a1, a2, a3] M (fun v M => uX8_able R 31 [x0, x1, x2, x3] (v :: st) M)) := Iff.trans (zU_step dX8_able_28 (Or.inl rfl)) ⟨fun h => ⟨h.2.1, zcv_of h.2.2⟩, fun h => ⟨rfl, h.1, zcv_to h.2⟩⟩
theorem dX8_able_31 : decode cX8_able 31 = .ok (.goto 5, 3) := by decide +kernel
theorem rX8_able_31 {R : zP} {x0 x1 x2 x3 : Option zV} {st : List zV} {M : zM} : uX8_able R 31 [x0, x1, x2, x3] st M ↔ uX8_able R 36 [x0, x1, x2, x3] st M := Iff.trans (zU_step dX8_able_31 (Or.inl rfl)) ⟨fun h => h.2, fun h => ⟨by decide, h⟩⟩
theorem dX8_able_34 : decode cX8_able 34 = .ok (.bipush (-2), 2) := by decide +kernel
theorem rX8_able_34 {R : zP} {x0 x1 x2 x3 : Option zV} {st : List zV} {M : zM} : uX8_able R 34 [x0, x1, x2, x3] st M ↔ uX8_able R 36 [x0, x1, x2, x3] (.inl (-2) :: st) M := Iff.trans (zU_step dX8_able_34 (Or.inl rfl)) ⟨fun h => h.2, fun h => ⟨by decide, h⟩⟩
theorem dX8_able_36 : decode cX8_able 36 = .ok (.ireturn, 1) := by decide +kernel
theorem rX8_able_36 {R : zP} {x0 x1 x2 x3 : Option zV} {M : zM} {a : Int} : uX8_able R 36 [x0, x1, x2, x3] [.inl a] M ↔ R (some (.inl a)) M := Iff.trans (zU_step dX8_able_36 (Or.inl rfl)) ⟨fun h => h.2.2, fun h => ⟨rfl, Or.inl rfl, h⟩⟩
theorem eX8_able {R : zP} {M : zM} {a0 : Nat} {p0 : Int} {p1 : Int} {p2 : Int} : tX8_able [.inr (.inr a0), .inl p0, .inl p1, .inl p2] M R ↔ uX8_able R 0 [some (.inr (.inr a0)), some (.inl p0), some (.inl p1), some (.inl p2)] [] M := ⟨fun h => h.2, fun h => ⟨show 4 ≤ 4 by decide, h⟩⟩
def uX8_isAye (R : zP) : zK := zU fX8 vX8_isAye cX8_isAye R
theorem dX8_isAye_0 : decode cX8_isAye 0 = .ok (.aload_n 0, 1) := by decide +kernel
theorem rX8_isAye_0 {R : zP} {x1 x2 x3 : Option zV} {st : List zV} {M : zM} {a : Nat} : uX8_isAye R 0 [some (.inr (.inr a)), x1, x2, x3] st M ↔ uX8_isAye R 1 [some (.inr (.inr a)), x1, x2, x3] (.inr (.inr a) :: st) M := zU_step dX8_isAye_0 (Or.inl rfl)
theorem dX8_isAye_1 : decode cX8_isAye 1 = .ok (.getfield 61, 3) := by decide +kernel
theorem rX8_isAye_1 {R : zP} {x0 x1 x2 x3 : Option zV} {st : List zV} {M : zM} {r : Nat} : uX8_isAye R 1 [x0, x1, x2, x3] (.inr (.inr r) :: st) M ↔ zgetx fX8 61 r M (fun v => uX8_isAye R 4 [x0, x1, x2, x3] (v :: st) M) := zU_step dX8_isAye_1 (Or.inl rfl)
theorem dX8_isAye_4 : decode cX8_isAye 4 = .ok (.bipush 32, 2) := by decide +kernel
theorem rX8_isAye_4 {R : zP} {x0 x1 x2 x3 : Option zV} {st : List zV} {M : zM} : uX8_isAye R 4 [x0, x1, x2, x3] st M ↔ uX8_isAye R 6 [x0, x1, x2, x3] (.inl (32) :: st) M := Iff.trans (zU_step dX8_isAye_4 (Or.inl rfl)) ⟨fun h => h.2, fun h => ⟨by decide, h⟩⟩
theorem dX8_isAye_6 : decode cX8_isAye 6 = .ok (.iload_n 1, 1) := by decide +kernel
theorem rX8_isAye_6 {R : zP} {x0 x2 x3 : Option zV} {st : List zV} {M : zM} {a : Int} : uX8_isAye R 6 [x0, some (.inl a), x2, x3] st M ↔ uX8_isAye R 7 [x0, some (.inl a), x2, x3] (.inl a :: st) M := zU_step dX8_isAye_6 (Or.inl rfl)
theorem dX8_isAye_7 : decode cX8_isAye 7 = .ok (.imul, 1) := by decide +kernel
theorem rX8_isAye_7 {R : zP} {x0 x1 x2 x3 : Option zV} {st : List zV} {M : zM} {a b : Int} : uX8_isAye R 7 [x0, x1, x2, x3] (.inl b :: .inl a :: st) M ↔ uX8_isAye R 8 [x0, x1, x2, x3] (.inl (a * b) :: st) M := zU_step dX8_isAye_7 (Or.inl rfl)
theorem dX8_isAye_8 : decode cX8_isAye 8 = .ok (.iconst 4, 1) := by decide +kernel
theorem rX8_isAye_8 {R : zP} {x0 x1 x2 x3 : Option zV} {st : List zV} {M : zM} : uX8_isAye R 8 [x0, x1, x2, x3] st M ↔ uX8_isAye R 9 [x0, x1, x2, x3] (.inl (4) :: st) M := zU_step dX8_isAye_8 (Or.inl rfl)
theorem dX8_isAye_9 : decode cX8_isAye 9 = .ok (.iload_n 2, 1) := by decide +kernel
theorem rX8_isAye_9 {R : zP} {x0 x1 x3 : Option zV} {st : List zV} {M : zM} {a : Int} : uX8_isAye R 9 [x0, x1, some (.inl a), x3] st M ↔ uX8_isAye R 10 [x0, x1, some (.inl a), x3] (.inl a :: st) M := zU_step dX8_isAye_9 (Or.inl rfl)
theorem dX8_isAye_10 : decode cX8_isAye 10 = .ok (.imul, 1) := by decide +kernel
theorem rX8_isAye_10 {R : zP} {x0 x1 x2 x3 : Option zV} {st : List zV} {M : zM} {a b : Int} : uX8_isAye R 10 [x0, x1, x2, x3] (.inl b :: .inl a :: st) M ↔ uX8_isAye R 11 [x0, x1, x2, x3] (.inl (a * b) :: st) M := zU_step dX8_isAye_10 (Or.inl rfl)
theorem dX8_isAye_11 : decode cX8_isAye 11 = .ok (.iadd, 1) := by decide +kernel
theorem rX8_isAye_11 {R : zP} {x0 x1 x2 x3 : Option zV} {st : List zV} {M : zM} {a b : Int} : uX8_isAye R 11 [x0, x1, x2, x3] (.inl b :: .inl a :: st) M ↔ uX8_isAye R 12 [x0, x1, x2, x3] (.inl (a + b) :: st) M := zU_step dX8_isAye_11 (Or.inl rfl)
theorem dX8_isAye_12 : decode cX8_isAye 12 = .ok (.iload_n 3, 1) := by decide +kernel
theorem rX8_isAye_12 {R : zP} {x0 x1 x2 : Option zV} {st : List zV} {M : zM} {a : Int} : uX8_isAye R 12 [x0, x1, x2, some (.inl a)] st M ↔ uX8_isAye R 13 [x0, x1, x2, some (.inl a)] (.inl a :: st) M := zU_step dX8_isAye_12 (Or.inl rfl)
theorem dX8_isAye_13 : decode cX8_isAye 13 = .ok (.iadd, 1) := by decide +kernel
theorem rX8_isAye_13 {R : zP} {x0 x1 x2 x3 : Option zV} {st : List zV} {M : zM} {a b : Int} : uX8_isAye R 13 [x0, x1, x2, x3] (.inl b :: .inl a :: st) M ↔ uX8_isAye R 14 [x0, x1, x2, x3] (.inl (a + b) :: st) M := zU_step dX8_isAye_13 (Or.inl rfl)
theorem dX8_isAye_14 : decode cX8_isAye 14 = .ok (.iaload, 1) := by decide +kernel
theorem rX8_isAye_14 {R : zP} {x0 x1 x2 x3 : Option zV} {st : List zV} {M : zM} {i : Int} {r : Nat} : uX8_isAye R 14 [x0, x1, x2, x3] (.inl i :: .inr (.inr r) :: st) M ↔ zread fX8 0 r M i (fun v => uX8_isAye R 15 [x0, x1, x2, x3] (.inl v :: st) M) := zU_step dX8_isAye_14 (Or.inl rfl)
theorem dX8_isAye_15 : decode cX8_isAye 15 = .ok (.iconst 4, 1) := by decide +kernel
theorem rX8_isAye_15 {R : zP} {x0 x1 x2 x3 : Option zV} {st : List zV} {M : zM} : uX8_isAye R 15 [x0, x1, x2, x3] st M ↔ uX8_isAye R 16 [x0, x1, x2, x3] (.inl (4) :: st) M := zU_step dX8_isAye_15 (Or.inl rfl)
theorem dX8_isAye_16 : decode cX8_isAye 16 = .ok (.if_icmp .le 7, 3) := by decide +kernel
theorem rX8_isAye_16 {R : zP} {x0 x1 x2 x3 : Option zV} {st : List zV} {M : zM} {a b : Int} : uX8_isAye R 16 [x0, x1, x2, x3] (.inl b :: .inl a :: st) M ↔ ((zIR a ∧ zIR b) ∧ if a ≤ b then uX8_isAye R 23 [x0, x1, x2, x3] st M else uX8_isAye R 19 [x0, x1, x2, x3] st M) := Iff.trans (zU_step dX8_isAye_16 (Or.inl rfl)) ⟨fun h => ⟨⟨h.1.1, h.1.2.1⟩, (zite (c := a ≤ b)).mpr h.2⟩, fun h => ⟨⟨h.1.1, h.1.2, by decide⟩, (zite (c := a ≤ b)).mp h.2⟩⟩
theorem dX8_isAye_19 : decode cX8_isAye 19 = .ok (.iconst 1, 1) := by decide +kernel
theorem rX8_isAye_19 {R : zP} {x0 x1 x2 x3 : Option zV} {st : List zV} {M : zM} : uX8_isAye R 19 [x0, x1, x2, x3] st M ↔ uX8_isAye R 20 [x0, x1, x2, x3] (.inl (1) :: st) M := zU_step dX8_isAye_19 (Or.inl rfl)
theorem dX8_isAye_20 : decode cX8_isAye 20 = .ok (.goto 4, 3) := by decide +kernel
theorem rX8_isAye_20 {R : zP} {x0 x1 x2 x3 : Option zV} {st : List zV} {M : zM} : uX8_isAye R 20 [x0, x1, x2, x3] st M ↔ uX8_isAye R 24 [x0, x1, x2, x3] st M := Iff.trans (zU_step dX8_isAye_20 (Or.inl rfl)) ⟨fun h => h.2, fun h => ⟨by decide, h⟩⟩
theorem dX8_isAye_23 : decode cX8_isAye 23 = .ok (.iconst 0, 1) := by decide +kernel
theorem rX8_isAye_23 {R : zP} {x0 x1 x2 x3 : Option zV} {st : List zV} {M : zM} : uX8_isAye R 23 [x0, x1, x2, x3] st M ↔ uX8_isAye R 24 [x0, x1, x2, x3] (.inl (0) :: st) M := zU_step dX8_isAye_23 (Or.inl rfl)
theorem dX8_isAye_24 : decode cX8_isAye 24 = .ok (.ireturn, 1) := by decide +kernel
theorem rX8_isAye_24 {R : zP} {x0 x1 x2 x3 : Option zV} {M : zM} {a : Int} : uX8_isAye R 24 [x0, x1, x2, x3] [.inl a] M ↔ ((a = 0 ∨ a = 1) ∧ R (some (.inl a)) M) := Iff.trans (zU_step dX8_isAye_24 (Or.inl rfl)) ⟨fun h => ⟨zret2 rfl h.2.1, h.2.2⟩, fun h => ⟨rfl, Or.inr (Or.inl ⟨rfl, h.1⟩), h.2⟩⟩
theorem eX8_isAye {R : zP} {M : zM} {a0 : Nat} {p0 : Int} {p1 : Int} {p2 : Int} : tX8_isAye [.inr (.inr a0), .inl p0, .inl p1, .inl p2] M R ↔ uX8_isAye R 0 [some (.inr (.inr a0)), some (.inl p0), some (.inl p1), some (.inl p2)] [] M := ⟨fun h => h.2, fun h => ⟨show 4 ≤ 4 by decide, h⟩⟩
def uX8_ayesNow (R : zP) : zK := zU fX8 vX8_ayesNow cX8_ayesNow R
theorem dX8_ayesNow_0 : decode cX8_ayesNow 0 = .ok (.iconst 0, 1) := by decide +kernel
theorem rX8_ayesNow_0 {R : zP} {x0 x1 x2 x3 x4 : Option zV} {st : List zV} {M : zM} : uX8_ayesNow R 0 [x0, x1, x2, x3, x4] st M ↔ uX8_ayesNow R 1 [x0, x1, x2, x3, x4] (.inl (0) :: st) M := zU_step dX8_ayesNow_0 (Or.inl rfl)
theorem dX8_ayesNow_1 : decode cX8_ayesNow 1 = .ok (.istore_n 3, 1) := by decide +kernel
theorem rX8_ayesNow_1 {R : zP} {x0 x1 x3 x4 : Option zV} {st : List zV} {M : zM} {a : Int} {y : Int} : uX8_ayesNow R 1 [x0, x1, some (.inl y), x3, x4] (.inl a :: st) M ↔ uX8_ayesNow R 2 [x0, x1, some (.inl y), some (.inl a), x4] st M := Iff.trans (zU_step dX8_ayesNow_1 (Or.inl rfl)) ⟨fun h => h.2, fun h => ⟨show 3 < 5 by decide, h⟩⟩
theorem rX8_ayesNow_1z {R : zP} {x0 x1 x2 x3 x4 : Option zV} {st : List zV} {M : zM} {a : Int} : uX8_ayesNow R 1 [x0, x1, x2, x3, x4] (.inl a :: st) M ↔ uX8_ayesNow R 2 [x0, x1, zkeep x2, some (.inl a), x4] st M := Iff.trans (zU_step dX8_ayesNow_1 (Or.inl rfl)) ⟨fun h => h.2, fun h => ⟨show 3 < 5 by decide, h⟩⟩
theorem dX8_ayesNow_2 : decode cX8_ayesNow 2 = .ok (.iconst 0, 1) := by decide +kernel
theorem rX8_ayesNow_2 {R : zP} {x0 x1 x2 x3 x4 : Option zV} {st : List zV} {M : zM} : uX8_ayesNow R 2 [x0, x1, x2, x3, x4] st M ↔ uX8_ayesNow R 3 [x0, x1, x2, x3, x4] (.inl (0) :: st) M := zU_step dX8_ayesNow_2 (Or.inl rfl)
theorem dX8_ayesNow_3 : decode cX8_ayesNow 3 = .ok (.istore 4, 2) := by decide +kernel
theorem rX8_ayesNow_3 {R : zP} {x0 x1 x2 x4 : Option zV} {st : List zV} {M : zM} {a : Int} {y : Int} : uX8_ayesNow R 3 [x0, x1, x2, some (.inl y), x4] (.inl a :: st) M ↔ uX8_ayesNow R 5 [x0, x1, x2, some (.inl y), some (.inl a)] st M := Iff.trans (zU_step dX8_ayesNow_3 (Or.inl rfl)) ⟨fun h => h.2, fun h => ⟨show 4 < 5 by decide, h⟩⟩
theorem rX8_ayesNow_3z {R : zP} {x0 x1 x2 x3 x4 : Option zV} {st : List zV} {M : zM} {a : Int} : uX8_ayesNow R 3 [x0, x1, x2, x3, x4] (.inl a :: st) M ↔ uX8_ayesNow R 5 [x0, x1, x2, zkeep x3, some (.inl a)] st M := Iff.trans (zU_step dX8_ayesNow_3 (Or.inl rfl)) ⟨fun h => h.2, fun h => ⟨show 4 < 5 by decide, h⟩⟩
theorem dX8_ayesNow_5 : decode cX8_ayesNow 5 = .ok (.iload 4, 2) := by decide +kernel
theorem rX8_ayesNow_5 {R : zP} {x0 x1 x2 x3 : Option zV} {st : List zV} {M : zM} {a : Int} : uX8_ayesNow R 5 [x0, x1, x2, x3, some (.inl a)] st M ↔ uX8_ayesNow R 7 [x0, x1, x2, x3, some (.inl a)] (.inl a :: st) M := zU_step dX8_ayesNow_5 (Or.inl rfl)
theorem dX8_ayesNow_7 : decode cX8_ayesNow 7 = .ok (.aload_n 0, 1) := by decide +kernel
theorem rX8_ayesNow_7 {R : zP} {x1 x2 x3 x4 : Option zV} {st : List zV} {M : zM} {a : Nat} : uX8_ayesNow R 7 [some (.inr (.inr a)), x1, x2, x3, x4] st M ↔ uX8_ayesNow R 8 [some (.inr (.inr a)), x1, x2, x3, x4] (.inr (.inr a) :: st) M := zU_step dX8_ayesNow_7 (Or.inl rfl)
theorem dX8_ayesNow_8 : decode cX8_ayesNow 8 = .ok (.getfield 127, 3) := by decide +kernel
theorem rX8_ayesNow_8 {R : zP} {x0 x1 x2 x3 x4 : Option zV} {st : List zV} {M : zM} {r : Nat} : uX8_ayesNow R 8 [x0, x1, x2, x3, x4] (.inr (.inr r) :: st) M ↔ zgetx fX8 127 r M (fun v => uX8_ayesNow R 11 [x0, x1, x2, x3, x4] (v :: st) M) := zU_step dX8_ayesNow_8 (Or.inl rfl)
theorem dX8_ayesNow_11 : decode cX8_ayesNow 11 = .ok (.if_icmp .ge 28, 3) := by decide +kernel
theorem rX8_ayesNow_11 {R : zP} {x0 x1 x2 x3 x4 : Option zV} {st : List zV} {M : zM} {a b : Int} : uX8_ayesNow R 11 [x0, x1, x2, x3, x4] (.inl b :: .inl a :: st) M ↔ ((zIR a ∧ zIR b) ∧ if b ≤ a then uX8_ayesNow R 39 [x0, x1, x2, x3, x4] st M else uX8_ayesNow R 14 [x0, x1, x2, x3, x4] st M) := Iff.trans (zU_step dX8_ayesNow_11 (Or.inl rfl)) ⟨fun h => ⟨⟨h.1.1, h.1.2.1⟩, (zite (c := b ≤ a)).mpr h.2⟩, fun h => ⟨⟨h.1.1, h.1.2, by decide⟩, (zite (c := b ≤ a)).mp h.2⟩⟩
theorem dX8_ayesNow_14 : decode cX8_ayesNow 14 = .ok (.iload_n 3, 1) := by decide +kernel
theorem rX8_ayesNow_14 {R : zP} {x0 x1 x2 x4 : Option zV} {st : List zV} {M : zM} {a : Int} : uX8_ayesNow R 14 [x0, x1, x2, some (.inl a), x4] st M ↔ uX8_ayesNow R 15 [x0, x1, x2, some (.inl a), x4] (.inl a :: st) M := zU_step dX8_ayesNow_14 (Or.inl rfl)
theorem dX8_ayesNow_15 : decode cX8_ayesNow 15 = .ok (.aload_n 0, 1) := by decide +kernel
theorem rX8_ayesNow_15 {R : zP} {x1 x2 x3 x4 : Option zV} {st : List zV} {M : zM} {a : Nat} : uX8_ayesNow R 15 [some (.inr (.inr a)), x1, x2, x3, x4] st M ↔ uX8_ayesNow R 16 [some (.inr (.inr a)), x1, x2, x3, x4] (.inr (.inr a) :: st) M := zU_step dX8_ayesNow_15 (Or.inl rfl)
theorem dX8_ayesNow_16 : decode cX8_ayesNow 16 = .ok (.iload_n 1, 1) := by decide +kernel
theorem rX8_ayesNow_16 {R : zP} {x0 x2 x3 x4 : Option zV} {st : List zV} {M : zM} {a : Int} : uX8_ayesNow R 16 [x0, some (.inl a), x2, x3, x4] st M ↔ uX8_ayesNow R 17 [x0, some (.inl a), x2, x3, x4] (.inl a :: st) M := zU_step dX8_ayesNow_16 (Or.inl rfl)
theorem dX8_ayesNow_17 : decode cX8_ayesNow 17 = .ok (.iload 4, 2) := by decide +kernel
theorem rX8_ayesNow_17 {R : zP} {x0 x1 x2 x3 : Option zV} {st : List zV} {M : zM} {a : Int} : uX8_ayesNow R 17 [x0, x1, x2, x3, some (.inl a)] st M ↔ uX8_ayesNow R 19 [x0, x1, x2, x3, some (.inl a)] (.inl a :: st) M := zU_step dX8_ayesNow_17 (Or.inl rfl)
theorem dX8_ayesNow_19 : decode cX8_ayesNow 19 = .ok (.iload_n 2, 1) := by decide +kernel
theorem rX8_ayesNow_19 {R : zP} {x0 x1 x3 x4 : Option zV} {st : List zV} {M : zM} {a : Int} : uX8_ayesNow R 19 [x0, x1, some (.inl a), x3, x4] st M ↔ uX8_ayesNow R 20 [x0, x1, some (.inl a), x3, x4] (.inl a :: st) M := zU_step dX8_ayesNow_19 (Or.inl rfl)
theorem dX8_ayesNow_20 : decode cX8_ayesNow 20 = .ok (.invokevirtual 221, 3) := by decide +kernel
theorem rX8_ayesNow_20 {R : zP} {x0 x1 x2 x3 x4 : Option zV} {st : List zV} {M : zM} {a0 a1 a2 a3 : zV} : uX8_ayesNow R 20 [x0, x1, x2, x3, x4] (a3 :: a2 :: a1 :: a0 :: st) M ↔ (st.length ≤ 4 ∧ zcv (zv 8 tX8_isAye) [a0, a1, a2, a3] M (fun v M => uX8_ayesNow R 23 [x0, x1, x2, x3, x4] (v :: st) M)) := Iff.trans (zU_step dX8_ayesNow_20 (Or.inl rfl)) ⟨fun h => ⟨h.2.1, zcv_of h.2.2⟩, fun h => ⟨rfl, h.1, zcv_to h.2⟩⟩
theorem dX8_ayesNow_23 : decode cX8_ayesNow 23 = .ok (.ifCond .eq 7, 3) := by decide +kernel
theorem rX8_ayesNow_23 {R : zP} {x0 x1 x2 x3 x4 : Option zV} {st : List zV} {M : zM} {a : Int} : uX8_ayesNow R 23 [x0, x1, x2, x3, x4] (.inl a :: st) M ↔ (zIR a ∧ if a = 0 then uX8_ayesNow R 30 [x0, x1, x2, x3, x4] st M else uX8_ayesNow R 26 [x0, x1, x2, x3, x4] st M) := Iff.trans (zU_step dX8_ayesNow_23 (Or.inl rfl)) ⟨fun h => ⟨h.1.1, (zite (c := a = 0)).mpr h.2⟩, fun h => ⟨⟨h.1, by decide⟩, (zite (c := a = 0)).mp h.2⟩⟩
theorem dX8_ayesNow_26 : decode cX8_ayesNow 26 = .ok (.iconst 1, 1) := by decide +kernel
theorem rX8_ayesNow_26 {R : zP} {x0 x1 x2 x3 x4 : Option zV} {st : List zV} {M : zM} : uX8_ayesNow R 26 [x0, x1, x2, x3, x4] st M ↔ uX8_ayesNow R 27 [x0, x1, x2, x3, x4] (.inl (1) :: st) M := zU_step dX8_ayesNow_26 (Or.inl rfl)
theorem dX8_ayesNow_27 : decode cX8_ayesNow 27 = .ok (.goto 4, 3) := by decide +kernel
theorem rX8_ayesNow_27 {R : zP} {x0 x1 x2 x3 x4 : Option zV} {st : List zV} {M : zM} : uX8_ayesNow R 27 [x0, x1, x2, x3, x4] st M ↔ uX8_ayesNow R 31 [x0, x1, x2, x3, x4] st M := Iff.trans (zU_step dX8_ayesNow_27 (Or.inl rfl)) ⟨fun h => h.2, fun h => ⟨by decide, h⟩⟩
theorem dX8_ayesNow_30 : decode cX8_ayesNow 30 = .ok (.iconst 0, 1) := by decide +kernel
theorem rX8_ayesNow_30 {R : zP} {x0 x1 x2 x3 x4 : Option zV} {st : List zV} {M : zM} : uX8_ayesNow R 30 [x0, x1, x2, x3, x4] st M ↔ uX8_ayesNow R 31 [x0, x1, x2, x3, x4] (.inl (0) :: st) M := zU_step dX8_ayesNow_30 (Or.inl rfl)
theorem dX8_ayesNow_31 : decode cX8_ayesNow 31 = .ok (.iadd, 1) := by decide +kernel
theorem rX8_ayesNow_31 {R : zP} {x0 x1 x2 x3 x4 : Option zV} {st : List zV} {M : zM} {a b : Int} : uX8_ayesNow R 31 [x0, x1, x2, x3, x4] (.inl b :: .inl a :: st) M ↔ uX8_ayesNow R 32 [x0, x1, x2, x3, x4] (.inl (a + b) :: st) M := zU_step dX8_ayesNow_31 (Or.inl rfl)
theorem dX8_ayesNow_32 : decode cX8_ayesNow 32 = .ok (.istore_n 3, 1) := by decide +kernel
theorem rX8_ayesNow_32 {R : zP} {x0 x1 x3 x4 : Option zV} {st : List zV} {M : zM} {a : Int} {y : Int} : uX8_ayesNow R 32 [x0, x1, some (.inl y), x3, x4] (.inl a :: st) M ↔ uX8_ayesNow R 33 [x0, x1, some (.inl y), some (.inl a), x4] st M := Iff.trans (zU_step dX8_ayesNow_32 (Or.inl rfl)) ⟨fun h => h.2, fun h => ⟨show 3 < 5 by decide, h⟩⟩
theorem rX8_ayesNow_32z {R : zP} {x0 x1 x2 x3 x4 : Option zV} {st : List zV} {M : zM} {a : Int} : uX8_ayesNow R 32 [x0, x1, x2, x3, x4] (.inl a :: st) M ↔ uX8_ayesNow R 33 [x0, x1, zkeep x2, some (.inl a), x4] st M := Iff.trans (zU_step dX8_ayesNow_32 (Or.inl rfl)) ⟨fun h => h.2, fun h => ⟨show 3 < 5 by decide, h⟩⟩
theorem dX8_ayesNow_33 : decode cX8_ayesNow 33 = .ok (.iinc 4 1, 3) := by decide +kernel
theorem rX8_ayesNow_33 {R : zP} {x0 x1 x2 : Option zV} {st : List zV} {M : zM} {a : Int} {y : Int} : uX8_ayesNow R 33 [x0, x1, x2, some (.inl y), some (.inl a)] st M ↔ uX8_ayesNow R 36 [x0, x1, x2, some (.inl y), some (.inl (a + (1)))] st M := Iff.trans (zU_step dX8_ayesNow_33 (Or.inl rfl)) ⟨fun h => h.2, fun h => ⟨show 4 < 5 by decide, h⟩⟩
theorem rX8_ayesNow_33z {R : zP} {x0 x1 x2 x3 : Option zV} {st : List zV} {M : zM} {a : Int} : uX8_ayesNow R 33 [x0, x1, x2, x3, some (.inl a)] st M ↔ uX8_ayesNow R 36 [x0, x1, x2, zkeep x3, some (.inl (a + (1)))] st M := Iff.trans (zU_step dX8_ayesNow_33 (Or.inl rfl)) ⟨fun h => h.2, fun h => ⟨show 4 < 5 by decide, h⟩⟩
theorem dX8_ayesNow_36 : decode cX8_ayesNow 36 = .ok (.goto (-31), 3) := by decide +kernel
theorem rX8_ayesNow_36 {R : zP} {x0 x1 x2 x3 x4 : Option zV} {st : List zV} {M : zM} : uX8_ayesNow R 36 [x0, x1, x2, x3, x4] st M ↔ uX8_ayesNow R 5 [x0, x1, x2, x3, x4] st M := Iff.trans (zU_step dX8_ayesNow_36 (Or.inl rfl)) ⟨fun h => h.2, fun h => ⟨by decide, h⟩⟩
theorem dX8_ayesNow_39 : decode cX8_ayesNow 39 = .ok (.iload_n 3, 1) := by decide +kernel
theorem rX8_ayesNow_39 {R : zP} {x0 x1 x2 x4 : Option zV} {st : List zV} {M : zM} {a : Int} : uX8_ayesNow R 39 [x0, x1, x2, some (.inl a), x4] st M ↔ uX8_ayesNow R 40 [x0, x1, x2, some (.inl a), x4] (.inl a :: st) M := zU_step dX8_ayesNow_39 (Or.inl rfl)
theorem dX8_ayesNow_40 : decode cX8_ayesNow 40 = .ok (.ireturn, 1) := by decide +kernel
theorem rX8_ayesNow_40 {R : zP} {x0 x1 x2 x3 x4 : Option zV} {M : zM} {a : Int} : uX8_ayesNow R 40 [x0, x1, x2, x3, x4] [.inl a] M ↔ R (some (.inl a)) M := Iff.trans (zU_step dX8_ayesNow_40 (Or.inl rfl)) ⟨fun h => h.2.2, fun h => ⟨rfl, Or.inl rfl, h⟩⟩
theorem eX8_ayesNow {R : zP} {M : zM} {a0 : Nat} {p0 : Int} {p1 : Int} : tX8_ayesNow [.inr (.inr a0), .inl p0, .inl p1] M R ↔ uX8_ayesNow R 0 [some (.inr (.inr a0)), some (.inl p0), some (.inl p1), none, none] [] M := ⟨fun h => h.2, fun h => ⟨show 3 ≤ 5 by decide, h⟩⟩
def uX8_isCarried (R : zP) : zK := zU fX8 vX8_isCarried cX8_isCarried R
theorem dX8_isCarried_0 : decode cX8_isCarried 0 = .ok (.iconst 2, 1) := by decide +kernel
theorem rX8_isCarried_0 {R : zP} {x0 x1 : Option zV} {st : List zV} {M : zM} : uX8_isCarried R 0 [x0, x1] st M ↔ uX8_isCarried R 1 [x0, x1] (.inl (2) :: st) M := zU_step dX8_isCarried_0 (Or.inl rfl)
theorem dX8_isCarried_1 : decode cX8_isCarried 1 = .ok (.iload_n 1, 1) := by decide +kernel
theorem rX8_isCarried_1 {R : zP} {x0 : Option zV} {st : List zV} {M : zM} {a : Int} : uX8_isCarried R 1 [x0, some (.inl a)] st M ↔ uX8_isCarried R 2 [x0, some (.inl a)] (.inl a :: st) M := zU_step dX8_isCarried_1 (Or.inl rfl)
theorem dX8_isCarried_2 : decode cX8_isCarried 2 = .ok (.imul, 1) := by decide +kernel
theorem rX8_isCarried_2 {R : zP} {x0 x1 : Option zV} {st : List zV} {M : zM} {a b : Int} : uX8_isCarried R 2 [x0, x1] (.inl b :: .inl a :: st) M ↔ uX8_isCarried R 3 [x0, x1] (.inl (a * b) :: st) M := zU_step dX8_isCarried_2 (Or.inl rfl)
theorem dX8_isCarried_3 : decode cX8_isCarried 3 = .ok (.aload_n 0, 1) := by decide +kernel
theorem rX8_isCarried_3 {R : zP} {x1 : Option zV} {st : List zV} {M : zM} {a : Nat} : uX8_isCarried R 3 [some (.inr (.inr a)), x1] st M ↔ uX8_isCarried R 4 [some (.inr (.inr a)), x1] (.inr (.inr a) :: st) M := zU_step dX8_isCarried_3 (Or.inl rfl)
theorem dX8_isCarried_4 : decode cX8_isCarried 4 = .ok (.getfield 127, 3) := by decide +kernel
theorem rX8_isCarried_4 {R : zP} {x0 x1 : Option zV} {st : List zV} {M : zM} {r : Nat} : uX8_isCarried R 4 [x0, x1] (.inr (.inr r) :: st) M ↔ zgetx fX8 127 r M (fun v => uX8_isCarried R 7 [x0, x1] (v :: st) M) := zU_step dX8_isCarried_4 (Or.inl rfl)
theorem dX8_isCarried_7 : decode cX8_isCarried 7 = .ok (.if_icmp .le 7, 3) := by decide +kernel
theorem rX8_isCarried_7 {R : zP} {x0 x1 : Option zV} {st : List zV} {M : zM} {a b : Int} : uX8_isCarried R 7 [x0, x1] (.inl b :: .inl a :: st) M ↔ ((zIR a ∧ zIR b) ∧ if a ≤ b then uX8_isCarried R 14 [x0, x1] st M else uX8_isCarried R 10 [x0, x1] st M) := Iff.trans (zU_step dX8_isCarried_7 (Or.inl rfl)) ⟨fun h => ⟨⟨h.1.1, h.1.2.1⟩, (zite (c := a ≤ b)).mpr h.2⟩, fun h => ⟨⟨h.1.1, h.1.2, by decide⟩, (zite (c := a ≤ b)).mp h.2⟩⟩
theorem dX8_isCarried_10 : decode cX8_isCarried 10 = .ok (.iconst 1, 1) := by decide +kernel
theorem rX8_isCarried_10 {R : zP} {x0 x1 : Option zV} {st : List zV} {M : zM} : uX8_isCarried R 10 [x0, x1] st M ↔ uX8_isCarried R 11 [x0, x1] (.inl (1) :: st) M := zU_step dX8_isCarried_10 (Or.inl rfl)
theorem dX8_isCarried_11 : decode cX8_isCarried 11 = .ok (.goto 4, 3) := by decide +kernel
theorem rX8_isCarried_11 {R : zP} {x0 x1 : Option zV} {st : List zV} {M : zM} : uX8_isCarried R 11 [x0, x1] st M ↔ uX8_isCarried R 15 [x0, x1] st M := Iff.trans (zU_step dX8_isCarried_11 (Or.inl rfl)) ⟨fun h => h.2, fun h => ⟨by decide, h⟩⟩
theorem dX8_isCarried_14 : decode cX8_isCarried 14 = .ok (.iconst 0, 1) := by decide +kernel
theorem rX8_isCarried_14 {R : zP} {x0 x1 : Option zV} {st : List zV} {M : zM} : uX8_isCarried R 14 [x0, x1] st M ↔ uX8_isCarried R 15 [x0, x1] (.inl (0) :: st) M := zU_step dX8_isCarried_14 (Or.inl rfl)
theorem dX8_isCarried_15 : decode cX8_isCarried 15 = .ok (.ireturn, 1) := by decide +kernel
theorem rX8_isCarried_15 {R : zP} {x0 x1 : Option zV} {M : zM} {a : Int} : uX8_isCarried R 15 [x0, x1] [.inl a] M ↔ ((a = 0 ∨ a = 1) ∧ R (some (.inl a)) M) := Iff.trans (zU_step dX8_isCarried_15 (Or.inl rfl)) ⟨fun h => ⟨zret2 rfl h.2.1, h.2.2⟩, fun h => ⟨rfl, Or.inr (Or.inl ⟨rfl, h.1⟩), h.2⟩⟩
theorem eX8_isCarried {R : zP} {M : zM} {a0 : Nat} {p0 : Int} : tX8_isCarried [.inr (.inr a0), .inl p0] M R ↔ uX8_isCarried R 0 [some (.inr (.inr a0)), some (.inl p0)] [] M := ⟨fun h => h.2, fun h => ⟨show 2 ≤ 2 by decide, h⟩⟩
def uX8_hinges (R : zP) : zK := zU fX8 vX8_hinges cX8_hinges R
theorem dX8_hinges_0 : decode cX8_hinges 0 = .ok (.aload_n 0, 1) := by decide +kernel
theorem rX8_hinges_0 {R : zP} {x1 x2 x3 x4 x5 x6 : Option zV} {st : List zV} {M : zM} {a : Nat} : uX8_hinges R 0 [some (.inr (.inr a)), x1, x2, x3, x4, x5, x6] st M ↔ uX8_hinges R 1 [some (.inr (.inr a)), x1, x2, x3, x4, x5, x6] (.inr (.inr a) :: st) M := zU_step dX8_hinges_0 (Or.inl rfl)
theorem dX8_hinges_1 : decode cX8_hinges 1 = .ok (.iload_n 1, 1) := by decide +kernel
theorem rX8_hinges_1 {R : zP} {x0 x2 x3 x4 x5 x6 : Option zV} {st : List zV} {M : zM} {a : Int} : uX8_hinges R 1 [x0, some (.inl a), x2, x3, x4, x5, x6] st M ↔ uX8_hinges R 2 [x0, some (.inl a), x2, x3, x4, x5, x6] (.inl a :: st) M := zU_step dX8_hinges_1 (Or.inl rfl)
theorem dX8_hinges_2 : decode cX8_hinges 2 = .ok (.iload_n 2, 1) := by decide +kernel
theorem rX8_hinges_2 {R : zP} {x0 x1 x3 x4 x5 x6 : Option zV} {st : List zV} {M : zM} {a : Int} : uX8_hinges R 2 [x0, x1, some (.inl a), x3, x4, x5, x6] st M ↔ uX8_hinges R 3 [x0, x1, some (.inl a), x3, x4, x5, x6] (.inl a :: st) M := zU_step dX8_hinges_2 (Or.inl rfl)
theorem dX8_hinges_3 : decode cX8_hinges 3 = .ok (.invokevirtual 224, 3) := by decide +kernel
theorem rX8_hinges_3 {R : zP} {x0 x1 x2 x3 x4 x5 x6 : Option zV} {st : List zV} {M : zM} {a0 a1 a2 : zV} : uX8_hinges R 3 [x0, x1, x2, x3, x4, x5, x6] (a2 :: a1 :: a0 :: st) M ↔ (st.length ≤ 4 ∧ zcv (zv 8 tX8_ayesNow) [a0, a1, a2] M (fun v M => uX8_hinges R 6 [x0, x1, x2, x3, x4, x5, x6] (v :: st) M)) := Iff.trans (zU_step dX8_hinges_3 (Or.inl rfl)) ⟨fun h => ⟨h.2.1, zcv_of h.2.2⟩, fun h => ⟨rfl, h.1, zcv_to h.2⟩⟩
theorem dX8_hinges_6 : decode cX8_hinges 6 = .ok (.istore_n 3, 1) := by decide +kernel
theorem rX8_hinges_6 {R : zP} {x0 x1 x3 x4 x5 x6 : Option zV} {st : List zV} {M : zM} {a : Int} {y : Int} : uX8_hinges R 6 [x0, x1, some (.inl y), x3, x4, x5, x6] (.inl a :: st) M ↔ uX8_hinges R 7 [x0, x1, some (.inl y), some (.inl a), x4, x5, x6] st M := Iff.trans (zU_step dX8_hinges_6 (Or.inl rfl)) ⟨fun h => h.2, fun h => ⟨show 3 < 7 by decide, h⟩⟩
theorem rX8_hinges_6z {R : zP} {x0 x1 x2 x3 x4 x5 x6 : Option zV} {st : List zV} {M : zM} {a : Int} : uX8_hinges R 6 [x0, x1, x2, x3, x4, x5, x6] (.inl a :: st) M ↔ uX8_hinges R 7 [x0, x1, zkeep x2, some (.inl a), x4, x5, x6] st M := Iff.trans (zU_step dX8_hinges_6 (Or.inl rfl)) ⟨fun h => h.2, fun h => ⟨show 3 < 7 by decide, h⟩⟩
theorem dX8_hinges_7 : decode cX8_hinges 7 = .ok (.iconst 0, 1) := by decide +kernel
theorem rX8_hinges_7 {R : zP} {x0 x1 x2 x3 x4 x5 x6 : Option zV} {st : List zV} {M : zM} : uX8_hinges R 7 [x0, x1, x2, x3, x4, x5, x6] st M ↔ uX8_hinges R 8 [x0, x1, x2, x3, x4, x5, x6] (.inl (0) :: st) M := zU_step dX8_hinges_7 (Or.inl rfl)
theorem dX8_hinges_8 : decode cX8_hinges 8 = .ok (.istore 4, 2) := by decide +kernel
theorem rX8_hinges_8 {R : zP} {x0 x1 x2 x4 x5 x6 : Option zV} {st : List zV} {M : zM} {a : Int} {y : Int} : uX8_hinges R 8 [x0, x1, x2, some (.inl y), x4, x5, x6] (.inl a :: st) M ↔ uX8_hinges R 10 [x0, x1, x2, some (.inl y), some (.inl a), x5, x6] st M := Iff.trans (zU_step dX8_hinges_8 (Or.inl rfl)) ⟨fun h => h.2, fun h => ⟨show 4 < 7 by decide, h⟩⟩
theorem rX8_hinges_8z {R : zP} {x0 x1 x2 x3 x4 x5 x6 : Option zV} {st : List zV} {M : zM} {a : Int} : uX8_hinges R 8 [x0, x1, x2, x3, x4, x5, x6] (.inl a :: st) M ↔ uX8_hinges R 10 [x0, x1, x2, zkeep x3, some (.inl a), x5, x6] st M := Iff.trans (zU_step dX8_hinges_8 (Or.inl rfl)) ⟨fun h => h.2, fun h => ⟨show 4 < 7 by decide, h⟩⟩
theorem dX8_hinges_10 : decode cX8_hinges 10 = .ok (.iconst 0, 1) := by decide +kernel
theorem rX8_hinges_10 {R : zP} {x0 x1 x2 x3 x4 x5 x6 : Option zV} {st : List zV} {M : zM} : uX8_hinges R 10 [x0, x1, x2, x3, x4, x5, x6] st M ↔ uX8_hinges R 11 [x0, x1, x2, x3, x4, x5, x6] (.inl (0) :: st) M := zU_step dX8_hinges_10 (Or.inl rfl)
theorem dX8_hinges_11 : decode cX8_hinges 11 = .ok (.istore 5, 2) := by decide +kernel
theorem rX8_hinges_11 {R : zP} {x0 x1 x2 x3 x5 x6 : Option zV} {st : List zV} {M : zM} {a : Int} {y : Int} : uX8_hinges R 11 [x0, x1, x2, x3, some (.inl y), x5, x6] (.inl a :: st) M ↔ uX8_hinges R 13 [x0, x1, x2, x3, some (.inl y), some (.inl a), x6] st M := Iff.trans (zU_step dX8_hinges_11 (Or.inl rfl)) ⟨fun h => h.2, fun h => ⟨show 5 < 7 by decide, h⟩⟩
theorem rX8_hinges_11z {R : zP} {x0 x1 x2 x3 x4 x5 x6 : Option zV} {st : List zV} {M : zM} {a : Int} : uX8_hinges R 11 [x0, x1, x2, x3, x4, x5, x6] (.inl a :: st) M ↔ uX8_hinges R 13 [x0, x1, x2, x3, zkeep x4, some (.inl a), x6] st M := Iff.trans (zU_step dX8_hinges_11 (Or.inl rfl)) ⟨fun h => h.2, fun h => ⟨show 5 < 7 by decide, h⟩⟩
theorem dX8_hinges_13 : decode cX8_hinges 13 = .ok (.iload 5, 2) := by decide +kernel
theorem rX8_hinges_13 {R : zP} {x0 x1 x2 x3 x4 x6 : Option zV} {st : List zV} {M : zM} {a : Int} : uX8_hinges R 13 [x0, x1, x2, x3, x4, some (.inl a), x6] st M ↔ uX8_hinges R 15 [x0, x1, x2, x3, x4, some (.inl a), x6] (.inl a :: st) M := zU_step dX8_hinges_13 (Or.inl rfl)
theorem dX8_hinges_15 : decode cX8_hinges 15 = .ok (.aload_n 0, 1) := by decide +kernel
theorem rX8_hinges_15 {R : zP} {x1 x2 x3 x4 x5 x6 : Option zV} {st : List zV} {M : zM} {a : Nat} : uX8_hinges R 15 [some (.inr (.inr a)), x1, x2, x3, x4, x5, x6] st M ↔ uX8_hinges R 16 [some (.inr (.inr a)), x1, x2, x3, x4, x5, x6] (.inr (.inr a) :: st) M := zU_step dX8_hinges_15 (Or.inl rfl)
theorem dX8_hinges_16 : decode cX8_hinges 16 = .ok (.getfield 127, 3) := by decide +kernel
theorem rX8_hinges_16 {R : zP} {x0 x1 x2 x3 x4 x5 x6 : Option zV} {st : List zV} {M : zM} {r : Nat} : uX8_hinges R 16 [x0, x1, x2, x3, x4, x5, x6] (.inr (.inr r) :: st) M ↔ zgetx fX8 127 r M (fun v => uX8_hinges R 19 [x0, x1, x2, x3, x4, x5, x6] (v :: st) M) := zU_step dX8_hinges_16 (Or.inl rfl)
theorem dX8_hinges_19 : decode cX8_hinges 19 = .ok (.if_icmp .ge 58, 3) := by decide +kernel
theorem rX8_hinges_19 {R : zP} {x0 x1 x2 x3 x4 x5 x6 : Option zV} {st : List zV} {M : zM} {a b : Int} : uX8_hinges R 19 [x0, x1, x2, x3, x4, x5, x6] (.inl b :: .inl a :: st) M ↔ ((zIR a ∧ zIR b) ∧ if b ≤ a then uX8_hinges R 77 [x0, x1, x2, x3, x4, x5, x6] st M else uX8_hinges R 22 [x0, x1, x2, x3, x4, x5, x6] st M) := Iff.trans (zU_step dX8_hinges_19 (Or.inl rfl)) ⟨fun h => ⟨⟨h.1.1, h.1.2.1⟩, (zite (c := b ≤ a)).mpr h.2⟩, fun h => ⟨⟨h.1.1, h.1.2, by decide⟩, (zite (c := b ≤ a)).mp h.2⟩⟩
theorem dX8_hinges_22 : decode cX8_hinges 22 = .ok (.aload_n 0, 1) := by decide +kernel
theorem rX8_hinges_22 {R : zP} {x1 x2 x3 x4 x5 x6 : Option zV} {st : List zV} {M : zM} {a : Nat} : uX8_hinges R 22 [some (.inr (.inr a)), x1, x2, x3, x4, x5, x6] st M ↔ uX8_hinges R 23 [some (.inr (.inr a)), x1, x2, x3, x4, x5, x6] (.inr (.inr a) :: st) M := zU_step dX8_hinges_22 (Or.inl rfl)
theorem dX8_hinges_23 : decode cX8_hinges 23 = .ok (.iload_n 1, 1) := by decide +kernel
theorem rX8_hinges_23 {R : zP} {x0 x2 x3 x4 x5 x6 : Option zV} {st : List zV} {M : zM} {a : Int} : uX8_hinges R 23 [x0, some (.inl a), x2, x3, x4, x5, x6] st M ↔ uX8_hinges R 24 [x0, some (.inl a), x2, x3, x4, x5, x6] (.inl a :: st) M := zU_step dX8_hinges_23 (Or.inl rfl)
theorem dX8_hinges_24 : decode cX8_hinges 24 = .ok (.iload 5, 2) := by decide +kernel
theorem rX8_hinges_24 {R : zP} {x0 x1 x2 x3 x4 x6 : Option zV} {st : List zV} {M : zM} {a : Int} : uX8_hinges R 24 [x0, x1, x2, x3, x4, some (.inl a), x6] st M ↔ uX8_hinges R 26 [x0, x1, x2, x3, x4, some (.inl a), x6] (.inl a :: st) M := zU_step dX8_hinges_24 (Or.inl rfl)
theorem dX8_hinges_26 : decode cX8_hinges 26 = .ok (.iload_n 2, 1) := by decide +kernel
theorem rX8_hinges_26 {R : zP} {x0 x1 x3 x4 x5 x6 : Option zV} {st : List zV} {M : zM} {a : Int} : uX8_hinges R 26 [x0, x1, some (.inl a), x3, x4, x5, x6] st M ↔ uX8_hinges R 27 [x0, x1, some (.inl a), x3, x4, x5, x6] (.inl a :: st) M := zU_step dX8_hinges_26 (Or.inl rfl)
theorem dX8_hinges_27 : decode cX8_hinges 27 = .ok (.invokevirtual 221, 3) := by decide +kernel
theorem rX8_hinges_27 {R : zP} {x0 x1 x2 x3 x4 x5 x6 : Option zV} {st : List zV} {M : zM} {a0 a1 a2 a3 : zV} : uX8_hinges R 27 [x0, x1, x2, x3, x4, x5, x6] (a3 :: a2 :: a1 :: a0 :: st) M ↔ (st.length ≤ 4 ∧ zcv (zv 8 tX8_isAye) [a0, a1, a2, a3] M (fun v M => uX8_hinges R 30 [x0, x1, x2, x3, x4, x5, x6] (v :: st) M)) := Iff.trans (zU_step dX8_hinges_27 (Or.inl rfl)) ⟨fun h => ⟨h.2.1, zcv_of h.2.2⟩, fun h => ⟨rfl, h.1, zcv_to h.2⟩⟩
theorem dX8_hinges_30 : decode cX8_hinges 30 = .ok (.ifCond .eq 9, 3) := by decide +kernel
theorem rX8_hinges_30 {R : zP} {x0 x1 x2 x3 x4 x5 x6 : Option zV} {st : List zV} {M : zM} {a : Int} : uX8_hinges R 30 [x0, x1, x2, x3, x4, x5, x6] (.inl a :: st) M ↔ (zIR a ∧ if a = 0 then uX8_hinges R 39 [x0, x1, x2, x3, x4, x5, x6] st M else uX8_hinges R 33 [x0, x1, x2, x3, x4, x5, x6] st M) := Iff.trans (zU_step dX8_hinges_30 (Or.inl rfl)) ⟨fun h => ⟨h.1.1, (zite (c := a = 0)).mpr h.2⟩, fun h => ⟨⟨h.1, by decide⟩, (zite (c := a = 0)).mp h.2⟩⟩
theorem dX8_hinges_33 : decode cX8_hinges 33 = .ok (.iload_n 3, 1) := by decide +kernel
theorem rX8_hinges_33 {R : zP} {x0 x1 x2 x4 x5 x6 : Option zV} {st : List zV} {M : zM} {a : Int} : uX8_hinges R 33 [x0, x1, x2, some (.inl a), x4, x5, x6] st M ↔ uX8_hinges R 34 [x0, x1, x2, some (.inl a), x4, x5, x6] (.inl a :: st) M := zU_step dX8_hinges_33 (Or.inl rfl)
theorem dX8_hinges_34 : decode cX8_hinges 34 = .ok (.iconst 1, 1) := by decide +kernel
theorem rX8_hinges_34 {R : zP} {x0 x1 x2 x3 x4 x5 x6 : Option zV} {st : List zV} {M : zM} : uX8_hinges R 34 [x0, x1, x2, x3, x4, x5, x6] st M ↔ uX8_hinges R 35 [x0, x1, x2, x3, x4, x5, x6] (.inl (1) :: st) M := zU_step dX8_hinges_34 (Or.inl rfl)
theorem dX8_hinges_35 : decode cX8_hinges 35 = .ok (.isub, 1) := by decide +kernel
theorem rX8_hinges_35 {R : zP} {x0 x1 x2 x3 x4 x5 x6 : Option zV} {st : List zV} {M : zM} {a b : Int} : uX8_hinges R 35 [x0, x1, x2, x3, x4, x5, x6] (.inl b :: .inl a :: st) M ↔ uX8_hinges R 36 [x0, x1, x2, x3, x4, x5, x6] (.inl (a - b) :: st) M := zU_step dX8_hinges_35 (Or.inl rfl)
theorem dX8_hinges_36 : decode cX8_hinges 36 = .ok (.goto 6, 3) := by decide +kernel
theorem rX8_hinges_36 {R : zP} {x0 x1 x2 x3 x4 x5 x6 : Option zV} {st : List zV} {M : zM} : uX8_hinges R 36 [x0, x1, x2, x3, x4, x5, x6] st M ↔ uX8_hinges R 42 [x0, x1, x2, x3, x4, x5, x6] st M := Iff.trans (zU_step dX8_hinges_36 (Or.inl rfl)) ⟨fun h => h.2, fun h => ⟨by decide, h⟩⟩
theorem dX8_hinges_39 : decode cX8_hinges 39 = .ok (.iload_n 3, 1) := by decide +kernel
theorem rX8_hinges_39 {R : zP} {x0 x1 x2 x4 x5 x6 : Option zV} {st : List zV} {M : zM} {a : Int} : uX8_hinges R 39 [x0, x1, x2, some (.inl a), x4, x5, x6] st M ↔ uX8_hinges R 40 [x0, x1, x2, some (.inl a), x4, x5, x6] (.inl a :: st) M := zU_step dX8_hinges_39 (Or.inl rfl)
theorem dX8_hinges_40 : decode cX8_hinges 40 = .ok (.iconst 1, 1) := by decide +kernel
theorem rX8_hinges_40 {R : zP} {x0 x1 x2 x3 x4 x5 x6 : Option zV} {st : List zV} {M : zM} : uX8_hinges R 40 [x0, x1, x2, x3, x4, x5, x6] st M ↔ uX8_hinges R 41 [x0, x1, x2, x3, x4, x5, x6] (.inl (1) :: st) M := zU_step dX8_hinges_40 (Or.inl rfl)
theorem dX8_hinges_41 : decode cX8_hinges 41 = .ok (.iadd, 1) := by decide +kernel
theorem rX8_hinges_41 {R : zP} {x0 x1 x2 x3 x4 x5 x6 : Option zV} {st : List zV} {M : zM} {a b : Int} : uX8_hinges R 41 [x0, x1, x2, x3, x4, x5, x6] (.inl b :: .inl a :: st) M ↔ uX8_hinges R 42 [x0, x1, x2, x3, x4, x5, x6] (.inl (a + b) :: st) M := zU_step dX8_hinges_41 (Or.inl rfl)
theorem dX8_hinges_42 : decode cX8_hinges 42 = .ok (.istore 6, 2) := by decide +kernel
theorem rX8_hinges_42 {R : zP} {x0 x1 x2 x3 x4 x6 : Option zV} {st : List zV} {M : zM} {a : Int} {y : Int} : uX8_hinges R 42 [x0, x1, x2, x3, x4, some (.inl y), x6] (.inl a :: st) M ↔ uX8_hinges R 44 [x0, x1, x2, x3, x4, some (.inl y), some (.inl a)] st M := Iff.trans (zU_step dX8_hinges_42 (Or.inl rfl)) ⟨fun h => h.2, fun h => ⟨show 6 < 7 by decide, h⟩⟩
theorem rX8_hinges_42z {R : zP} {x0 x1 x2 x3 x4 x5 x6 : Option zV} {st : List zV} {M : zM} {a : Int} : uX8_hinges R 42 [x0, x1, x2, x3, x4, x5, x6] (.inl a :: st) M ↔ uX8_hinges R 44 [x0, x1, x2, x3, x4, zkeep x5, some (.inl a)] st M := Iff.trans (zU_step dX8_hinges_42 (Or.inl rfl)) ⟨fun h => h.2, fun h => ⟨show 6 < 7 by decide, h⟩⟩
theorem dX8_hinges_44 : decode cX8_hinges 44 = .ok (.iload 4, 2) := by decide +kernel
theorem rX8_hinges_44 {R : zP} {x0 x1 x2 x3 x5 x6 : Option zV} {st : List zV} {M : zM} {a : Int} : uX8_hinges R 44 [x0, x1, x2, x3, some (.inl a), x5, x6] st M ↔ uX8_hinges R 46 [x0, x1, x2, x3, some (.inl a), x5, x6] (.inl a :: st) M := zU_step dX8_hinges_44 (Or.inl rfl)
theorem dX8_hinges_46 : decode cX8_hinges 46 = .ok (.aload_n 0, 1) := by decide +kernel
theorem rX8_hinges_46 {R : zP} {x1 x2 x3 x4 x5 x6 : Option zV} {st : List zV} {M : zM} {a : Nat} : uX8_hinges R 46 [some (.inr (.inr a)), x1, x2, x3, x4, x5, x6] st M ↔ uX8_hinges R 47 [some (.inr (.inr a)), x1, x2, x3, x4, x5, x6] (.inr (.inr a) :: st) M := zU_step dX8_hinges_46 (Or.inl rfl)
theorem dX8_hinges_47 : decode cX8_hinges 47 = .ok (.iload 6, 2) := by decide +kernel
theorem rX8_hinges_47 {R : zP} {x0 x1 x2 x3 x4 x5 : Option zV} {st : List zV} {M : zM} {a : Int} : uX8_hinges R 47 [x0, x1, x2, x3, x4, x5, some (.inl a)] st M ↔ uX8_hinges R 49 [x0, x1, x2, x3, x4, x5, some (.inl a)] (.inl a :: st) M := zU_step dX8_hinges_47 (Or.inl rfl)
theorem dX8_hinges_49 : decode cX8_hinges 49 = .ok (.invokevirtual 227, 3) := by decide +kernel
theorem rX8_hinges_49 {R : zP} {x0 x1 x2 x3 x4 x5 x6 : Option zV} {st : List zV} {M : zM} {a0 a1 : zV} : uX8_hinges R 49 [x0, x1, x2, x3, x4, x5, x6] (a1 :: a0 :: st) M ↔ (st.length ≤ 4 ∧ zcv (zv 8 tX8_isCarried) [a0, a1] M (fun v M => uX8_hinges R 52 [x0, x1, x2, x3, x4, x5, x6] (v :: st) M)) := Iff.trans (zU_step dX8_hinges_49 (Or.inl rfl)) ⟨fun h => ⟨h.2.1, zcv_of h.2.2⟩, fun h => ⟨rfl, h.1, zcv_to h.2⟩⟩
theorem dX8_hinges_52 : decode cX8_hinges 52 = .ok (.aload_n 0, 1) := by decide +kernel
theorem rX8_hinges_52 {R : zP} {x1 x2 x3 x4 x5 x6 : Option zV} {st : List zV} {M : zM} {a : Nat} : uX8_hinges R 52 [some (.inr (.inr a)), x1, x2, x3, x4, x5, x6] st M ↔ uX8_hinges R 53 [some (.inr (.inr a)), x1, x2, x3, x4, x5, x6] (.inr (.inr a) :: st) M := zU_step dX8_hinges_52 (Or.inl rfl)
theorem dX8_hinges_53 : decode cX8_hinges 53 = .ok (.iload_n 3, 1) := by decide +kernel
theorem rX8_hinges_53 {R : zP} {x0 x1 x2 x4 x5 x6 : Option zV} {st : List zV} {M : zM} {a : Int} : uX8_hinges R 53 [x0, x1, x2, some (.inl a), x4, x5, x6] st M ↔ uX8_hinges R 54 [x0, x1, x2, some (.inl a), x4, x5, x6] (.inl a :: st) M := zU_step dX8_hinges_53 (Or.inl rfl)
theorem dX8_hinges_54 : decode cX8_hinges 54 = .ok (.invokevirtual 227, 3) := by decide +kernel
theorem rX8_hinges_54 {R : zP} {x0 x1 x2 x3 x4 x5 x6 : Option zV} {st : List zV} {M : zM} {a0 a1 : zV} : uX8_hinges R 54 [x0, x1, x2, x3, x4, x5, x6] (a1 :: a0 :: st) M ↔ (st.length ≤ 4 ∧ zcv (zv 8 tX8_isCarried) [a0, a1] M (fun v M => uX8_hinges R 57 [x0, x1, x2, x3, x4, x5, x6] (v :: st) M)) := Iff.trans (zU_step dX8_hinges_54 (Or.inl rfl)) ⟨fun h => ⟨h.2.1, zcv_of h.2.2⟩, fun h => ⟨rfl, h.1, zcv_to h.2⟩⟩
theorem dX8_hinges_57 : decode cX8_hinges 57 = .ok (.if_icmp .eq 10, 3) := by decide +kernel
theorem rX8_hinges_57 {R : zP} {x0 x1 x2 x3 x4 x5 x6 : Option zV} {st : List zV} {M : zM} {a b : Int} : uX8_hinges R 57 [x0, x1, x2, x3, x4, x5, x6] (.inl b :: .inl a :: st) M ↔ ((zIR a ∧ zIR b) ∧ if a = b then uX8_hinges R 67 [x0, x1, x2, x3, x4, x5, x6] st M else uX8_hinges R 60 [x0, x1, x2, x3, x4, x5, x6] st M) := Iff.trans (zU_step dX8_hinges_57 (Or.inl rfl)) ⟨fun h => ⟨⟨h.1.1, h.1.2.1⟩, (zite (c := a = b)).mpr h.2⟩, fun h => ⟨⟨h.1.1, h.1.2, by decide⟩, (zite (c := a = b)).mp h.2⟩⟩
theorem dX8_hinges_60 : decode cX8_hinges 60 = .ok (.iconst 1, 1) := by decide +kernel
theorem rX8_hinges_60 {R : zP} {x0 x1 x2 x3 x4 x5 x6 : Option zV} {st : List zV} {M : zM} : uX8_hinges R 60 [x0, x1, x2, x3, x4, x5, x6] st M ↔ uX8_hinges R 61 [x0, x1, x2, x3, x4, x5, x6] (.inl (1) :: st) M := zU_step dX8_hinges_60 (Or.inl rfl)
theorem dX8_hinges_61 : decode cX8_hinges 61 = .ok (.iload 5, 2) := by decide +kernel
theorem rX8_hinges_61 {R : zP} {x0 x1 x2 x3 x4 x6 : Option zV} {st : List zV} {M : zM} {a : Int} : uX8_hinges R 61 [x0, x1, x2, x3, x4, some (.inl a), x6] st M ↔ uX8_hinges R 63 [x0, x1, x2, x3, x4, some (.inl a), x6] (.inl a :: st) M := zU_step dX8_hinges_61 (Or.inl rfl)
theorem dX8_hinges_63 : decode cX8_hinges 63 = .ok (.ishl, 1) := by decide +kernel
theorem rX8_hinges_63 {R : zP} {x0 x1 x2 x3 x4 x5 x6 : Option zV} {st : List zV} {M : zM} {a b : Int} : uX8_hinges R 63 [x0, x1, x2, x3, x4, x5, x6] (.inl b :: .inl a :: st) M ↔ uX8_hinges R 64 [x0, x1, x2, x3, x4, x5, x6] (.inl (zshl a b) :: st) M := zU_step dX8_hinges_63 (Or.inl rfl)
theorem dX8_hinges_64 : decode cX8_hinges 64 = .ok (.goto 4, 3) := by decide +kernel
theorem rX8_hinges_64 {R : zP} {x0 x1 x2 x3 x4 x5 x6 : Option zV} {st : List zV} {M : zM} : uX8_hinges R 64 [x0, x1, x2, x3, x4, x5, x6] st M ↔ uX8_hinges R 68 [x0, x1, x2, x3, x4, x5, x6] st M := Iff.trans (zU_step dX8_hinges_64 (Or.inl rfl)) ⟨fun h => h.2, fun h => ⟨by decide, h⟩⟩
theorem dX8_hinges_67 : decode cX8_hinges 67 = .ok (.iconst 0, 1) := by decide +kernel
theorem rX8_hinges_67 {R : zP} {x0 x1 x2 x3 x4 x5 x6 : Option zV} {st : List zV} {M : zM} : uX8_hinges R 67 [x0, x1, x2, x3, x4, x5, x6] st M ↔ uX8_hinges R 68 [x0, x1, x2, x3, x4, x5, x6] (.inl (0) :: st) M := zU_step dX8_hinges_67 (Or.inl rfl)
theorem dX8_hinges_68 : decode cX8_hinges 68 = .ok (.ior, 1) := by decide +kernel
theorem rX8_hinges_68 {R : zP} {x0 x1 x2 x3 x4 x5 x6 : Option zV} {st : List zV} {M : zM} {a b : Int} : uX8_hinges R 68 [x0, x1, x2, x3, x4, x5, x6] (.inl b :: .inl a :: st) M ↔ uX8_hinges R 69 [x0, x1, x2, x3, x4, x5, x6] (.inl (zor a b) :: st) M := zU_step dX8_hinges_68 (Or.inl rfl)
theorem dX8_hinges_69 : decode cX8_hinges 69 = .ok (.istore 4, 2) := by decide +kernel
theorem rX8_hinges_69 {R : zP} {x0 x1 x2 x4 x5 x6 : Option zV} {st : List zV} {M : zM} {a : Int} {y : Int} : uX8_hinges R 69 [x0, x1, x2, some (.inl y), x4, x5, x6] (.inl a :: st) M ↔ uX8_hinges R 71 [x0, x1, x2, some (.inl y), some (.inl a), x5, x6] st M := Iff.trans (zU_step dX8_hinges_69 (Or.inl rfl)) ⟨fun h => h.2, fun h => ⟨show 4 < 7 by decide, h⟩⟩
theorem rX8_hinges_69z {R : zP} {x0 x1 x2 x3 x4 x5 x6 : Option zV} {st : List zV} {M : zM} {a : Int} : uX8_hinges R 69 [x0, x1, x2, x3, x4, x5, x6] (.inl a :: st) M ↔ uX8_hinges R 71 [x0, x1, x2, zkeep x3, some (.inl a), x5, x6] st M := Iff.trans (zU_step dX8_hinges_69 (Or.inl rfl)) ⟨fun h => h.2, fun h => ⟨show 4 < 7 by decide, h⟩⟩
theorem dX8_hinges_71 : decode cX8_hinges 71 = .ok (.iinc 5 1, 3) := by decide +kernel
theorem rX8_hinges_71 {R : zP} {x0 x1 x2 x3 x6 : Option zV} {st : List zV} {M : zM} {a : Int} {y : Int} : uX8_hinges R 71 [x0, x1, x2, x3, some (.inl y), some (.inl a), x6] st M ↔ uX8_hinges R 74 [x0, x1, x2, x3, some (.inl y), some (.inl (a + (1))), x6] st M := Iff.trans (zU_step dX8_hinges_71 (Or.inl rfl)) ⟨fun h => h.2, fun h => ⟨show 5 < 7 by decide, h⟩⟩
theorem rX8_hinges_71z {R : zP} {x0 x1 x2 x3 x4 x6 : Option zV} {st : List zV} {M : zM} {a : Int} : uX8_hinges R 71 [x0, x1, x2, x3, x4, some (.inl a), x6] st M ↔ uX8_hinges R 74 [x0, x1, x2, x3, zkeep x4, some (.inl (a + (1))), x6] st M := Iff.trans (zU_step dX8_hinges_71 (Or.inl rfl)) ⟨fun h => h.2, fun h => ⟨show 5 < 7 by decide, h⟩⟩
theorem dX8_hinges_74 : decode cX8_hinges 74 = .ok (.goto (-61), 3) := by decide +kernel
theorem rX8_hinges_74 {R : zP} {x0 x1 x2 x3 x4 x5 x6 : Option zV} {st : List zV} {M : zM} : uX8_hinges R 74 [x0, x1, x2, x3, x4, x5, x6] st M ↔ uX8_hinges R 13 [x0, x1, x2, x3, x4, x5, x6] st M := Iff.trans (zU_step dX8_hinges_74 (Or.inl rfl)) ⟨fun h => h.2, fun h => ⟨by decide, h⟩⟩
theorem dX8_hinges_77 : decode cX8_hinges 77 = .ok (.iload 4, 2) := by decide +kernel
theorem rX8_hinges_77 {R : zP} {x0 x1 x2 x3 x5 x6 : Option zV} {st : List zV} {M : zM} {a : Int} : uX8_hinges R 77 [x0, x1, x2, x3, some (.inl a), x5, x6] st M ↔ uX8_hinges R 79 [x0, x1, x2, x3, some (.inl a), x5, x6] (.inl a :: st) M := zU_step dX8_hinges_77 (Or.inl rfl)
theorem dX8_hinges_79 : decode cX8_hinges 79 = .ok (.ireturn, 1) := by decide +kernel
theorem rX8_hinges_79 {R : zP} {x0 x1 x2 x3 x4 x5 x6 : Option zV} {M : zM} {a : Int} : uX8_hinges R 79 [x0, x1, x2, x3, x4, x5, x6] [.inl a] M ↔ R (some (.inl a)) M := Iff.trans (zU_step dX8_hinges_79 (Or.inl rfl)) ⟨fun h => h.2.2, fun h => ⟨rfl, Or.inl rfl, h⟩⟩
theorem eX8_hinges {R : zP} {M : zM} {a0 : Nat} {p0 : Int} {p1 : Int} : tX8_hinges [.inr (.inr a0), .inl p0, .inl p1] M R ↔ uX8_hinges R 0 [some (.inr (.inr a0)), some (.inl p0), some (.inl p1), none, none, none, none] [] M := ⟨fun h => h.2, fun h => ⟨show 3 ≤ 7 by decide, h⟩⟩
def uX8_houseOf (R : zP) : zK := zU fX8 vX8_houseOf cX8_houseOf R
theorem dX8_houseOf_0 : decode cX8_houseOf 0 = .ok (.aload_n 0, 1) := by decide +kernel
theorem rX8_houseOf_0 {R : zP} {x1 x2 x3 : Option zV} {st : List zV} {M : zM} {a : Nat} : uX8_houseOf R 0 [some (.inr (.inr a)), x1, x2, x3] st M ↔ uX8_houseOf R 1 [some (.inr (.inr a)), x1, x2, x3] (.inr (.inr a) :: st) M := zU_step dX8_houseOf_0 (Or.inl rfl)
theorem dX8_houseOf_1 : decode cX8_houseOf 1 = .ok (.invokevirtual 205, 3) := by decide +kernel
theorem rX8_houseOf_1 {R : zP} {x0 x1 x2 x3 : Option zV} {st : List zV} {M : zM} {a0 : zV} : uX8_houseOf R 1 [x0, x1, x2, x3] (a0 :: st) M ↔ (st.length ≤ 4 ∧ zcn (zv 8 tX8_runsTold) [a0] M (fun M => uX8_houseOf R 4 [x0, x1, x2, x3] st M)) := Iff.trans (zU_step dX8_houseOf_1 (Or.inl rfl)) ⟨fun h => ⟨h.2.1, zcn_of h.2.2⟩, fun h => ⟨rfl, h.1, zcn_to h.2⟩⟩
theorem dX8_houseOf_4 : decode cX8_houseOf 4 = .ok (.iload_n 3, 1) := by decide +kernel
theorem rX8_houseOf_4 {R : zP} {x0 x1 x2 : Option zV} {st : List zV} {M : zM} {a : Int} : uX8_houseOf R 4 [x0, x1, x2, some (.inl a)] st M ↔ uX8_houseOf R 5 [x0, x1, x2, some (.inl a)] (.inl a :: st) M := zU_step dX8_houseOf_4 (Or.inl rfl)
theorem dX8_houseOf_5 : decode cX8_houseOf 5 = .ok (.ifCond .ne 12, 3) := by decide +kernel
theorem rX8_houseOf_5 {R : zP} {x0 x1 x2 x3 : Option zV} {st : List zV} {M : zM} {a : Int} : uX8_houseOf R 5 [x0, x1, x2, x3] (.inl a :: st) M ↔ (zIR a ∧ if a ≠ 0 then uX8_houseOf R 17 [x0, x1, x2, x3] st M else uX8_houseOf R 8 [x0, x1, x2, x3] st M) := Iff.trans (zU_step dX8_houseOf_5 (Or.inl rfl)) ⟨fun h => ⟨h.1.1, (zite (c := a ≠ 0)).mpr h.2⟩, fun h => ⟨⟨h.1, by decide⟩, (zite (c := a ≠ 0)).mp h.2⟩⟩
theorem dX8_houseOf_8 : decode cX8_houseOf 8 = .ok (.aload_n 0, 1) := by decide +kernel
theorem rX8_houseOf_8 {R : zP} {x1 x2 x3 : Option zV} {st : List zV} {M : zM} {a : Nat} : uX8_houseOf R 8 [some (.inr (.inr a)), x1, x2, x3] st M ↔ uX8_houseOf R 9 [some (.inr (.inr a)), x1, x2, x3] (.inr (.inr a) :: st) M := zU_step dX8_houseOf_8 (Or.inl rfl)
theorem dX8_houseOf_9 : decode cX8_houseOf 9 = .ok (.iload_n 1, 1) := by decide +kernel
theorem rX8_houseOf_9 {R : zP} {x0 x2 x3 : Option zV} {st : List zV} {M : zM} {a : Int} : uX8_houseOf R 9 [x0, some (.inl a), x2, x3] st M ↔ uX8_houseOf R 10 [x0, some (.inl a), x2, x3] (.inl a :: st) M := zU_step dX8_houseOf_9 (Or.inl rfl)
theorem dX8_houseOf_10 : decode cX8_houseOf 10 = .ok (.iload_n 2, 1) := by decide +kernel
theorem rX8_houseOf_10 {R : zP} {x0 x1 x3 : Option zV} {st : List zV} {M : zM} {a : Int} : uX8_houseOf R 10 [x0, x1, some (.inl a), x3] st M ↔ uX8_houseOf R 11 [x0, x1, some (.inl a), x3] (.inl a :: st) M := zU_step dX8_houseOf_10 (Or.inl rfl)
theorem dX8_houseOf_11 : decode cX8_houseOf 11 = .ok (.invokevirtual 224, 3) := by decide +kernel
theorem rX8_houseOf_11 {R : zP} {x0 x1 x2 x3 : Option zV} {st : List zV} {M : zM} {a0 a1 a2 : zV} : uX8_houseOf R 11 [x0, x1, x2, x3] (a2 :: a1 :: a0 :: st) M ↔ (st.length ≤ 4 ∧ zcv (zv 8 tX8_ayesNow) [a0, a1, a2] M (fun v M => uX8_houseOf R 14 [x0, x1, x2, x3] (v :: st) M)) := Iff.trans (zU_step dX8_houseOf_11 (Or.inl rfl)) ⟨fun h => ⟨h.2.1, zcv_of h.2.2⟩, fun h => ⟨rfl, h.1, zcv_to h.2⟩⟩
theorem dX8_houseOf_14 : decode cX8_houseOf 14 = .ok (.goto 35, 3) := by decide +kernel
theorem rX8_houseOf_14 {R : zP} {x0 x1 x2 x3 : Option zV} {st : List zV} {M : zM} : uX8_houseOf R 14 [x0, x1, x2, x3] st M ↔ uX8_houseOf R 49 [x0, x1, x2, x3] st M := Iff.trans (zU_step dX8_houseOf_14 (Or.inl rfl)) ⟨fun h => h.2, fun h => ⟨by decide, h⟩⟩
theorem dX8_houseOf_17 : decode cX8_houseOf 17 = .ok (.iload_n 3, 1) := by decide +kernel
theorem rX8_houseOf_17 {R : zP} {x0 x1 x2 : Option zV} {st : List zV} {M : zM} {a : Int} : uX8_houseOf R 17 [x0, x1, x2, some (.inl a)] st M ↔ uX8_houseOf R 18 [x0, x1, x2, some (.inl a)] (.inl a :: st) M := zU_step dX8_houseOf_17 (Or.inl rfl)
theorem dX8_houseOf_18 : decode cX8_houseOf 18 = .ok (.iconst 1, 1) := by decide +kernel
theorem rX8_houseOf_18 {R : zP} {x0 x1 x2 x3 : Option zV} {st : List zV} {M : zM} : uX8_houseOf R 18 [x0, x1, x2, x3] st M ↔ uX8_houseOf R 19 [x0, x1, x2, x3] (.inl (1) :: st) M := zU_step dX8_houseOf_18 (Or.inl rfl)
theorem dX8_houseOf_19 : decode cX8_houseOf 19 = .ok (.if_icmp .ne 24, 3) := by decide +kernel
theorem rX8_houseOf_19 {R : zP} {x0 x1 x2 x3 : Option zV} {st : List zV} {M : zM} {a b : Int} : uX8_houseOf R 19 [x0, x1, x2, x3] (.inl b :: .inl a :: st) M ↔ ((zIR a ∧ zIR b) ∧ if a ≠ b then uX8_houseOf R 43 [x0, x1, x2, x3] st M else uX8_houseOf R 22 [x0, x1, x2, x3] st M) := Iff.trans (zU_step dX8_houseOf_19 (Or.inl rfl)) ⟨fun h => ⟨⟨h.1.1, h.1.2.1⟩, (zite (c := a ≠ b)).mpr h.2⟩, fun h => ⟨⟨h.1.1, h.1.2, by decide⟩, (zite (c := a ≠ b)).mp h.2⟩⟩
theorem dX8_houseOf_22 : decode cX8_houseOf 22 = .ok (.aload_n 0, 1) := by decide +kernel
theorem rX8_houseOf_22 {R : zP} {x1 x2 x3 : Option zV} {st : List zV} {M : zM} {a : Nat} : uX8_houseOf R 22 [some (.inr (.inr a)), x1, x2, x3] st M ↔ uX8_houseOf R 23 [some (.inr (.inr a)), x1, x2, x3] (.inr (.inr a) :: st) M := zU_step dX8_houseOf_22 (Or.inl rfl)
theorem dX8_houseOf_23 : decode cX8_houseOf 23 = .ok (.aload_n 0, 1) := by decide +kernel
theorem rX8_houseOf_23 {R : zP} {x1 x2 x3 : Option zV} {st : List zV} {M : zM} {a : Nat} : uX8_houseOf R 23 [some (.inr (.inr a)), x1, x2, x3] st M ↔ uX8_houseOf R 24 [some (.inr (.inr a)), x1, x2, x3] (.inr (.inr a) :: st) M := zU_step dX8_houseOf_23 (Or.inl rfl)
theorem dX8_houseOf_24 : decode cX8_houseOf 24 = .ok (.iload_n 1, 1) := by decide +kernel
theorem rX8_houseOf_24 {R : zP} {x0 x2 x3 : Option zV} {st : List zV} {M : zM} {a : Int} : uX8_houseOf R 24 [x0, some (.inl a), x2, x3] st M ↔ uX8_houseOf R 25 [x0, some (.inl a), x2, x3] (.inl a :: st) M := zU_step dX8_houseOf_24 (Or.inl rfl)
theorem dX8_houseOf_25 : decode cX8_houseOf 25 = .ok (.iload_n 2, 1) := by decide +kernel
theorem rX8_houseOf_25 {R : zP} {x0 x1 x3 : Option zV} {st : List zV} {M : zM} {a : Int} : uX8_houseOf R 25 [x0, x1, some (.inl a), x3] st M ↔ uX8_houseOf R 26 [x0, x1, some (.inl a), x3] (.inl a :: st) M := zU_step dX8_houseOf_25 (Or.inl rfl)
theorem dX8_houseOf_26 : decode cX8_houseOf 26 = .ok (.invokevirtual 224, 3) := by decide +kernel
theorem rX8_houseOf_26 {R : zP} {x0 x1 x2 x3 : Option zV} {st : List zV} {M : zM} {a0 a1 a2 : zV} : uX8_houseOf R 26 [x0, x1, x2, x3] (a2 :: a1 :: a0 :: st) M ↔ (st.length ≤ 4 ∧ zcv (zv 8 tX8_ayesNow) [a0, a1, a2] M (fun v M => uX8_houseOf R 29 [x0, x1, x2, x3] (v :: st) M)) := Iff.trans (zU_step dX8_houseOf_26 (Or.inl rfl)) ⟨fun h => ⟨h.2.1, zcv_of h.2.2⟩, fun h => ⟨rfl, h.1, zcv_to h.2⟩⟩
theorem dX8_houseOf_29 : decode cX8_houseOf 29 = .ok (.invokevirtual 227, 3) := by decide +kernel
theorem rX8_houseOf_29 {R : zP} {x0 x1 x2 x3 : Option zV} {st : List zV} {M : zM} {a0 a1 : zV} : uX8_houseOf R 29 [x0, x1, x2, x3] (a1 :: a0 :: st) M ↔ (st.length ≤ 4 ∧ zcv (zv 8 tX8_isCarried) [a0, a1] M (fun v M => uX8_houseOf R 32 [x0, x1, x2, x3] (v :: st) M)) := Iff.trans (zU_step dX8_houseOf_29 (Or.inl rfl)) ⟨fun h => ⟨h.2.1, zcv_of h.2.2⟩, fun h => ⟨rfl, h.1, zcv_to h.2⟩⟩
theorem dX8_houseOf_32 : decode cX8_houseOf 32 = .ok (.ifCond .eq 7, 3) := by decide +kernel
theorem rX8_houseOf_32 {R : zP} {x0 x1 x2 x3 : Option zV} {st : List zV} {M : zM} {a : Int} : uX8_houseOf R 32 [x0, x1, x2, x3] (.inl a :: st) M ↔ (zIR a ∧ if a = 0 then uX8_houseOf R 39 [x0, x1, x2, x3] st M else uX8_houseOf R 35 [x0, x1, x2, x3] st M) := Iff.trans (zU_step dX8_houseOf_32 (Or.inl rfl)) ⟨fun h => ⟨h.1.1, (zite (c := a = 0)).mpr h.2⟩, fun h => ⟨⟨h.1, by decide⟩, (zite (c := a = 0)).mp h.2⟩⟩
theorem dX8_houseOf_35 : decode cX8_houseOf 35 = .ok (.iconst 1, 1) := by decide +kernel
theorem rX8_houseOf_35 {R : zP} {x0 x1 x2 x3 : Option zV} {st : List zV} {M : zM} : uX8_houseOf R 35 [x0, x1, x2, x3] st M ↔ uX8_houseOf R 36 [x0, x1, x2, x3] (.inl (1) :: st) M := zU_step dX8_houseOf_35 (Or.inl rfl)
theorem dX8_houseOf_36 : decode cX8_houseOf 36 = .ok (.goto 13, 3) := by decide +kernel
theorem rX8_houseOf_36 {R : zP} {x0 x1 x2 x3 : Option zV} {st : List zV} {M : zM} : uX8_houseOf R 36 [x0, x1, x2, x3] st M ↔ uX8_houseOf R 49 [x0, x1, x2, x3] st M := Iff.trans (zU_step dX8_houseOf_36 (Or.inl rfl)) ⟨fun h => h.2, fun h => ⟨by decide, h⟩⟩
theorem dX8_houseOf_39 : decode cX8_houseOf 39 = .ok (.iconst 0, 1) := by decide +kernel
theorem rX8_houseOf_39 {R : zP} {x0 x1 x2 x3 : Option zV} {st : List zV} {M : zM} : uX8_houseOf R 39 [x0, x1, x2, x3] st M ↔ uX8_houseOf R 40 [x0, x1, x2, x3] (.inl (0) :: st) M := zU_step dX8_houseOf_39 (Or.inl rfl)
theorem dX8_houseOf_40 : decode cX8_houseOf 40 = .ok (.goto 9, 3) := by decide +kernel
theorem rX8_houseOf_40 {R : zP} {x0 x1 x2 x3 : Option zV} {st : List zV} {M : zM} : uX8_houseOf R 40 [x0, x1, x2, x3] st M ↔ uX8_houseOf R 49 [x0, x1, x2, x3] st M := Iff.trans (zU_step dX8_houseOf_40 (Or.inl rfl)) ⟨fun h => h.2, fun h => ⟨by decide, h⟩⟩
theorem dX8_houseOf_43 : decode cX8_houseOf 43 = .ok (.aload_n 0, 1) := by decide +kernel
theorem rX8_houseOf_43 {R : zP} {x1 x2 x3 : Option zV} {st : List zV} {M : zM} {a : Nat} : uX8_houseOf R 43 [some (.inr (.inr a)), x1, x2, x3] st M ↔ uX8_houseOf R 44 [some (.inr (.inr a)), x1, x2, x3] (.inr (.inr a) :: st) M := zU_step dX8_houseOf_43 (Or.inl rfl)
theorem dX8_houseOf_44 : decode cX8_houseOf 44 = .ok (.iload_n 1, 1) := by decide +kernel
theorem rX8_houseOf_44 {R : zP} {x0 x2 x3 : Option zV} {st : List zV} {M : zM} {a : Int} : uX8_houseOf R 44 [x0, some (.inl a), x2, x3] st M ↔ uX8_houseOf R 45 [x0, some (.inl a), x2, x3] (.inl a :: st) M := zU_step dX8_houseOf_44 (Or.inl rfl)
theorem dX8_houseOf_45 : decode cX8_houseOf 45 = .ok (.iload_n 2, 1) := by decide +kernel
theorem rX8_houseOf_45 {R : zP} {x0 x1 x3 : Option zV} {st : List zV} {M : zM} {a : Int} : uX8_houseOf R 45 [x0, x1, some (.inl a), x3] st M ↔ uX8_houseOf R 46 [x0, x1, some (.inl a), x3] (.inl a :: st) M := zU_step dX8_houseOf_45 (Or.inl rfl)
theorem dX8_houseOf_46 : decode cX8_houseOf 46 = .ok (.invokevirtual 230, 3) := by decide +kernel
theorem rX8_houseOf_46 {R : zP} {x0 x1 x2 x3 : Option zV} {st : List zV} {M : zM} {a0 a1 a2 : zV} : uX8_houseOf R 46 [x0, x1, x2, x3] (a2 :: a1 :: a0 :: st) M ↔ (st.length ≤ 4 ∧ zcv (zv 8 tX8_hinges) [a0, a1, a2] M (fun v M => uX8_houseOf R 49 [x0, x1, x2, x3] (v :: st) M)) := Iff.trans (zU_step dX8_houseOf_46 (Or.inl rfl)) ⟨fun h => ⟨h.2.1, zcv_of h.2.2⟩, fun h => ⟨rfl, h.1, zcv_to h.2⟩⟩
theorem dX8_houseOf_49 : decode cX8_houseOf 49 = .ok (.ireturn, 1) := by decide +kernel
theorem rX8_houseOf_49 {R : zP} {x0 x1 x2 x3 : Option zV} {M : zM} {a : Int} : uX8_houseOf R 49 [x0, x1, x2, x3] [.inl a] M ↔ R (some (.inl a)) M := Iff.trans (zU_step dX8_houseOf_49 (Or.inl rfl)) ⟨fun h => h.2.2, fun h => ⟨rfl, Or.inl rfl, h⟩⟩
theorem eX8_houseOf {R : zP} {M : zM} {a0 : Nat} {p0 : Int} {p1 : Int} {p2 : Int} : tX8_houseOf [.inr (.inr a0), .inl p0, .inl p1, .inl p2] M R ↔ uX8_houseOf R 0 [some (.inr (.inr a0)), some (.inl p0), some (.inl p1), some (.inl p2)] [] M := ⟨fun h => h.2, fun h => ⟨show 4 ≤ 4 by decide, h⟩⟩
def uX8_house (R : zP) : zK := zU fX8 vX8_house cX8_house R
theorem dX8_house_0 : decode cX8_house 0 = .ok (.iload_n 1, 1) := by decide +kernel
theorem rX8_house_0 {R : zP} {x0 x2 x3 : Option zV} {st : List zV} {M : zM} {a : Int} : uX8_house R 0 [x0, some (.inl a), x2, x3] st M ↔ uX8_house R 1 [x0, some (.inl a), x2, x3] (.inl a :: st) M := zU_step dX8_house_0 (Or.inl rfl)
theorem dX8_house_1 : decode cX8_house 1 = .ok (.invokestatic 160, 3) := by decide +kernel
theorem rX8_house_1 {R : zP} {x0 x1 x2 x3 : Option zV} {st : List zV} {M : zM} {a0 : zV} : uX8_house R 1 [x0, x1, x2, x3] (a0 :: st) M ↔ (st.length ≤ 4 ∧ zcv tX8_isTerm [a0] M (fun v M => uX8_house R 4 [x0, x1, x2, x3] (v :: st) M)) := Iff.trans (zU_step dX8_house_1 (Or.inl rfl)) ⟨fun h => ⟨h.2.1, zcv_of h.2.2⟩, fun h => ⟨rfl, h.1, zcv_to h.2⟩⟩
theorem dX8_house_4 : decode cX8_house 4 = .ok (.ifCond .eq 29, 3) := by decide +kernel
theorem rX8_house_4 {R : zP} {x0 x1 x2 x3 : Option zV} {st : List zV} {M : zM} {a : Int} : uX8_house R 4 [x0, x1, x2, x3] (.inl a :: st) M ↔ (zIR a ∧ if a = 0 then uX8_house R 33 [x0, x1, x2, x3] st M else uX8_house R 7 [x0, x1, x2, x3] st M) := Iff.trans (zU_step dX8_house_4 (Or.inl rfl)) ⟨fun h => ⟨h.1.1, (zite (c := a = 0)).mpr h.2⟩, fun h => ⟨⟨h.1, by decide⟩, (zite (c := a = 0)).mp h.2⟩⟩
theorem dX8_house_7 : decode cX8_house 7 = .ok (.iload_n 2, 1) := by decide +kernel
theorem rX8_house_7 {R : zP} {x0 x1 x3 : Option zV} {st : List zV} {M : zM} {a : Int} : uX8_house R 7 [x0, x1, some (.inl a), x3] st M ↔ uX8_house R 8 [x0, x1, some (.inl a), x3] (.inl a :: st) M := zU_step dX8_house_7 (Or.inl rfl)
theorem dX8_house_8 : decode cX8_house 8 = .ok (.invokestatic 208, 3) := by decide +kernel
theorem rX8_house_8 {R : zP} {x0 x1 x2 x3 : Option zV} {st : List zV} {M : zM} {a0 : zV} : uX8_house R 8 [x0, x1, x2, x3] (a0 :: st) M ↔ (st.length ≤ 4 ∧ zcv tX8_isQuestion [a0] M (fun v M => uX8_house R 11 [x0, x1, x2, x3] (v :: st) M)) := Iff.trans (zU_step dX8_house_8 (Or.inl rfl)) ⟨fun h => ⟨h.2.1, zcv_of h.2.2⟩, fun h => ⟨rfl, h.1, zcv_to h.2⟩⟩
theorem dX8_house_11 : decode cX8_house 11 = .ok (.ifCond .eq 22, 3) := by decide +kernel
theorem rX8_house_11 {R : zP} {x0 x1 x2 x3 : Option zV} {st : List zV} {M : zM} {a : Int} : uX8_house R 11 [x0, x1, x2, x3] (.inl a :: st) M ↔ (zIR a ∧ if a = 0 then uX8_house R 33 [x0, x1, x2, x3] st M else uX8_house R 14 [x0, x1, x2, x3] st M) := Iff.trans (zU_step dX8_house_11 (Or.inl rfl)) ⟨fun h => ⟨h.1.1, (zite (c := a = 0)).mpr h.2⟩, fun h => ⟨⟨h.1, by decide⟩, (zite (c := a = 0)).mp h.2⟩⟩
theorem dX8_house_14 : decode cX8_house 14 = .ok (.iload_n 3, 1) := by decide +kernel
theorem rX8_house_14 {R : zP} {x0 x1 x2 : Option zV} {st : List zV} {M : zM} {a : Int} : uX8_house R 14 [x0, x1, x2, some (.inl a)] st M ↔ uX8_house R 15 [x0, x1, x2, some (.inl a)] (.inl a :: st) M := zU_step dX8_house_14 (Or.inl rfl)
theorem dX8_house_15 : decode cX8_house 15 = .ok (.iconst 0, 1) := by decide +kernel
theorem rX8_house_15 {R : zP} {x0 x1 x2 x3 : Option zV} {st : List zV} {M : zM} : uX8_house R 15 [x0, x1, x2, x3] st M ↔ uX8_house R 16 [x0, x1, x2, x3] (.inl (0) :: st) M := zU_step dX8_house_15 (Or.inl rfl)
theorem dX8_house_16 : decode cX8_house 16 = .ok (.iconst 2, 1) := by decide +kernel
theorem rX8_house_16 {R : zP} {x0 x1 x2 x3 : Option zV} {st : List zV} {M : zM} : uX8_house R 16 [x0, x1, x2, x3] st M ↔ uX8_house R 17 [x0, x1, x2, x3] (.inl (2) :: st) M := zU_step dX8_house_16 (Or.inl rfl)
theorem dX8_house_17 : decode cX8_house 17 = .ok (.invokestatic 112, 3) := by decide +kernel
theorem rX8_house_17 {R : zP} {x0 x1 x2 x3 : Option zV} {st : List zV} {M : zM} {a0 a1 a2 : zV} : uX8_house R 17 [x0, x1, x2, x3] (a2 :: a1 :: a0 :: st) M ↔ (st.length ≤ 4 ∧ zcv tX8_in [a0, a1, a2] M (fun v M => uX8_house R 20 [x0, x1, x2, x3] (v :: st) M)) := Iff.trans (zU_step dX8_house_17 (Or.inl rfl)) ⟨fun h => ⟨h.2.1, zcv_of h.2.2⟩, fun h => ⟨rfl, h.1, zcv_to h.2⟩⟩
theorem dX8_house_20 : decode cX8_house 20 = .ok (.ifCond .eq 13, 3) := by decide +kernel
theorem rX8_house_20 {R : zP} {x0 x1 x2 x3 : Option zV} {st : List zV} {M : zM} {a : Int} : uX8_house R 20 [x0, x1, x2, x3] (.inl a :: st) M ↔ (zIR a ∧ if a = 0 then uX8_house R 33 [x0, x1, x2, x3] st M else uX8_house R 23 [x0, x1, x2, x3] st M) := Iff.trans (zU_step dX8_house_20 (Or.inl rfl)) ⟨fun h => ⟨h.1.1, (zite (c := a = 0)).mpr h.2⟩, fun h => ⟨⟨h.1, by decide⟩, (zite (c := a = 0)).mp h.2⟩⟩
theorem dX8_house_23 : decode cX8_house 23 = .ok (.aload_n 0, 1) := by decide +kernel
theorem rX8_house_23 {R : zP} {x1 x2 x3 : Option zV} {st : List zV} {M : zM} {a : Nat} : uX8_house R 23 [some (.inr (.inr a)), x1, x2, x3] st M ↔ uX8_house R 24 [some (.inr (.inr a)), x1, x2, x3] (.inr (.inr a) :: st) M := zU_step dX8_house_23 (Or.inl rfl)
theorem dX8_house_24 : decode cX8_house 24 = .ok (.iload_n 1, 1) := by decide +kernel
theorem rX8_house_24 {R : zP} {x0 x2 x3 : Option zV} {st : List zV} {M : zM} {a : Int} : uX8_house R 24 [x0, some (.inl a), x2, x3] st M ↔ uX8_house R 25 [x0, some (.inl a), x2, x3] (.inl a :: st) M := zU_step dX8_house_24 (Or.inl rfl)
theorem dX8_house_25 : decode cX8_house 25 = .ok (.iload_n 2, 1) := by decide +kernel
theorem rX8_house_25 {R : zP} {x0 x1 x3 : Option zV} {st : List zV} {M : zM} {a : Int} : uX8_house R 25 [x0, x1, some (.inl a), x3] st M ↔ uX8_house R 26 [x0, x1, some (.inl a), x3] (.inl a :: st) M := zU_step dX8_house_25 (Or.inl rfl)
theorem dX8_house_26 : decode cX8_house 26 = .ok (.iload_n 3, 1) := by decide +kernel
theorem rX8_house_26 {R : zP} {x0 x1 x2 : Option zV} {st : List zV} {M : zM} {a : Int} : uX8_house R 26 [x0, x1, x2, some (.inl a)] st M ↔ uX8_house R 27 [x0, x1, x2, some (.inl a)] (.inl a :: st) M := zU_step dX8_house_26 (Or.inl rfl)
theorem dX8_house_27 : decode cX8_house 27 = .ok (.invokevirtual 233, 3) := by decide +kernel
theorem rX8_house_27 {R : zP} {x0 x1 x2 x3 : Option zV} {st : List zV} {M : zM} {a0 a1 a2 a3 : zV} : uX8_house R 27 [x0, x1, x2, x3] (a3 :: a2 :: a1 :: a0 :: st) M ↔ (st.length ≤ 4 ∧ zcv (zv 8 tX8_houseOf) [a0, a1, a2, a3] M (fun v M => uX8_house R 30 [x0, x1, x2, x3] (v :: st) M)) := Iff.trans (zU_step dX8_house_27 (Or.inl rfl)) ⟨fun h => ⟨h.2.1, zcv_of h.2.2⟩, fun h => ⟨rfl, h.1, zcv_to h.2⟩⟩
theorem dX8_house_30 : decode cX8_house 30 = .ok (.goto 5, 3) := by decide +kernel
theorem rX8_house_30 {R : zP} {x0 x1 x2 x3 : Option zV} {st : List zV} {M : zM} : uX8_house R 30 [x0, x1, x2, x3] st M ↔ uX8_house R 35 [x0, x1, x2, x3] st M := Iff.trans (zU_step dX8_house_30 (Or.inl rfl)) ⟨fun h => h.2, fun h => ⟨by decide, h⟩⟩
theorem dX8_house_33 : decode cX8_house 33 = .ok (.bipush (-2), 2) := by decide +kernel
theorem rX8_house_33 {R : zP} {x0 x1 x2 x3 : Option zV} {st : List zV} {M : zM} : uX8_house R 33 [x0, x1, x2, x3] st M ↔ uX8_house R 35 [x0, x1, x2, x3] (.inl (-2) :: st) M := Iff.trans (zU_step dX8_house_33 (Or.inl rfl)) ⟨fun h => h.2, fun h => ⟨by decide, h⟩⟩
theorem dX8_house_35 : decode cX8_house 35 = .ok (.ireturn, 1) := by decide +kernel
theorem rX8_house_35 {R : zP} {x0 x1 x2 x3 : Option zV} {M : zM} {a : Int} : uX8_house R 35 [x0, x1, x2, x3] [.inl a] M ↔ R (some (.inl a)) M := Iff.trans (zU_step dX8_house_35 (Or.inl rfl)) ⟨fun h => h.2.2, fun h => ⟨rfl, Or.inl rfl, h⟩⟩
theorem eX8_house {R : zP} {M : zM} {a0 : Nat} {p0 : Int} {p1 : Int} {p2 : Int} : tX8_house [.inr (.inr a0), .inl p0, .inl p1, .inl p2] M R ↔ uX8_house R 0 [some (.inr (.inr a0)), some (.inl p0), some (.inl p1), some (.inl p2)] [] M := ⟨fun h => h.2, fun h => ⟨show 4 ≤ 4 by decide, h⟩⟩
def uX8_puseyOf (R : zP) : zK := zU fX8 vX8_puseyOf cX8_puseyOf R
theorem dX8_puseyOf_0 : decode cX8_puseyOf 0 = .ok (.aload_n 0, 1) := by decide +kernel
theorem rX8_puseyOf_0 {R : zP} {x1 x2 x3 : Option zV} {st : List zV} {M : zM} {a : Nat} : uX8_puseyOf R 0 [some (.inr (.inr a)), x1, x2, x3] st M ↔ uX8_puseyOf R 1 [some (.inr (.inr a)), x1, x2, x3] (.inr (.inr a) :: st) M := zU_step dX8_puseyOf_0 (Or.inl rfl)
theorem dX8_puseyOf_1 : decode cX8_puseyOf 1 = .ok (.invokevirtual 205, 3) := by decide +kernel
theorem rX8_puseyOf_1 {R : zP} {x0 x1 x2 x3 : Option zV} {st : List zV} {M : zM} {a0 : zV} : uX8_puseyOf R 1 [x0, x1, x2, x3] (a0 :: st) M ↔ (st.length ≤ 4 ∧ zcn (zv 8 tX8_runsTold) [a0] M (fun M => uX8_puseyOf R 4 [x0, x1, x2, x3] st M)) := Iff.trans (zU_step dX8_puseyOf_1 (Or.inl rfl)) ⟨fun h => ⟨h.2.1, zcn_of h.2.2⟩, fun h => ⟨rfl, h.1, zcn_to h.2⟩⟩
theorem dX8_puseyOf_4 : decode cX8_puseyOf 4 = .ok (.iconst 0, 1) := by decide +kernel
theorem rX8_puseyOf_4 {R : zP} {x0 x1 x2 x3 : Option zV} {st : List zV} {M : zM} : uX8_puseyOf R 4 [x0, x1, x2, x3] st M ↔ uX8_puseyOf R 5 [x0, x1, x2, x3] (.inl (0) :: st) M := zU_step dX8_puseyOf_4 (Or.inl rfl)
theorem dX8_puseyOf_5 : decode cX8_puseyOf 5 = .ok (.istore_n 2, 1) := by decide +kernel
theorem rX8_puseyOf_5 {R : zP} {x0 x2 x3 : Option zV} {st : List zV} {M : zM} {a : Int} {y : Int} : uX8_puseyOf R 5 [x0, some (.inl y), x2, x3] (.inl a :: st) M ↔ uX8_puseyOf R 6 [x0, some (.inl y), some (.inl a), x3] st M := Iff.trans (zU_step dX8_puseyOf_5 (Or.inl rfl)) ⟨fun h => h.2, fun h => ⟨show 2 < 4 by decide, h⟩⟩
theorem rX8_puseyOf_5z {R : zP} {x0 x1 x2 x3 : Option zV} {st : List zV} {M : zM} {a : Int} : uX8_puseyOf R 5 [x0, x1, x2, x3] (.inl a :: st) M ↔ uX8_puseyOf R 6 [x0, zkeep x1, some (.inl a), x3] st M := Iff.trans (zU_step dX8_puseyOf_5 (Or.inl rfl)) ⟨fun h => h.2, fun h => ⟨show 2 < 4 by decide, h⟩⟩
theorem dX8_puseyOf_6 : decode cX8_puseyOf 6 = .ok (.iload_n 2, 1) := by decide +kernel
theorem rX8_puseyOf_6 {R : zP} {x0 x1 x3 : Option zV} {st : List zV} {M : zM} {a : Int} : uX8_puseyOf R 6 [x0, x1, some (.inl a), x3] st M ↔ uX8_puseyOf R 7 [x0, x1, some (.inl a), x3] (.inl a :: st) M := zU_step dX8_puseyOf_6 (Or.inl rfl)
theorem dX8_puseyOf_7 : decode cX8_puseyOf 7 = .ok (.bipush 20, 2) := by decide +kernel
theorem rX8_puseyOf_7 {R : zP} {x0 x1 x2 x3 : Option zV} {st : List zV} {M : zM} : uX8_puseyOf R 7 [x0, x1, x2, x3] st M ↔ uX8_puseyOf R 9 [x0, x1, x2, x3] (.inl (20) :: st) M := Iff.trans (zU_step dX8_puseyOf_7 (Or.inl rfl)) ⟨fun h => h.2, fun h => ⟨by decide, h⟩⟩
theorem dX8_puseyOf_9 : decode cX8_puseyOf 9 = .ok (.if_icmp .ge 80, 3) := by decide +kernel
theorem rX8_puseyOf_9 {R : zP} {x0 x1 x2 x3 : Option zV} {st : List zV} {M : zM} {a b : Int} : uX8_puseyOf R 9 [x0, x1, x2, x3] (.inl b :: .inl a :: st) M ↔ ((zIR a ∧ zIR b) ∧ if b ≤ a then uX8_puseyOf R 89 [x0, x1, x2, x3] st M else uX8_puseyOf R 12 [x0, x1, x2, x3] st M) := Iff.trans (zU_step dX8_puseyOf_9 (Or.inl rfl)) ⟨fun h => ⟨⟨h.1.1, h.1.2.1⟩, (zite (c := b ≤ a)).mpr h.2⟩, fun h => ⟨⟨h.1.1, h.1.2, by decide⟩, (zite (c := b ≤ a)).mp h.2⟩⟩
theorem dX8_puseyOf_12 : decode cX8_puseyOf 12 = .ok (.iconst 0, 1) := by decide +kernel
theorem rX8_puseyOf_12 {R : zP} {x0 x1 x2 x3 : Option zV} {st : List zV} {M : zM} : uX8_puseyOf R 12 [x0, x1, x2, x3] st M ↔ uX8_puseyOf R 13 [x0, x1, x2, x3] (.inl (0) :: st) M := zU_step dX8_puseyOf_12 (Or.inl rfl)
theorem dX8_puseyOf_13 : decode cX8_puseyOf 13 = .ok (.istore_n 3, 1) := by decide +kernel
theorem rX8_puseyOf_13 {R : zP} {x0 x1 x3 : Option zV} {st : List zV} {M : zM} {a : Int} {y : Int} : uX8_puseyOf R 13 [x0, x1, some (.inl y), x3] (.inl a :: st) M ↔ uX8_puseyOf R 14 [x0, x1, some (.inl y), some (.inl a)] st M := Iff.trans (zU_step dX8_puseyOf_13 (Or.inl rfl)) ⟨fun h => h.2, fun h => ⟨show 3 < 4 by decide, h⟩⟩
theorem rX8_puseyOf_13z {R : zP} {x0 x1 x2 x3 : Option zV} {st : List zV} {M : zM} {a : Int} : uX8_puseyOf R 13 [x0, x1, x2, x3] (.inl a :: st) M ↔ uX8_puseyOf R 14 [x0, x1, zkeep x2, some (.inl a)] st M := Iff.trans (zU_step dX8_puseyOf_13 (Or.inl rfl)) ⟨fun h => h.2, fun h => ⟨show 3 < 4 by decide, h⟩⟩
theorem dX8_puseyOf_14 : decode cX8_puseyOf 14 = .ok (.iload_n 3, 1) := by decide +kernel
theorem rX8_puseyOf_14 {R : zP} {x0 x1 x2 : Option zV} {st : List zV} {M : zM} {a : Int} : uX8_puseyOf R 14 [x0, x1, x2, some (.inl a)] st M ↔ uX8_puseyOf R 15 [x0, x1, x2, some (.inl a)] (.inl a :: st) M := zU_step dX8_puseyOf_14 (Or.inl rfl)
theorem dX8_puseyOf_15 : decode cX8_puseyOf 15 = .ok (.iconst 4, 1) := by decide +kernel
theorem rX8_puseyOf_15 {R : zP} {x0 x1 x2 x3 : Option zV} {st : List zV} {M : zM} : uX8_puseyOf R 15 [x0, x1, x2, x3] st M ↔ uX8_puseyOf R 16 [x0, x1, x2, x3] (.inl (4) :: st) M := zU_step dX8_puseyOf_15 (Or.inl rfl)
theorem dX8_puseyOf_16 : decode cX8_puseyOf 16 = .ok (.aload_n 0, 1) := by decide +kernel
theorem rX8_puseyOf_16 {R : zP} {x1 x2 x3 : Option zV} {st : List zV} {M : zM} {a : Nat} : uX8_puseyOf R 16 [some (.inr (.inr a)), x1, x2, x3] st M ↔ uX8_puseyOf R 17 [some (.inr (.inr a)), x1, x2, x3] (.inr (.inr a) :: st) M := zU_step dX8_puseyOf_16 (Or.inl rfl)
theorem dX8_puseyOf_17 : decode cX8_puseyOf 17 = .ok (.getfield 127, 3) := by decide +kernel
theorem rX8_puseyOf_17 {R : zP} {x0 x1 x2 x3 : Option zV} {st : List zV} {M : zM} {r : Nat} : uX8_puseyOf R 17 [x0, x1, x2, x3] (.inr (.inr r) :: st) M ↔ zgetx fX8 127 r M (fun v => uX8_puseyOf R 20 [x0, x1, x2, x3] (v :: st) M) := zU_step dX8_puseyOf_17 (Or.inl rfl)
theorem dX8_puseyOf_20 : decode cX8_puseyOf 20 = .ok (.imul, 1) := by decide +kernel
theorem rX8_puseyOf_20 {R : zP} {x0 x1 x2 x3 : Option zV} {st : List zV} {M : zM} {a b : Int} : uX8_puseyOf R 20 [x0, x1, x2, x3] (.inl b :: .inl a :: st) M ↔ uX8_puseyOf R 21 [x0, x1, x2, x3] (.inl (a * b) :: st) M := zU_step dX8_puseyOf_20 (Or.inl rfl)
theorem dX8_puseyOf_21 : decode cX8_puseyOf 21 = .ok (.if_icmp .ge 62, 3) := by decide +kernel
theorem rX8_puseyOf_21 {R : zP} {x0 x1 x2 x3 : Option zV} {st : List zV} {M : zM} {a b : Int} : uX8_puseyOf R 21 [x0, x1, x2, x3] (.inl b :: .inl a :: st) M ↔ ((zIR a ∧ zIR b) ∧ if b ≤ a then uX8_puseyOf R 83 [x0, x1, x2, x3] st M else uX8_puseyOf R 24 [x0, x1, x2, x3] st M) := Iff.trans (zU_step dX8_puseyOf_21 (Or.inl rfl)) ⟨fun h => ⟨⟨h.1.1, h.1.2.1⟩, (zite (c := b ≤ a)).mpr h.2⟩, fun h => ⟨⟨h.1.1, h.1.2, by decide⟩, (zite (c := b ≤ a)).mp h.2⟩⟩
theorem dX8_puseyOf_24 : decode cX8_puseyOf 24 = .ok (.aload_n 0, 1) := by decide +kernel
theorem rX8_puseyOf_24 {R : zP} {x1 x2 x3 : Option zV} {st : List zV} {M : zM} {a : Nat} : uX8_puseyOf R 24 [some (.inr (.inr a)), x1, x2, x3] st M ↔ uX8_puseyOf R 25 [some (.inr (.inr a)), x1, x2, x3] (.inr (.inr a) :: st) M := zU_step dX8_puseyOf_24 (Or.inl rfl)
theorem dX8_puseyOf_25 : decode cX8_puseyOf 25 = .ok (.getfield 64, 3) := by decide +kernel
theorem rX8_puseyOf_25 {R : zP} {x0 x1 x2 x3 : Option zV} {st : List zV} {M : zM} {r : Nat} : uX8_puseyOf R 25 [x0, x1, x2, x3] (.inr (.inr r) :: st) M ↔ zgetx fX8 64 r M (fun v => uX8_puseyOf R 28 [x0, x1, x2, x3] (v :: st) M) := zU_step dX8_puseyOf_25 (Or.inl rfl)
theorem dX8_puseyOf_28 : decode cX8_puseyOf 28 = .ok (.bipush 32, 2) := by decide +kernel
theorem rX8_puseyOf_28 {R : zP} {x0 x1 x2 x3 : Option zV} {st : List zV} {M : zM} : uX8_puseyOf R 28 [x0, x1, x2, x3] st M ↔ uX8_puseyOf R 30 [x0, x1, x2, x3] (.inl (32) :: st) M := Iff.trans (zU_step dX8_puseyOf_28 (Or.inl rfl)) ⟨fun h => h.2, fun h => ⟨by decide, h⟩⟩
theorem dX8_puseyOf_30 : decode cX8_puseyOf 30 = .ok (.iload_n 2, 1) := by decide +kernel
theorem rX8_puseyOf_30 {R : zP} {x0 x1 x3 : Option zV} {st : List zV} {M : zM} {a : Int} : uX8_puseyOf R 30 [x0, x1, some (.inl a), x3] st M ↔ uX8_puseyOf R 31 [x0, x1, some (.inl a), x3] (.inl a :: st) M := zU_step dX8_puseyOf_30 (Or.inl rfl)
theorem dX8_puseyOf_31 : decode cX8_puseyOf 31 = .ok (.imul, 1) := by decide +kernel
theorem rX8_puseyOf_31 {R : zP} {x0 x1 x2 x3 : Option zV} {st : List zV} {M : zM} {a b : Int} : uX8_puseyOf R 31 [x0, x1, x2, x3] (.inl b :: .inl a :: st) M ↔ uX8_puseyOf R 32 [x0, x1, x2, x3] (.inl (a * b) :: st) M := zU_step dX8_puseyOf_31 (Or.inl rfl)
theorem dX8_puseyOf_32 : decode cX8_puseyOf 32 = .ok (.iload_n 3, 1) := by decide +kernel
theorem rX8_puseyOf_32 {R : zP} {x0 x1 x2 : Option zV} {st : List zV} {M : zM} {a : Int} : uX8_puseyOf R 32 [x0, x1, x2, some (.inl a)] st M ↔ uX8_puseyOf R 33 [x0, x1, x2, some (.inl a)] (.inl a :: st) M := zU_step dX8_puseyOf_32 (Or.inl rfl)
theorem dX8_puseyOf_33 : decode cX8_puseyOf 33 = .ok (.iadd, 1) := by decide +kernel
theorem rX8_puseyOf_33 {R : zP} {x0 x1 x2 x3 : Option zV} {st : List zV} {M : zM} {a b : Int} : uX8_puseyOf R 33 [x0, x1, x2, x3] (.inl b :: .inl a :: st) M ↔ uX8_puseyOf R 34 [x0, x1, x2, x3] (.inl (a + b) :: st) M := zU_step dX8_puseyOf_33 (Or.inl rfl)
theorem dX8_puseyOf_34 : decode cX8_puseyOf 34 = .ok (.iaload, 1) := by decide +kernel
theorem rX8_puseyOf_34 {R : zP} {x0 x1 x2 x3 : Option zV} {st : List zV} {M : zM} {i : Int} {r : Nat} : uX8_puseyOf R 34 [x0, x1, x2, x3] (.inl i :: .inr (.inr r) :: st) M ↔ zread fX8 0 r M i (fun v => uX8_puseyOf R 35 [x0, x1, x2, x3] (.inl v :: st) M) := zU_step dX8_puseyOf_34 (Or.inl rfl)
theorem dX8_puseyOf_35 : decode cX8_puseyOf 35 = .ok (.ifCond .ne 42, 3) := by decide +kernel
theorem rX8_puseyOf_35 {R : zP} {x0 x1 x2 x3 : Option zV} {st : List zV} {M : zM} {a : Int} : uX8_puseyOf R 35 [x0, x1, x2, x3] (.inl a :: st) M ↔ (zIR a ∧ if a ≠ 0 then uX8_puseyOf R 77 [x0, x1, x2, x3] st M else uX8_puseyOf R 38 [x0, x1, x2, x3] st M) := Iff.trans (zU_step dX8_puseyOf_35 (Or.inl rfl)) ⟨fun h => ⟨h.1.1, (zite (c := a ≠ 0)).mpr h.2⟩, fun h => ⟨⟨h.1, by decide⟩, (zite (c := a ≠ 0)).mp h.2⟩⟩
theorem dX8_puseyOf_38 : decode cX8_puseyOf 38 = .ok (.aload_n 0, 1) := by decide +kernel
theorem rX8_puseyOf_38 {R : zP} {x1 x2 x3 : Option zV} {st : List zV} {M : zM} {a : Nat} : uX8_puseyOf R 38 [some (.inr (.inr a)), x1, x2, x3] st M ↔ uX8_puseyOf R 39 [some (.inr (.inr a)), x1, x2, x3] (.inr (.inr a) :: st) M := zU_step dX8_puseyOf_38 (Or.inl rfl)
theorem dX8_puseyOf_39 : decode cX8_puseyOf 39 = .ok (.getfield 67, 3) := by decide +kernel
theorem rX8_puseyOf_39 {R : zP} {x0 x1 x2 x3 : Option zV} {st : List zV} {M : zM} {r : Nat} : uX8_puseyOf R 39 [x0, x1, x2, x3] (.inr (.inr r) :: st) M ↔ zgetx fX8 67 r M (fun v => uX8_puseyOf R 42 [x0, x1, x2, x3] (v :: st) M) := zU_step dX8_puseyOf_39 (Or.inl rfl)
theorem dX8_puseyOf_42 : decode cX8_puseyOf 42 = .ok (.bipush 32, 2) := by decide +kernel
theorem rX8_puseyOf_42 {R : zP} {x0 x1 x2 x3 : Option zV} {st : List zV} {M : zM} : uX8_puseyOf R 42 [x0, x1, x2, x3] st M ↔ uX8_puseyOf R 44 [x0, x1, x2, x3] (.inl (32) :: st) M := Iff.trans (zU_step dX8_puseyOf_42 (Or.inl rfl)) ⟨fun h => h.2, fun h => ⟨by decide, h⟩⟩
theorem dX8_puseyOf_44 : decode cX8_puseyOf 44 = .ok (.iload_n 2, 1) := by decide +kernel
theorem rX8_puseyOf_44 {R : zP} {x0 x1 x3 : Option zV} {st : List zV} {M : zM} {a : Int} : uX8_puseyOf R 44 [x0, x1, some (.inl a), x3] st M ↔ uX8_puseyOf R 45 [x0, x1, some (.inl a), x3] (.inl a :: st) M := zU_step dX8_puseyOf_44 (Or.inl rfl)
theorem dX8_puseyOf_45 : decode cX8_puseyOf 45 = .ok (.imul, 1) := by decide +kernel
theorem rX8_puseyOf_45 {R : zP} {x0 x1 x2 x3 : Option zV} {st : List zV} {M : zM} {a b : Int} : uX8_puseyOf R 45 [x0, x1, x2, x3] (.inl b :: .inl a :: st) M ↔ uX8_puseyOf R 46 [x0, x1, x2, x3] (.inl (a * b) :: st) M := zU_step dX8_puseyOf_45 (Or.inl rfl)
theorem dX8_puseyOf_46 : decode cX8_puseyOf 46 = .ok (.iload_n 3, 1) := by decide +kernel
theorem rX8_puseyOf_46 {R : zP} {x0 x1 x2 : Option zV} {st : List zV} {M : zM} {a : Int} : uX8_puseyOf R 46 [x0, x1, x2, some (.inl a)] st M ↔ uX8_puseyOf R 47 [x0, x1, x2, some (.inl a)] (.inl a :: st) M := zU_step dX8_puseyOf_46 (Or.inl rfl)
theorem dX8_puseyOf_47 : decode cX8_puseyOf 47 = .ok (.iadd, 1) := by decide +kernel
theorem rX8_puseyOf_47 {R : zP} {x0 x1 x2 x3 : Option zV} {st : List zV} {M : zM} {a b : Int} : uX8_puseyOf R 47 [x0, x1, x2, x3] (.inl b :: .inl a :: st) M ↔ uX8_puseyOf R 48 [x0, x1, x2, x3] (.inl (a + b) :: st) M := zU_step dX8_puseyOf_47 (Or.inl rfl)
theorem dX8_puseyOf_48 : decode cX8_puseyOf 48 = .ok (.iaload, 1) := by decide +kernel
theorem rX8_puseyOf_48 {R : zP} {x0 x1 x2 x3 : Option zV} {st : List zV} {M : zM} {i : Int} {r : Nat} : uX8_puseyOf R 48 [x0, x1, x2, x3] (.inl i :: .inr (.inr r) :: st) M ↔ zread fX8 0 r M i (fun v => uX8_puseyOf R 49 [x0, x1, x2, x3] (.inl v :: st) M) := zU_step dX8_puseyOf_48 (Or.inl rfl)
theorem dX8_puseyOf_49 : decode cX8_puseyOf 49 = .ok (.bipush 9, 2) := by decide +kernel
theorem rX8_puseyOf_49 {R : zP} {x0 x1 x2 x3 : Option zV} {st : List zV} {M : zM} : uX8_puseyOf R 49 [x0, x1, x2, x3] st M ↔ uX8_puseyOf R 51 [x0, x1, x2, x3] (.inl (9) :: st) M := Iff.trans (zU_step dX8_puseyOf_49 (Or.inl rfl)) ⟨fun h => h.2, fun h => ⟨by decide, h⟩⟩
theorem dX8_puseyOf_51 : decode cX8_puseyOf 51 = .ok (.if_icmp .ne 26, 3) := by decide +kernel
theorem rX8_puseyOf_51 {R : zP} {x0 x1 x2 x3 : Option zV} {st : List zV} {M : zM} {a b : Int} : uX8_puseyOf R 51 [x0, x1, x2, x3] (.inl b :: .inl a :: st) M ↔ ((zIR a ∧ zIR b) ∧ if a ≠ b then uX8_puseyOf R 77 [x0, x1, x2, x3] st M else uX8_puseyOf R 54 [x0, x1, x2, x3] st M) := Iff.trans (zU_step dX8_puseyOf_51 (Or.inl rfl)) ⟨fun h => ⟨⟨h.1.1, h.1.2.1⟩, (zite (c := a ≠ b)).mpr h.2⟩, fun h => ⟨⟨h.1.1, h.1.2, by decide⟩, (zite (c := a ≠ b)).mp h.2⟩⟩
theorem dX8_puseyOf_54 : decode cX8_puseyOf 54 = .ok (.iload_n 1, 1) := by decide +kernel
theorem rX8_puseyOf_54 {R : zP} {x0 x2 x3 : Option zV} {st : List zV} {M : zM} {a : Int} : uX8_puseyOf R 54 [x0, some (.inl a), x2, x3] st M ↔ uX8_puseyOf R 55 [x0, some (.inl a), x2, x3] (.inl a :: st) M := zU_step dX8_puseyOf_54 (Or.inl rfl)
theorem dX8_puseyOf_55 : decode cX8_puseyOf 55 = .ok (.ifCond .ne 7, 3) := by decide +kernel
theorem rX8_puseyOf_55 {R : zP} {x0 x1 x2 x3 : Option zV} {st : List zV} {M : zM} {a : Int} : uX8_puseyOf R 55 [x0, x1, x2, x3] (.inl a :: st) M ↔ (zIR a ∧ if a ≠ 0 then uX8_puseyOf R 62 [x0, x1, x2, x3] st M else uX8_puseyOf R 58 [x0, x1, x2, x3] st M) := Iff.trans (zU_step dX8_puseyOf_55 (Or.inl rfl)) ⟨fun h => ⟨h.1.1, (zite (c := a ≠ 0)).mpr h.2⟩, fun h => ⟨⟨h.1, by decide⟩, (zite (c := a ≠ 0)).mp h.2⟩⟩
theorem dX8_puseyOf_58 : decode cX8_puseyOf 58 = .ok (.iload_n 2, 1) := by decide +kernel
theorem rX8_puseyOf_58 {R : zP} {x0 x1 x3 : Option zV} {st : List zV} {M : zM} {a : Int} : uX8_puseyOf R 58 [x0, x1, some (.inl a), x3] st M ↔ uX8_puseyOf R 59 [x0, x1, some (.inl a), x3] (.inl a :: st) M := zU_step dX8_puseyOf_58 (Or.inl rfl)
theorem dX8_puseyOf_59 : decode cX8_puseyOf 59 = .ok (.goto 17, 3) := by decide +kernel
theorem rX8_puseyOf_59 {R : zP} {x0 x1 x2 x3 : Option zV} {st : List zV} {M : zM} : uX8_puseyOf R 59 [x0, x1, x2, x3] st M ↔ uX8_puseyOf R 76 [x0, x1, x2, x3] st M := Iff.trans (zU_step dX8_puseyOf_59 (Or.inl rfl)) ⟨fun h => h.2, fun h => ⟨by decide, h⟩⟩
theorem dX8_puseyOf_62 : decode cX8_puseyOf 62 = .ok (.iload_n 1, 1) := by decide +kernel
theorem rX8_puseyOf_62 {R : zP} {x0 x2 x3 : Option zV} {st : List zV} {M : zM} {a : Int} : uX8_puseyOf R 62 [x0, some (.inl a), x2, x3] st M ↔ uX8_puseyOf R 63 [x0, some (.inl a), x2, x3] (.inl a :: st) M := zU_step dX8_puseyOf_62 (Or.inl rfl)
theorem dX8_puseyOf_63 : decode cX8_puseyOf 63 = .ok (.iconst 1, 1) := by decide +kernel
theorem rX8_puseyOf_63 {R : zP} {x0 x1 x2 x3 : Option zV} {st : List zV} {M : zM} : uX8_puseyOf R 63 [x0, x1, x2, x3] st M ↔ uX8_puseyOf R 64 [x0, x1, x2, x3] (.inl (1) :: st) M := zU_step dX8_puseyOf_63 (Or.inl rfl)
theorem dX8_puseyOf_64 : decode cX8_puseyOf 64 = .ok (.if_icmp .ne 9, 3) := by decide +kernel
theorem rX8_puseyOf_64 {R : zP} {x0 x1 x2 x3 : Option zV} {st : List zV} {M : zM} {a b : Int} : uX8_puseyOf R 64 [x0, x1, x2, x3] (.inl b :: .inl a :: st) M ↔ ((zIR a ∧ zIR b) ∧ if a ≠ b then uX8_puseyOf R 73 [x0, x1, x2, x3] st M else uX8_puseyOf R 67 [x0, x1, x2, x3] st M) := Iff.trans (zU_step dX8_puseyOf_64 (Or.inl rfl)) ⟨fun h => ⟨⟨h.1.1, h.1.2.1⟩, (zite (c := a ≠ b)).mpr h.2⟩, fun h => ⟨⟨h.1.1, h.1.2, by decide⟩, (zite (c := a ≠ b)).mp h.2⟩⟩
theorem dX8_puseyOf_67 : decode cX8_puseyOf 67 = .ok (.iload_n 3, 1) := by decide +kernel
theorem rX8_puseyOf_67 {R : zP} {x0 x1 x2 : Option zV} {st : List zV} {M : zM} {a : Int} : uX8_puseyOf R 67 [x0, x1, x2, some (.inl a)] st M ↔ uX8_puseyOf R 68 [x0, x1, x2, some (.inl a)] (.inl a :: st) M := zU_step dX8_puseyOf_67 (Or.inl rfl)
theorem dX8_puseyOf_68 : decode cX8_puseyOf 68 = .ok (.iconst 4, 1) := by decide +kernel
theorem rX8_puseyOf_68 {R : zP} {x0 x1 x2 x3 : Option zV} {st : List zV} {M : zM} : uX8_puseyOf R 68 [x0, x1, x2, x3] st M ↔ uX8_puseyOf R 69 [x0, x1, x2, x3] (.inl (4) :: st) M := zU_step dX8_puseyOf_68 (Or.inl rfl)
theorem dX8_puseyOf_69 : decode cX8_puseyOf 69 = .ok (.idiv, 1) := by decide +kernel
theorem rX8_puseyOf_69 {R : zP} {x0 x1 x2 x3 : Option zV} {st : List zV} {M : zM} {a b : Int} : uX8_puseyOf R 69 [x0, x1, x2, x3] (.inl b :: .inl a :: st) M ↔ ((zIR a ∧ zIR b ∧ b ≠ 0) ∧ uX8_puseyOf R 70 [x0, x1, x2, x3] (.inl (a.tdiv b) :: st) M) := zU_step dX8_puseyOf_69 (Or.inl rfl)
theorem dX8_puseyOf_70 : decode cX8_puseyOf 70 = .ok (.goto 6, 3) := by decide +kernel
theorem rX8_puseyOf_70 {R : zP} {x0 x1 x2 x3 : Option zV} {st : List zV} {M : zM} : uX8_puseyOf R 70 [x0, x1, x2, x3] st M ↔ uX8_puseyOf R 76 [x0, x1, x2, x3] st M := Iff.trans (zU_step dX8_puseyOf_70 (Or.inl rfl)) ⟨fun h => h.2, fun h => ⟨by decide, h⟩⟩
theorem dX8_puseyOf_73 : decode cX8_puseyOf 73 = .ok (.iload_n 3, 1) := by decide +kernel
theorem rX8_puseyOf_73 {R : zP} {x0 x1 x2 : Option zV} {st : List zV} {M : zM} {a : Int} : uX8_puseyOf R 73 [x0, x1, x2, some (.inl a)] st M ↔ uX8_puseyOf R 74 [x0, x1, x2, some (.inl a)] (.inl a :: st) M := zU_step dX8_puseyOf_73 (Or.inl rfl)
theorem dX8_puseyOf_74 : decode cX8_puseyOf 74 = .ok (.iconst 4, 1) := by decide +kernel
theorem rX8_puseyOf_74 {R : zP} {x0 x1 x2 x3 : Option zV} {st : List zV} {M : zM} : uX8_puseyOf R 74 [x0, x1, x2, x3] st M ↔ uX8_puseyOf R 75 [x0, x1, x2, x3] (.inl (4) :: st) M := zU_step dX8_puseyOf_74 (Or.inl rfl)
theorem dX8_puseyOf_75 : decode cX8_puseyOf 75 = .ok (.irem, 1) := by decide +kernel
theorem rX8_puseyOf_75 {R : zP} {x0 x1 x2 x3 : Option zV} {st : List zV} {M : zM} {a b : Int} : uX8_puseyOf R 75 [x0, x1, x2, x3] (.inl b :: .inl a :: st) M ↔ ((zIR a ∧ zIR b ∧ b ≠ 0) ∧ uX8_puseyOf R 76 [x0, x1, x2, x3] (.inl (a.tmod b) :: st) M) := zU_step dX8_puseyOf_75 (Or.inl rfl)
theorem dX8_puseyOf_76 : decode cX8_puseyOf 76 = .ok (.ireturn, 1) := by decide +kernel
theorem rX8_puseyOf_76 {R : zP} {x0 x1 x2 x3 : Option zV} {M : zM} {a : Int} : uX8_puseyOf R 76 [x0, x1, x2, x3] [.inl a] M ↔ R (some (.inl a)) M := Iff.trans (zU_step dX8_puseyOf_76 (Or.inl rfl)) ⟨fun h => h.2.2, fun h => ⟨rfl, Or.inl rfl, h⟩⟩
theorem dX8_puseyOf_77 : decode cX8_puseyOf 77 = .ok (.iinc 3 1, 3) := by decide +kernel
theorem rX8_puseyOf_77 {R : zP} {x0 x1 : Option zV} {st : List zV} {M : zM} {a : Int} {y : Int} : uX8_puseyOf R 77 [x0, x1, some (.inl y), some (.inl a)] st M ↔ uX8_puseyOf R 80 [x0, x1, some (.inl y), some (.inl (a + (1)))] st M := Iff.trans (zU_step dX8_puseyOf_77 (Or.inl rfl)) ⟨fun h => h.2, fun h => ⟨show 3 < 4 by decide, h⟩⟩
theorem rX8_puseyOf_77z {R : zP} {x0 x1 x2 : Option zV} {st : List zV} {M : zM} {a : Int} : uX8_puseyOf R 77 [x0, x1, x2, some (.inl a)] st M ↔ uX8_puseyOf R 80 [x0, x1, zkeep x2, some (.inl (a + (1)))] st M := Iff.trans (zU_step dX8_puseyOf_77 (Or.inl rfl)) ⟨fun h => h.2, fun h => ⟨show 3 < 4 by decide, h⟩⟩
theorem dX8_puseyOf_80 : decode cX8_puseyOf 80 = .ok (.goto (-66), 3) := by decide +kernel
theorem rX8_puseyOf_80 {R : zP} {x0 x1 x2 x3 : Option zV} {st : List zV} {M : zM} : uX8_puseyOf R 80 [x0, x1, x2, x3] st M ↔ uX8_puseyOf R 14 [x0, x1, x2, x3] st M := Iff.trans (zU_step dX8_puseyOf_80 (Or.inl rfl)) ⟨fun h => h.2, fun h => ⟨by decide, h⟩⟩
theorem dX8_puseyOf_83 : decode cX8_puseyOf 83 = .ok (.iinc 2 1, 3) := by decide +kernel
theorem rX8_puseyOf_83 {R : zP} {x0 x3 : Option zV} {st : List zV} {M : zM} {a : Int} {y : Int} : uX8_puseyOf R 83 [x0, some (.inl y), some (.inl a), x3] st M ↔ uX8_puseyOf R 86 [x0, some (.inl y), some (.inl (a + (1))), x3] st M := Iff.trans (zU_step dX8_puseyOf_83 (Or.inl rfl)) ⟨fun h => h.2, fun h => ⟨show 2 < 4 by decide, h⟩⟩
theorem rX8_puseyOf_83z {R : zP} {x0 x1 x3 : Option zV} {st : List zV} {M : zM} {a : Int} : uX8_puseyOf R 83 [x0, x1, some (.inl a), x3] st M ↔ uX8_puseyOf R 86 [x0, zkeep x1, some (.inl (a + (1))), x3] st M := Iff.trans (zU_step dX8_puseyOf_83 (Or.inl rfl)) ⟨fun h => h.2, fun h => ⟨show 2 < 4 by decide, h⟩⟩
theorem dX8_puseyOf_86 : decode cX8_puseyOf 86 = .ok (.goto (-80), 3) := by decide +kernel
theorem rX8_puseyOf_86 {R : zP} {x0 x1 x2 x3 : Option zV} {st : List zV} {M : zM} : uX8_puseyOf R 86 [x0, x1, x2, x3] st M ↔ uX8_puseyOf R 6 [x0, x1, x2, x3] st M := Iff.trans (zU_step dX8_puseyOf_86 (Or.inl rfl)) ⟨fun h => h.2, fun h => ⟨by decide, h⟩⟩
theorem dX8_puseyOf_89 : decode cX8_puseyOf 89 = .ok (.iconst (-1), 1) := by decide +kernel
theorem rX8_puseyOf_89 {R : zP} {x0 x1 x2 x3 : Option zV} {st : List zV} {M : zM} : uX8_puseyOf R 89 [x0, x1, x2, x3] st M ↔ uX8_puseyOf R 90 [x0, x1, x2, x3] (.inl (-1) :: st) M := zU_step dX8_puseyOf_89 (Or.inl rfl)
theorem dX8_puseyOf_90 : decode cX8_puseyOf 90 = .ok (.ireturn, 1) := by decide +kernel
theorem rX8_puseyOf_90 {R : zP} {x0 x1 x2 x3 : Option zV} {M : zM} {a : Int} : uX8_puseyOf R 90 [x0, x1, x2, x3] [.inl a] M ↔ R (some (.inl a)) M := Iff.trans (zU_step dX8_puseyOf_90 (Or.inl rfl)) ⟨fun h => h.2.2, fun h => ⟨rfl, Or.inl rfl, h⟩⟩
theorem eX8_puseyOf {R : zP} {M : zM} {a0 : Nat} {p0 : Int} : tX8_puseyOf [.inr (.inr a0), .inl p0] M R ↔ uX8_puseyOf R 0 [some (.inr (.inr a0)), some (.inl p0), none, none] [] M := ⟨fun h => h.2, fun h => ⟨show 2 ≤ 4 by decide, h⟩⟩
def uX8_pusey (R : zP) : zK := zU fX8 vX8_pusey cX8_pusey R
theorem dX8_pusey_0 : decode cX8_pusey 0 = .ok (.iload_n 1, 1) := by decide +kernel
theorem rX8_pusey_0 {R : zP} {x0 : Option zV} {st : List zV} {M : zM} {a : Int} : uX8_pusey R 0 [x0, some (.inl a)] st M ↔ uX8_pusey R 1 [x0, some (.inl a)] (.inl a :: st) M := zU_step dX8_pusey_0 (Or.inl rfl)
theorem dX8_pusey_1 : decode cX8_pusey 1 = .ok (.iconst 0, 1) := by decide +kernel
theorem rX8_pusey_1 {R : zP} {x0 x1 : Option zV} {st : List zV} {M : zM} : uX8_pusey R 1 [x0, x1] st M ↔ uX8_pusey R 2 [x0, x1] (.inl (0) :: st) M := zU_step dX8_pusey_1 (Or.inl rfl)
theorem dX8_pusey_2 : decode cX8_pusey 2 = .ok (.iconst 2, 1) := by decide +kernel
theorem rX8_pusey_2 {R : zP} {x0 x1 : Option zV} {st : List zV} {M : zM} : uX8_pusey R 2 [x0, x1] st M ↔ uX8_pusey R 3 [x0, x1] (.inl (2) :: st) M := zU_step dX8_pusey_2 (Or.inl rfl)
theorem dX8_pusey_3 : decode cX8_pusey 3 = .ok (.invokestatic 112, 3) := by decide +kernel
theorem rX8_pusey_3 {R : zP} {x0 x1 : Option zV} {st : List zV} {M : zM} {a0 a1 a2 : zV} : uX8_pusey R 3 [x0, x1] (a2 :: a1 :: a0 :: st) M ↔ (st.length ≤ 4 ∧ zcv tX8_in [a0, a1, a2] M (fun v M => uX8_pusey R 6 [x0, x1] (v :: st) M)) := Iff.trans (zU_step dX8_pusey_3 (Or.inl rfl)) ⟨fun h => ⟨h.2.1, zcv_of h.2.2⟩, fun h => ⟨rfl, h.1, zcv_to h.2⟩⟩
theorem dX8_pusey_6 : decode cX8_pusey 6 = .ok (.ifCond .eq 11, 3) := by decide +kernel
theorem rX8_pusey_6 {R : zP} {x0 x1 : Option zV} {st : List zV} {M : zM} {a : Int} : uX8_pusey R 6 [x0, x1] (.inl a :: st) M ↔ (zIR a ∧ if a = 0 then uX8_pusey R 17 [x0, x1] st M else uX8_pusey R 9 [x0, x1] st M) := Iff.trans (zU_step dX8_pusey_6 (Or.inl rfl)) ⟨fun h => ⟨h.1.1, (zite (c := a = 0)).mpr h.2⟩, fun h => ⟨⟨h.1, by decide⟩, (zite (c := a = 0)).mp h.2⟩⟩
theorem dX8_pusey_9 : decode cX8_pusey 9 = .ok (.aload_n 0, 1) := by decide +kernel
theorem rX8_pusey_9 {R : zP} {x1 : Option zV} {st : List zV} {M : zM} {a : Nat} : uX8_pusey R 9 [some (.inr (.inr a)), x1] st M ↔ uX8_pusey R 10 [some (.inr (.inr a)), x1] (.inr (.inr a) :: st) M := zU_step dX8_pusey_9 (Or.inl rfl)
theorem dX8_pusey_10 : decode cX8_pusey 10 = .ok (.iload_n 1, 1) := by decide +kernel
theorem rX8_pusey_10 {R : zP} {x0 : Option zV} {st : List zV} {M : zM} {a : Int} : uX8_pusey R 10 [x0, some (.inl a)] st M ↔ uX8_pusey R 11 [x0, some (.inl a)] (.inl a :: st) M := zU_step dX8_pusey_10 (Or.inl rfl)
theorem dX8_pusey_11 : decode cX8_pusey 11 = .ok (.invokevirtual 236, 3) := by decide +kernel
theorem rX8_pusey_11 {R : zP} {x0 x1 : Option zV} {st : List zV} {M : zM} {a0 a1 : zV} : uX8_pusey R 11 [x0, x1] (a1 :: a0 :: st) M ↔ (st.length ≤ 4 ∧ zcv (zv 8 tX8_puseyOf) [a0, a1] M (fun v M => uX8_pusey R 14 [x0, x1] (v :: st) M)) := Iff.trans (zU_step dX8_pusey_11 (Or.inl rfl)) ⟨fun h => ⟨h.2.1, zcv_of h.2.2⟩, fun h => ⟨rfl, h.1, zcv_to h.2⟩⟩
theorem dX8_pusey_14 : decode cX8_pusey 14 = .ok (.goto 5, 3) := by decide +kernel
theorem rX8_pusey_14 {R : zP} {x0 x1 : Option zV} {st : List zV} {M : zM} : uX8_pusey R 14 [x0, x1] st M ↔ uX8_pusey R 19 [x0, x1] st M := Iff.trans (zU_step dX8_pusey_14 (Or.inl rfl)) ⟨fun h => h.2, fun h => ⟨by decide, h⟩⟩
theorem dX8_pusey_17 : decode cX8_pusey 17 = .ok (.bipush (-2), 2) := by decide +kernel
theorem rX8_pusey_17 {R : zP} {x0 x1 : Option zV} {st : List zV} {M : zM} : uX8_pusey R 17 [x0, x1] st M ↔ uX8_pusey R 19 [x0, x1] (.inl (-2) :: st) M := Iff.trans (zU_step dX8_pusey_17 (Or.inl rfl)) ⟨fun h => h.2, fun h => ⟨by decide, h⟩⟩
theorem dX8_pusey_19 : decode cX8_pusey 19 = .ok (.ireturn, 1) := by decide +kernel
theorem rX8_pusey_19 {R : zP} {x0 x1 : Option zV} {M : zM} {a : Int} : uX8_pusey R 19 [x0, x1] [.inl a] M ↔ R (some (.inl a)) M := Iff.trans (zU_step dX8_pusey_19 (Or.inl rfl)) ⟨fun h => h.2.2, fun h => ⟨rfl, Or.inl rfl, h⟩⟩
theorem eX8_pusey {R : zP} {M : zM} {a0 : Nat} {p0 : Int} : tX8_pusey [.inr (.inr a0), .inl p0] M R ↔ uX8_pusey R 0 [some (.inr (.inr a0)), some (.inl p0)] [] M := ⟨fun h => h.2, fun h => ⟨show 2 ≤ 2 by decide, h⟩⟩
def uX8_weanedNow (R : zP) : zK := zU fX8 vX8_weanedNow cX8_weanedNow R
theorem dX8_weanedNow_0 : decode cX8_weanedNow 0 = .ok (.iconst 0, 1) := by decide +kernel
theorem rX8_weanedNow_0 {R : zP} {x0 x1 x2 : Option zV} {st : List zV} {M : zM} : uX8_weanedNow R 0 [x0, x1, x2] st M ↔ uX8_weanedNow R 1 [x0, x1, x2] (.inl (0) :: st) M := zU_step dX8_weanedNow_0 (Or.inl rfl)
theorem dX8_weanedNow_1 : decode cX8_weanedNow 1 = .ok (.istore_n 1, 1) := by decide +kernel
theorem rX8_weanedNow_1 {R : zP} {x1 x2 : Option zV} {st : List zV} {M : zM} {a : Int} {y : Nat} : uX8_weanedNow R 1 [some (.inr (.inr y)), x1, x2] (.inl a :: st) M ↔ uX8_weanedNow R 2 [some (.inr (.inr y)), some (.inl a), x2] st M := Iff.trans (zU_step dX8_weanedNow_1 (Or.inl rfl)) ⟨fun h => h.2, fun h => ⟨show 1 < 3 by decide, h⟩⟩
theorem rX8_weanedNow_1z {R : zP} {x0 x1 x2 : Option zV} {st : List zV} {M : zM} {a : Int} : uX8_weanedNow R 1 [x0, x1, x2] (.inl a :: st) M ↔ uX8_weanedNow R 2 [zkeep x0, some (.inl a), x2] st M := Iff.trans (zU_step dX8_weanedNow_1 (Or.inl rfl)) ⟨fun h => h.2, fun h => ⟨show 1 < 3 by decide, h⟩⟩
theorem dX8_weanedNow_2 : decode cX8_weanedNow 2 = .ok (.iconst 0, 1) := by decide +kernel
theorem rX8_weanedNow_2 {R : zP} {x0 x1 x2 : Option zV} {st : List zV} {M : zM} : uX8_weanedNow R 2 [x0, x1, x2] st M ↔ uX8_weanedNow R 3 [x0, x1, x2] (.inl (0) :: st) M := zU_step dX8_weanedNow_2 (Or.inl rfl)
theorem dX8_weanedNow_3 : decode cX8_weanedNow 3 = .ok (.istore_n 2, 1) := by decide +kernel
theorem rX8_weanedNow_3 {R : zP} {x0 x2 : Option zV} {st : List zV} {M : zM} {a : Int} {y : Int} : uX8_weanedNow R 3 [x0, some (.inl y), x2] (.inl a :: st) M ↔ uX8_weanedNow R 4 [x0, some (.inl y), some (.inl a)] st M := Iff.trans (zU_step dX8_weanedNow_3 (Or.inl rfl)) ⟨fun h => h.2, fun h => ⟨show 2 < 3 by decide, h⟩⟩
theorem rX8_weanedNow_3z {R : zP} {x0 x1 x2 : Option zV} {st : List zV} {M : zM} {a : Int} : uX8_weanedNow R 3 [x0, x1, x2] (.inl a :: st) M ↔ uX8_weanedNow R 4 [x0, zkeep x1, some (.inl a)] st M := Iff.trans (zU_step dX8_weanedNow_3 (Or.inl rfl)) ⟨fun h => h.2, fun h => ⟨show 2 < 3 by decide, h⟩⟩
theorem dX8_weanedNow_4 : decode cX8_weanedNow 4 = .ok (.iload_n 2, 1) := by decide +kernel
theorem rX8_weanedNow_4 {R : zP} {x0 x1 : Option zV} {st : List zV} {M : zM} {a : Int} : uX8_weanedNow R 4 [x0, x1, some (.inl a)] st M ↔ uX8_weanedNow R 5 [x0, x1, some (.inl a)] (.inl a :: st) M := zU_step dX8_weanedNow_4 (Or.inl rfl)
theorem dX8_weanedNow_5 : decode cX8_weanedNow 5 = .ok (.aload_n 0, 1) := by decide +kernel
theorem rX8_weanedNow_5 {R : zP} {x1 x2 : Option zV} {st : List zV} {M : zM} {a : Nat} : uX8_weanedNow R 5 [some (.inr (.inr a)), x1, x2] st M ↔ uX8_weanedNow R 6 [some (.inr (.inr a)), x1, x2] (.inr (.inr a) :: st) M := zU_step dX8_weanedNow_5 (Or.inl rfl)
theorem dX8_weanedNow_6 : decode cX8_weanedNow 6 = .ok (.getfield 127, 3) := by decide +kernel
theorem rX8_weanedNow_6 {R : zP} {x0 x1 x2 : Option zV} {st : List zV} {M : zM} {r : Nat} : uX8_weanedNow R 6 [x0, x1, x2] (.inr (.inr r) :: st) M ↔ zgetx fX8 127 r M (fun v => uX8_weanedNow R 9 [x0, x1, x2] (v :: st) M) := zU_step dX8_weanedNow_6 (Or.inl rfl)
theorem dX8_weanedNow_9 : decode cX8_weanedNow 9 = .ok (.if_icmp .ge 29, 3) := by decide +kernel
theorem rX8_weanedNow_9 {R : zP} {x0 x1 x2 : Option zV} {st : List zV} {M : zM} {a b : Int} : uX8_weanedNow R 9 [x0, x1, x2] (.inl b :: .inl a :: st) M ↔ ((zIR a ∧ zIR b) ∧ if b ≤ a then uX8_weanedNow R 38 [x0, x1, x2] st M else uX8_weanedNow R 12 [x0, x1, x2] st M) := Iff.trans (zU_step dX8_weanedNow_9 (Or.inl rfl)) ⟨fun h => ⟨⟨h.1.1, h.1.2.1⟩, (zite (c := b ≤ a)).mpr h.2⟩, fun h => ⟨⟨h.1.1, h.1.2, by decide⟩, (zite (c := b ≤ a)).mp h.2⟩⟩
theorem dX8_weanedNow_12 : decode cX8_weanedNow 12 = .ok (.iload_n 1, 1) := by decide +kernel
theorem rX8_weanedNow_12 {R : zP} {x0 x2 : Option zV} {st : List zV} {M : zM} {a : Int} : uX8_weanedNow R 12 [x0, some (.inl a), x2] st M ↔ uX8_weanedNow R 13 [x0, some (.inl a), x2] (.inl a :: st) M := zU_step dX8_weanedNow_12 (Or.inl rfl)
theorem dX8_weanedNow_13 : decode cX8_weanedNow 13 = .ok (.aload_n 0, 1) := by decide +kernel
theorem rX8_weanedNow_13 {R : zP} {x1 x2 : Option zV} {st : List zV} {M : zM} {a : Nat} : uX8_weanedNow R 13 [some (.inr (.inr a)), x1, x2] st M ↔ uX8_weanedNow R 14 [some (.inr (.inr a)), x1, x2] (.inr (.inr a) :: st) M := zU_step dX8_weanedNow_13 (Or.inl rfl)
theorem dX8_weanedNow_14 : decode cX8_weanedNow 14 = .ok (.bipush 19, 2) := by decide +kernel
theorem rX8_weanedNow_14 {R : zP} {x0 x1 x2 : Option zV} {st : List zV} {M : zM} : uX8_weanedNow R 14 [x0, x1, x2] st M ↔ uX8_weanedNow R 16 [x0, x1, x2] (.inl (19) :: st) M := Iff.trans (zU_step dX8_weanedNow_14 (Or.inl rfl)) ⟨fun h => h.2, fun h => ⟨by decide, h⟩⟩
theorem dX8_weanedNow_16 : decode cX8_weanedNow 16 = .ok (.iload_n 2, 1) := by decide +kernel
theorem rX8_weanedNow_16 {R : zP} {x0 x1 : Option zV} {st : List zV} {M : zM} {a : Int} : uX8_weanedNow R 16 [x0, x1, some (.inl a)] st M ↔ uX8_weanedNow R 17 [x0, x1, some (.inl a)] (.inl a :: st) M := zU_step dX8_weanedNow_16 (Or.inl rfl)
theorem dX8_weanedNow_17 : decode cX8_weanedNow 17 = .ok (.invokevirtual 215, 3) := by decide +kernel
theorem rX8_weanedNow_17 {R : zP} {x0 x1 x2 : Option zV} {st : List zV} {M : zM} {a0 a1 a2 : zV} : uX8_weanedNow R 17 [x0, x1, x2] (a2 :: a1 :: a0 :: st) M ↔ (st.length ≤ 4 ∧ zcv (zv 8 tX8_knows) [a0, a1, a2] M (fun v M => uX8_weanedNow R 20 [x0, x1, x2] (v :: st) M)) := Iff.trans (zU_step dX8_weanedNow_17 (Or.inl rfl)) ⟨fun h => ⟨h.2.1, zcv_of h.2.2⟩, fun h => ⟨rfl, h.1, zcv_to h.2⟩⟩
theorem dX8_weanedNow_20 : decode cX8_weanedNow 20 = .ok (.ifCond .eq 7, 3) := by decide +kernel
theorem rX8_weanedNow_20 {R : zP} {x0 x1 x2 : Option zV} {st : List zV} {M : zM} {a : Int} : uX8_weanedNow R 20 [x0, x1, x2] (.inl a :: st) M ↔ (zIR a ∧ if a = 0 then uX8_weanedNow R 27 [x0, x1, x2] st M else uX8_weanedNow R 23 [x0, x1, x2] st M) := Iff.trans (zU_step dX8_weanedNow_20 (Or.inl rfl)) ⟨fun h => ⟨h.1.1, (zite (c := a = 0)).mpr h.2⟩, fun h => ⟨⟨h.1, by decide⟩, (zite (c := a = 0)).mp h.2⟩⟩
theorem dX8_weanedNow_23 : decode cX8_weanedNow 23 = .ok (.iconst 0, 1) := by decide +kernel
theorem rX8_weanedNow_23 {R : zP} {x0 x1 x2 : Option zV} {st : List zV} {M : zM} : uX8_weanedNow R 23 [x0, x1, x2] st M ↔ uX8_weanedNow R 24 [x0, x1, x2] (.inl (0) :: st) M := zU_step dX8_weanedNow_23 (Or.inl rfl)
theorem dX8_weanedNow_24 : decode cX8_weanedNow 24 = .ok (.goto 6, 3) := by decide +kernel
theorem rX8_weanedNow_24 {R : zP} {x0 x1 x2 : Option zV} {st : List zV} {M : zM} : uX8_weanedNow R 24 [x0, x1, x2] st M ↔ uX8_weanedNow R 30 [x0, x1, x2] st M := Iff.trans (zU_step dX8_weanedNow_24 (Or.inl rfl)) ⟨fun h => h.2, fun h => ⟨by decide, h⟩⟩
theorem dX8_weanedNow_27 : decode cX8_weanedNow 27 = .ok (.iconst 1, 1) := by decide +kernel
theorem rX8_weanedNow_27 {R : zP} {x0 x1 x2 : Option zV} {st : List zV} {M : zM} : uX8_weanedNow R 27 [x0, x1, x2] st M ↔ uX8_weanedNow R 28 [x0, x1, x2] (.inl (1) :: st) M := zU_step dX8_weanedNow_27 (Or.inl rfl)
theorem dX8_weanedNow_28 : decode cX8_weanedNow 28 = .ok (.iload_n 2, 1) := by decide +kernel
theorem rX8_weanedNow_28 {R : zP} {x0 x1 : Option zV} {st : List zV} {M : zM} {a : Int} : uX8_weanedNow R 28 [x0, x1, some (.inl a)] st M ↔ uX8_weanedNow R 29 [x0, x1, some (.inl a)] (.inl a :: st) M := zU_step dX8_weanedNow_28 (Or.inl rfl)
theorem dX8_weanedNow_29 : decode cX8_weanedNow 29 = .ok (.ishl, 1) := by decide +kernel
theorem rX8_weanedNow_29 {R : zP} {x0 x1 x2 : Option zV} {st : List zV} {M : zM} {a b : Int} : uX8_weanedNow R 29 [x0, x1, x2] (.inl b :: .inl a :: st) M ↔ uX8_weanedNow R 30 [x0, x1, x2] (.inl (zshl a b) :: st) M := zU_step dX8_weanedNow_29 (Or.inl rfl)
theorem dX8_weanedNow_30 : decode cX8_weanedNow 30 = .ok (.ior, 1) := by decide +kernel
theorem rX8_weanedNow_30 {R : zP} {x0 x1 x2 : Option zV} {st : List zV} {M : zM} {a b : Int} : uX8_weanedNow R 30 [x0, x1, x2] (.inl b :: .inl a :: st) M ↔ uX8_weanedNow R 31 [x0, x1, x2] (.inl (zor a b) :: st) M := zU_step dX8_weanedNow_30 (Or.inl rfl)
theorem dX8_weanedNow_31 : decode cX8_weanedNow 31 = .ok (.istore_n 1, 1) := by decide +kernel
theorem rX8_weanedNow_31 {R : zP} {x1 x2 : Option zV} {st : List zV} {M : zM} {a : Int} {y : Nat} : uX8_weanedNow R 31 [some (.inr (.inr y)), x1, x2] (.inl a :: st) M ↔ uX8_weanedNow R 32 [some (.inr (.inr y)), some (.inl a), x2] st M := Iff.trans (zU_step dX8_weanedNow_31 (Or.inl rfl)) ⟨fun h => h.2, fun h => ⟨show 1 < 3 by decide, h⟩⟩
theorem rX8_weanedNow_31z {R : zP} {x0 x1 x2 : Option zV} {st : List zV} {M : zM} {a : Int} : uX8_weanedNow R 31 [x0, x1, x2] (.inl a :: st) M ↔ uX8_weanedNow R 32 [zkeep x0, some (.inl a), x2] st M := Iff.trans (zU_step dX8_weanedNow_31 (Or.inl rfl)) ⟨fun h => h.2, fun h => ⟨show 1 < 3 by decide, h⟩⟩
theorem dX8_weanedNow_32 : decode cX8_weanedNow 32 = .ok (.iinc 2 1, 3) := by decide +kernel
theorem rX8_weanedNow_32 {R : zP} {x0 : Option zV} {st : List zV} {M : zM} {a : Int} {y : Int} : uX8_weanedNow R 32 [x0, some (.inl y), some (.inl a)] st M ↔ uX8_weanedNow R 35 [x0, some (.inl y), some (.inl (a + (1)))] st M := Iff.trans (zU_step dX8_weanedNow_32 (Or.inl rfl)) ⟨fun h => h.2, fun h => ⟨show 2 < 3 by decide, h⟩⟩
theorem rX8_weanedNow_32z {R : zP} {x0 x1 : Option zV} {st : List zV} {M : zM} {a : Int} : uX8_weanedNow R 32 [x0, x1, some (.inl a)] st M ↔ uX8_weanedNow R 35 [x0, zkeep x1, some (.inl (a + (1)))] st M := Iff.trans (zU_step dX8_weanedNow_32 (Or.inl rfl)) ⟨fun h => h.2, fun h => ⟨show 2 < 3 by decide, h⟩⟩
theorem dX8_weanedNow_35 : decode cX8_weanedNow 35 = .ok (.goto (-31), 3) := by decide +kernel
theorem rX8_weanedNow_35 {R : zP} {x0 x1 x2 : Option zV} {st : List zV} {M : zM} : uX8_weanedNow R 35 [x0, x1, x2] st M ↔ uX8_weanedNow R 4 [x0, x1, x2] st M := Iff.trans (zU_step dX8_weanedNow_35 (Or.inl rfl)) ⟨fun h => h.2, fun h => ⟨by decide, h⟩⟩
theorem dX8_weanedNow_38 : decode cX8_weanedNow 38 = .ok (.iload_n 1, 1) := by decide +kernel
theorem rX8_weanedNow_38 {R : zP} {x0 x2 : Option zV} {st : List zV} {M : zM} {a : Int} : uX8_weanedNow R 38 [x0, some (.inl a), x2] st M ↔ uX8_weanedNow R 39 [x0, some (.inl a), x2] (.inl a :: st) M := zU_step dX8_weanedNow_38 (Or.inl rfl)
theorem dX8_weanedNow_39 : decode cX8_weanedNow 39 = .ok (.ireturn, 1) := by decide +kernel
theorem rX8_weanedNow_39 {R : zP} {x0 x1 x2 : Option zV} {M : zM} {a : Int} : uX8_weanedNow R 39 [x0, x1, x2] [.inl a] M ↔ R (some (.inl a)) M := Iff.trans (zU_step dX8_weanedNow_39 (Or.inl rfl)) ⟨fun h => h.2.2, fun h => ⟨rfl, Or.inl rfl, h⟩⟩
theorem eX8_weanedNow {R : zP} {M : zM} {a0 : Nat} : tX8_weanedNow [.inr (.inr a0)] M R ↔ uX8_weanedNow R 0 [some (.inr (.inr a0)), none, none] [] M := ⟨fun h => h.2, fun h => ⟨show 1 ≤ 3 by decide, h⟩⟩
def uX8_weanedOf (R : zP) : zK := zU fX8 vX8_weanedOf cX8_weanedOf R
theorem dX8_weanedOf_0 : decode cX8_weanedOf 0 = .ok (.aload_n 0, 1) := by decide +kernel
theorem rX8_weanedOf_0 {R : zP} {st : List zV} {M : zM} {a : Nat} : uX8_weanedOf R 0 [some (.inr (.inr a))] st M ↔ uX8_weanedOf R 1 [some (.inr (.inr a))] (.inr (.inr a) :: st) M := zU_step dX8_weanedOf_0 (Or.inl rfl)
theorem dX8_weanedOf_1 : decode cX8_weanedOf 1 = .ok (.invokevirtual 205, 3) := by decide +kernel
theorem rX8_weanedOf_1 {R : zP} {x0 : Option zV} {st : List zV} {M : zM} {a0 : zV} : uX8_weanedOf R 1 [x0] (a0 :: st) M ↔ (st.length ≤ 4 ∧ zcn (zv 8 tX8_runsTold) [a0] M (fun M => uX8_weanedOf R 4 [x0] st M)) := Iff.trans (zU_step dX8_weanedOf_1 (Or.inl rfl)) ⟨fun h => ⟨h.2.1, zcn_of h.2.2⟩, fun h => ⟨rfl, h.1, zcn_to h.2⟩⟩
theorem dX8_weanedOf_4 : decode cX8_weanedOf 4 = .ok (.aload_n 0, 1) := by decide +kernel
theorem rX8_weanedOf_4 {R : zP} {st : List zV} {M : zM} {a : Nat} : uX8_weanedOf R 4 [some (.inr (.inr a))] st M ↔ uX8_weanedOf R 5 [some (.inr (.inr a))] (.inr (.inr a) :: st) M := zU_step dX8_weanedOf_4 (Or.inl rfl)
theorem dX8_weanedOf_5 : decode cX8_weanedOf 5 = .ok (.invokevirtual 239, 3) := by decide +kernel
theorem rX8_weanedOf_5 {R : zP} {x0 : Option zV} {st : List zV} {M : zM} {a0 : zV} : uX8_weanedOf R 5 [x0] (a0 :: st) M ↔ (st.length ≤ 4 ∧ zcv (zv 8 tX8_weanedNow) [a0] M (fun v M => uX8_weanedOf R 8 [x0] (v :: st) M)) := Iff.trans (zU_step dX8_weanedOf_5 (Or.inl rfl)) ⟨fun h => ⟨h.2.1, zcv_of h.2.2⟩, fun h => ⟨rfl, h.1, zcv_to h.2⟩⟩
theorem dX8_weanedOf_8 : decode cX8_weanedOf 8 = .ok (.ireturn, 1) := by decide +kernel
theorem rX8_weanedOf_8 {R : zP} {x0 : Option zV} {M : zM} {a : Int} : uX8_weanedOf R 8 [x0] [.inl a] M ↔ R (some (.inl a)) M := Iff.trans (zU_step dX8_weanedOf_8 (Or.inl rfl)) ⟨fun h => h.2.2, fun h => ⟨rfl, Or.inl rfl, h⟩⟩
theorem eX8_weanedOf {R : zP} {M : zM} {a0 : Nat} : tX8_weanedOf [.inr (.inr a0)] M R ↔ uX8_weanedOf R 0 [some (.inr (.inr a0))] [] M := ⟨fun h => h.2, fun h => ⟨show 1 ≤ 1 by decide, h⟩⟩
def uX8_weaned (R : zP) : zK := zU fX8 vX8_weaned cX8_weaned R
theorem dX8_weaned_0 : decode cX8_weaned 0 = .ok (.aload_n 0, 1) := by decide +kernel
theorem rX8_weaned_0 {R : zP} {st : List zV} {M : zM} {a : Nat} : uX8_weaned R 0 [some (.inr (.inr a))] st M ↔ uX8_weaned R 1 [some (.inr (.inr a))] (.inr (.inr a) :: st) M := zU_step dX8_weaned_0 (Or.inl rfl)
theorem dX8_weaned_1 : decode cX8_weaned 1 = .ok (.invokevirtual 243, 3) := by decide +kernel
theorem rX8_weaned_1 {R : zP} {x0 : Option zV} {st : List zV} {M : zM} {a0 : zV} : uX8_weaned R 1 [x0] (a0 :: st) M ↔ (st.length ≤ 4 ∧ zcv (zv 8 tX8_weanedOf) [a0] M (fun v M => uX8_weaned R 4 [x0] (v :: st) M)) := Iff.trans (zU_step dX8_weaned_1 (Or.inl rfl)) ⟨fun h => ⟨h.2.1, zcv_of h.2.2⟩, fun h => ⟨rfl, h.1, zcv_to h.2⟩⟩
theorem dX8_weaned_4 : decode cX8_weaned 4 = .ok (.ireturn, 1) := by decide +kernel
theorem rX8_weaned_4 {R : zP} {x0 : Option zV} {M : zM} {a : Int} : uX8_weaned R 4 [x0] [.inl a] M ↔ R (some (.inl a)) M := Iff.trans (zU_step dX8_weaned_4 (Or.inl rfl)) ⟨fun h => h.2.2, fun h => ⟨rfl, Or.inl rfl, h⟩⟩
theorem eX8_weaned {R : zP} {M : zM} {a0 : Nat} : tX8_weaned [.inr (.inr a0)] M R ↔ uX8_weaned R 0 [some (.inr (.inr a0))] [] M := ⟨fun h => h.2, fun h => ⟨show 1 ≤ 1 by decide, h⟩⟩
def uX8_noOf (R : zP) : zK := zU fX8 vX8_noOf cX8_noOf R
theorem dX8_noOf_0 : decode cX8_noOf 0 = .ok (.aload_n 0, 1) := by decide +kernel
theorem rX8_noOf_0 {R : zP} {x1 x2 x3 : Option zV} {st : List zV} {M : zM} {a : Nat} : uX8_noOf R 0 [some (.inr (.inr a)), x1, x2, x3] st M ↔ uX8_noOf R 1 [some (.inr (.inr a)), x1, x2, x3] (.inr (.inr a) :: st) M := zU_step dX8_noOf_0 (Or.inl rfl)
theorem dX8_noOf_1 : decode cX8_noOf 1 = .ok (.invokevirtual 205, 3) := by decide +kernel
theorem rX8_noOf_1 {R : zP} {x0 x1 x2 x3 : Option zV} {st : List zV} {M : zM} {a0 : zV} : uX8_noOf R 1 [x0, x1, x2, x3] (a0 :: st) M ↔ (st.length ≤ 4 ∧ zcn (zv 8 tX8_runsTold) [a0] M (fun M => uX8_noOf R 4 [x0, x1, x2, x3] st M)) := Iff.trans (zU_step dX8_noOf_1 (Or.inl rfl)) ⟨fun h => ⟨h.2.1, zcn_of h.2.2⟩, fun h => ⟨rfl, h.1, zcn_to h.2⟩⟩
theorem dX8_noOf_4 : decode cX8_noOf 4 = .ok (.iconst (-1), 1) := by decide +kernel
theorem rX8_noOf_4 {R : zP} {x0 x1 x2 x3 : Option zV} {st : List zV} {M : zM} : uX8_noOf R 4 [x0, x1, x2, x3] st M ↔ uX8_noOf R 5 [x0, x1, x2, x3] (.inl (-1) :: st) M := zU_step dX8_noOf_4 (Or.inl rfl)
theorem dX8_noOf_5 : decode cX8_noOf 5 = .ok (.istore_n 2, 1) := by decide +kernel
theorem rX8_noOf_5 {R : zP} {x0 x2 x3 : Option zV} {st : List zV} {M : zM} {a : Int} {y : Int} : uX8_noOf R 5 [x0, some (.inl y), x2, x3] (.inl a :: st) M ↔ uX8_noOf R 6 [x0, some (.inl y), some (.inl a), x3] st M := Iff.trans (zU_step dX8_noOf_5 (Or.inl rfl)) ⟨fun h => h.2, fun h => ⟨show 2 < 4 by decide, h⟩⟩
theorem rX8_noOf_5z {R : zP} {x0 x1 x2 x3 : Option zV} {st : List zV} {M : zM} {a : Int} : uX8_noOf R 5 [x0, x1, x2, x3] (.inl a :: st) M ↔ uX8_noOf R 6 [x0, zkeep x1, some (.inl a), x3] st M := Iff.trans (zU_step dX8_noOf_5 (Or.inl rfl)) ⟨fun h => h.2, fun h => ⟨show 2 < 4 by decide, h⟩⟩
theorem dX8_noOf_6 : decode cX8_noOf 6 = .ok (.aload_n 0, 1) := by decide +kernel
theorem rX8_noOf_6 {R : zP} {x1 x2 x3 : Option zV} {st : List zV} {M : zM} {a : Nat} : uX8_noOf R 6 [some (.inr (.inr a)), x1, x2, x3] st M ↔ uX8_noOf R 7 [some (.inr (.inr a)), x1, x2, x3] (.inr (.inr a) :: st) M := zU_step dX8_noOf_6 (Or.inl rfl)
theorem dX8_noOf_7 : decode cX8_noOf 7 = .ok (.getfield 127, 3) := by decide +kernel
theorem rX8_noOf_7 {R : zP} {x0 x1 x2 x3 : Option zV} {st : List zV} {M : zM} {r : Nat} : uX8_noOf R 7 [x0, x1, x2, x3] (.inr (.inr r) :: st) M ↔ zgetx fX8 127 r M (fun v => uX8_noOf R 10 [x0, x1, x2, x3] (v :: st) M) := zU_step dX8_noOf_7 (Or.inl rfl)
theorem dX8_noOf_10 : decode cX8_noOf 10 = .ok (.iconst 1, 1) := by decide +kernel
theorem rX8_noOf_10 {R : zP} {x0 x1 x2 x3 : Option zV} {st : List zV} {M : zM} : uX8_noOf R 10 [x0, x1, x2, x3] st M ↔ uX8_noOf R 11 [x0, x1, x2, x3] (.inl (1) :: st) M := zU_step dX8_noOf_10 (Or.inl rfl)
theorem dX8_noOf_11 : decode cX8_noOf 11 = .ok (.isub, 1) := by decide +kernel
theorem rX8_noOf_11 {R : zP} {x0 x1 x2 x3 : Option zV} {st : List zV} {M : zM} {a b : Int} : uX8_noOf R 11 [x0, x1, x2, x3] (.inl b :: .inl a :: st) M ↔ uX8_noOf R 12 [x0, x1, x2, x3] (.inl (a - b) :: st) M := zU_step dX8_noOf_11 (Or.inl rfl)
theorem dX8_noOf_12 : decode cX8_noOf 12 = .ok (.istore_n 3, 1) := by decide +kernel
theorem rX8_noOf_12 {R : zP} {x0 x1 x3 : Option zV} {st : List zV} {M : zM} {a : Int} {y : Int} : uX8_noOf R 12 [x0, x1, some (.inl y), x3] (.inl a :: st) M ↔ uX8_noOf R 13 [x0, x1, some (.inl y), some (.inl a)] st M := Iff.trans (zU_step dX8_noOf_12 (Or.inl rfl)) ⟨fun h => h.2, fun h => ⟨show 3 < 4 by decide, h⟩⟩
theorem rX8_noOf_12z {R : zP} {x0 x1 x2 x3 : Option zV} {st : List zV} {M : zM} {a : Int} : uX8_noOf R 12 [x0, x1, x2, x3] (.inl a :: st) M ↔ uX8_noOf R 13 [x0, x1, zkeep x2, some (.inl a)] st M := Iff.trans (zU_step dX8_noOf_12 (Or.inl rfl)) ⟨fun h => h.2, fun h => ⟨show 3 < 4 by decide, h⟩⟩
theorem dX8_noOf_13 : decode cX8_noOf 13 = .ok (.iload_n 3, 1) := by decide +kernel
theorem rX8_noOf_13 {R : zP} {x0 x1 x2 : Option zV} {st : List zV} {M : zM} {a : Int} : uX8_noOf R 13 [x0, x1, x2, some (.inl a)] st M ↔ uX8_noOf R 14 [x0, x1, x2, some (.inl a)] (.inl a :: st) M := zU_step dX8_noOf_13 (Or.inl rfl)
theorem dX8_noOf_14 : decode cX8_noOf 14 = .ok (.ifCond .lt 26, 3) := by decide +kernel
theorem rX8_noOf_14 {R : zP} {x0 x1 x2 x3 : Option zV} {st : List zV} {M : zM} {a : Int} : uX8_noOf R 14 [x0, x1, x2, x3] (.inl a :: st) M ↔ (zIR a ∧ if a < 0 then uX8_noOf R 40 [x0, x1, x2, x3] st M else uX8_noOf R 17 [x0, x1, x2, x3] st M) := Iff.trans (zU_step dX8_noOf_14 (Or.inl rfl)) ⟨fun h => ⟨h.1.1, (zite (c := a < 0)).mpr h.2⟩, fun h => ⟨⟨h.1, by decide⟩, (zite (c := a < 0)).mp h.2⟩⟩
theorem dX8_noOf_17 : decode cX8_noOf 17 = .ok (.aload_n 0, 1) := by decide +kernel
theorem rX8_noOf_17 {R : zP} {x1 x2 x3 : Option zV} {st : List zV} {M : zM} {a : Nat} : uX8_noOf R 17 [some (.inr (.inr a)), x1, x2, x3] st M ↔ uX8_noOf R 18 [some (.inr (.inr a)), x1, x2, x3] (.inr (.inr a) :: st) M := zU_step dX8_noOf_17 (Or.inl rfl)
theorem dX8_noOf_18 : decode cX8_noOf 18 = .ok (.bipush 19, 2) := by decide +kernel
theorem rX8_noOf_18 {R : zP} {x0 x1 x2 x3 : Option zV} {st : List zV} {M : zM} : uX8_noOf R 18 [x0, x1, x2, x3] st M ↔ uX8_noOf R 20 [x0, x1, x2, x3] (.inl (19) :: st) M := Iff.trans (zU_step dX8_noOf_18 (Or.inl rfl)) ⟨fun h => h.2, fun h => ⟨by decide, h⟩⟩
theorem dX8_noOf_20 : decode cX8_noOf 20 = .ok (.iload_n 3, 1) := by decide +kernel
theorem rX8_noOf_20 {R : zP} {x0 x1 x2 : Option zV} {st : List zV} {M : zM} {a : Int} : uX8_noOf R 20 [x0, x1, x2, some (.inl a)] st M ↔ uX8_noOf R 21 [x0, x1, x2, some (.inl a)] (.inl a :: st) M := zU_step dX8_noOf_20 (Or.inl rfl)
theorem dX8_noOf_21 : decode cX8_noOf 21 = .ok (.iload_n 1, 1) := by decide +kernel
theorem rX8_noOf_21 {R : zP} {x0 x2 x3 : Option zV} {st : List zV} {M : zM} {a : Int} : uX8_noOf R 21 [x0, some (.inl a), x2, x3] st M ↔ uX8_noOf R 22 [x0, some (.inl a), x2, x3] (.inl a :: st) M := zU_step dX8_noOf_21 (Or.inl rfl)
theorem dX8_noOf_22 : decode cX8_noOf 22 = .ok (.invokevirtual 221, 3) := by decide +kernel
theorem rX8_noOf_22 {R : zP} {x0 x1 x2 x3 : Option zV} {st : List zV} {M : zM} {a0 a1 a2 a3 : zV} : uX8_noOf R 22 [x0, x1, x2, x3] (a3 :: a2 :: a1 :: a0 :: st) M ↔ (st.length ≤ 4 ∧ zcv (zv 8 tX8_isAye) [a0, a1, a2, a3] M (fun v M => uX8_noOf R 25 [x0, x1, x2, x3] (v :: st) M)) := Iff.trans (zU_step dX8_noOf_22 (Or.inl rfl)) ⟨fun h => ⟨h.2.1, zcv_of h.2.2⟩, fun h => ⟨rfl, h.1, zcv_to h.2⟩⟩
theorem dX8_noOf_25 : decode cX8_noOf 25 = .ok (.ifCond .eq 7, 3) := by decide +kernel
theorem rX8_noOf_25 {R : zP} {x0 x1 x2 x3 : Option zV} {st : List zV} {M : zM} {a : Int} : uX8_noOf R 25 [x0, x1, x2, x3] (.inl a :: st) M ↔ (zIR a ∧ if a = 0 then uX8_noOf R 32 [x0, x1, x2, x3] st M else uX8_noOf R 28 [x0, x1, x2, x3] st M) := Iff.trans (zU_step dX8_noOf_25 (Or.inl rfl)) ⟨fun h => ⟨h.1.1, (zite (c := a = 0)).mpr h.2⟩, fun h => ⟨⟨h.1, by decide⟩, (zite (c := a = 0)).mp h.2⟩⟩
theorem dX8_noOf_28 : decode cX8_noOf 28 = .ok (.iload_n 2, 1) := by decide +kernel
theorem rX8_noOf_28 {R : zP} {x0 x1 x3 : Option zV} {st : List zV} {M : zM} {a : Int} : uX8_noOf R 28 [x0, x1, some (.inl a), x3] st M ↔ uX8_noOf R 29 [x0, x1, some (.inl a), x3] (.inl a :: st) M := zU_step dX8_noOf_28 (Or.inl rfl)
theorem dX8_noOf_29 : decode cX8_noOf 29 = .ok (.goto 4, 3) := by decide +kernel
theorem rX8_noOf_29 {R : zP} {x0 x1 x2 x3 : Option zV} {st : List zV} {M : zM} : uX8_noOf R 29 [x0, x1, x2, x3] st M ↔ uX8_noOf R 33 [x0, x1, x2, x3] st M := Iff.trans (zU_step dX8_noOf_29 (Or.inl rfl)) ⟨fun h => h.2, fun h => ⟨by decide, h⟩⟩
theorem dX8_noOf_32 : decode cX8_noOf 32 = .ok (.iload_n 3, 1) := by decide +kernel
theorem rX8_noOf_32 {R : zP} {x0 x1 x2 : Option zV} {st : List zV} {M : zM} {a : Int} : uX8_noOf R 32 [x0, x1, x2, some (.inl a)] st M ↔ uX8_noOf R 33 [x0, x1, x2, some (.inl a)] (.inl a :: st) M := zU_step dX8_noOf_32 (Or.inl rfl)
theorem dX8_noOf_33 : decode cX8_noOf 33 = .ok (.istore_n 2, 1) := by decide +kernel
theorem rX8_noOf_33 {R : zP} {x0 x2 x3 : Option zV} {st : List zV} {M : zM} {a : Int} {y : Int} : uX8_noOf R 33 [x0, some (.inl y), x2, x3] (.inl a :: st) M ↔ uX8_noOf R 34 [x0, some (.inl y), some (.inl a), x3] st M := Iff.trans (zU_step dX8_noOf_33 (Or.inl rfl)) ⟨fun h => h.2, fun h => ⟨show 2 < 4 by decide, h⟩⟩
theorem rX8_noOf_33z {R : zP} {x0 x1 x2 x3 : Option zV} {st : List zV} {M : zM} {a : Int} : uX8_noOf R 33 [x0, x1, x2, x3] (.inl a :: st) M ↔ uX8_noOf R 34 [x0, zkeep x1, some (.inl a), x3] st M := Iff.trans (zU_step dX8_noOf_33 (Or.inl rfl)) ⟨fun h => h.2, fun h => ⟨show 2 < 4 by decide, h⟩⟩
theorem dX8_noOf_34 : decode cX8_noOf 34 = .ok (.iinc 3 (-1), 3) := by decide +kernel
theorem rX8_noOf_34 {R : zP} {x0 x1 : Option zV} {st : List zV} {M : zM} {a : Int} {y : Int} : uX8_noOf R 34 [x0, x1, some (.inl y), some (.inl a)] st M ↔ uX8_noOf R 37 [x0, x1, some (.inl y), some (.inl (a + (-1)))] st M := Iff.trans (zU_step dX8_noOf_34 (Or.inl rfl)) ⟨fun h => h.2, fun h => ⟨show 3 < 4 by decide, h⟩⟩
theorem rX8_noOf_34z {R : zP} {x0 x1 x2 : Option zV} {st : List zV} {M : zM} {a : Int} : uX8_noOf R 34 [x0, x1, x2, some (.inl a)] st M ↔ uX8_noOf R 37 [x0, x1, zkeep x2, some (.inl (a + (-1)))] st M := Iff.trans (zU_step dX8_noOf_34 (Or.inl rfl)) ⟨fun h => h.2, fun h => ⟨show 3 < 4 by decide, h⟩⟩
theorem dX8_noOf_37 : decode cX8_noOf 37 = .ok (.goto (-24), 3) := by decide +kernel
theorem rX8_noOf_37 {R : zP} {x0 x1 x2 x3 : Option zV} {st : List zV} {M : zM} : uX8_noOf R 37 [x0, x1, x2, x3] st M ↔ uX8_noOf R 13 [x0, x1, x2, x3] st M := Iff.trans (zU_step dX8_noOf_37 (Or.inl rfl)) ⟨fun h => h.2, fun h => ⟨by decide, h⟩⟩
theorem dX8_noOf_40 : decode cX8_noOf 40 = .ok (.aload_n 0, 1) := by decide +kernel
theorem rX8_noOf_40 {R : zP} {x1 x2 x3 : Option zV} {st : List zV} {M : zM} {a : Nat} : uX8_noOf R 40 [some (.inr (.inr a)), x1, x2, x3] st M ↔ uX8_noOf R 41 [some (.inr (.inr a)), x1, x2, x3] (.inr (.inr a) :: st) M := zU_step dX8_noOf_40 (Or.inl rfl)
theorem dX8_noOf_41 : decode cX8_noOf 41 = .ok (.aload_n 0, 1) := by decide +kernel
theorem rX8_noOf_41 {R : zP} {x1 x2 x3 : Option zV} {st : List zV} {M : zM} {a : Nat} : uX8_noOf R 41 [some (.inr (.inr a)), x1, x2, x3] st M ↔ uX8_noOf R 42 [some (.inr (.inr a)), x1, x2, x3] (.inr (.inr a) :: st) M := zU_step dX8_noOf_41 (Or.inl rfl)
theorem dX8_noOf_42 : decode cX8_noOf 42 = .ok (.bipush 19, 2) := by decide +kernel
theorem rX8_noOf_42 {R : zP} {x0 x1 x2 x3 : Option zV} {st : List zV} {M : zM} : uX8_noOf R 42 [x0, x1, x2, x3] st M ↔ uX8_noOf R 44 [x0, x1, x2, x3] (.inl (19) :: st) M := Iff.trans (zU_step dX8_noOf_42 (Or.inl rfl)) ⟨fun h => h.2, fun h => ⟨by decide, h⟩⟩
theorem dX8_noOf_44 : decode cX8_noOf 44 = .ok (.iload_n 1, 1) := by decide +kernel
theorem rX8_noOf_44 {R : zP} {x0 x2 x3 : Option zV} {st : List zV} {M : zM} {a : Int} : uX8_noOf R 44 [x0, some (.inl a), x2, x3] st M ↔ uX8_noOf R 45 [x0, some (.inl a), x2, x3] (.inl a :: st) M := zU_step dX8_noOf_44 (Or.inl rfl)
theorem dX8_noOf_45 : decode cX8_noOf 45 = .ok (.invokevirtual 224, 3) := by decide +kernel
theorem rX8_noOf_45 {R : zP} {x0 x1 x2 x3 : Option zV} {st : List zV} {M : zM} {a0 a1 a2 : zV} : uX8_noOf R 45 [x0, x1, x2, x3] (a2 :: a1 :: a0 :: st) M ↔ (st.length ≤ 4 ∧ zcv (zv 8 tX8_ayesNow) [a0, a1, a2] M (fun v M => uX8_noOf R 48 [x0, x1, x2, x3] (v :: st) M)) := Iff.trans (zU_step dX8_noOf_45 (Or.inl rfl)) ⟨fun h => ⟨h.2.1, zcv_of h.2.2⟩, fun h => ⟨rfl, h.1, zcv_to h.2⟩⟩
theorem dX8_noOf_48 : decode cX8_noOf 48 = .ok (.invokevirtual 227, 3) := by decide +kernel
theorem rX8_noOf_48 {R : zP} {x0 x1 x2 x3 : Option zV} {st : List zV} {M : zM} {a0 a1 : zV} : uX8_noOf R 48 [x0, x1, x2, x3] (a1 :: a0 :: st) M ↔ (st.length ≤ 4 ∧ zcv (zv 8 tX8_isCarried) [a0, a1] M (fun v M => uX8_noOf R 51 [x0, x1, x2, x3] (v :: st) M)) := Iff.trans (zU_step dX8_noOf_48 (Or.inl rfl)) ⟨fun h => ⟨h.2.1, zcv_of h.2.2⟩, fun h => ⟨rfl, h.1, zcv_to h.2⟩⟩
theorem dX8_noOf_51 : decode cX8_noOf 51 = .ok (.ifCond .eq 7, 3) := by decide +kernel
theorem rX8_noOf_51 {R : zP} {x0 x1 x2 x3 : Option zV} {st : List zV} {M : zM} {a : Int} : uX8_noOf R 51 [x0, x1, x2, x3] (.inl a :: st) M ↔ (zIR a ∧ if a = 0 then uX8_noOf R 58 [x0, x1, x2, x3] st M else uX8_noOf R 54 [x0, x1, x2, x3] st M) := Iff.trans (zU_step dX8_noOf_51 (Or.inl rfl)) ⟨fun h => ⟨h.1.1, (zite (c := a = 0)).mpr h.2⟩, fun h => ⟨⟨h.1, by decide⟩, (zite (c := a = 0)).mp h.2⟩⟩
theorem dX8_noOf_54 : decode cX8_noOf 54 = .ok (.iload_n 2, 1) := by decide +kernel
theorem rX8_noOf_54 {R : zP} {x0 x1 x3 : Option zV} {st : List zV} {M : zM} {a : Int} : uX8_noOf R 54 [x0, x1, some (.inl a), x3] st M ↔ uX8_noOf R 55 [x0, x1, some (.inl a), x3] (.inl a :: st) M := zU_step dX8_noOf_54 (Or.inl rfl)
theorem dX8_noOf_55 : decode cX8_noOf 55 = .ok (.goto 4, 3) := by decide +kernel
theorem rX8_noOf_55 {R : zP} {x0 x1 x2 x3 : Option zV} {st : List zV} {M : zM} : uX8_noOf R 55 [x0, x1, x2, x3] st M ↔ uX8_noOf R 59 [x0, x1, x2, x3] st M := Iff.trans (zU_step dX8_noOf_55 (Or.inl rfl)) ⟨fun h => h.2, fun h => ⟨by decide, h⟩⟩
theorem dX8_noOf_58 : decode cX8_noOf 58 = .ok (.iconst (-1), 1) := by decide +kernel
theorem rX8_noOf_58 {R : zP} {x0 x1 x2 x3 : Option zV} {st : List zV} {M : zM} : uX8_noOf R 58 [x0, x1, x2, x3] st M ↔ uX8_noOf R 59 [x0, x1, x2, x3] (.inl (-1) :: st) M := zU_step dX8_noOf_58 (Or.inl rfl)
theorem dX8_noOf_59 : decode cX8_noOf 59 = .ok (.ireturn, 1) := by decide +kernel
theorem rX8_noOf_59 {R : zP} {x0 x1 x2 x3 : Option zV} {M : zM} {a : Int} : uX8_noOf R 59 [x0, x1, x2, x3] [.inl a] M ↔ R (some (.inl a)) M := Iff.trans (zU_step dX8_noOf_59 (Or.inl rfl)) ⟨fun h => h.2.2, fun h => ⟨rfl, Or.inl rfl, h⟩⟩
theorem eX8_noOf {R : zP} {M : zM} {a0 : Nat} {p0 : Int} : tX8_noOf [.inr (.inr a0), .inl p0] M R ↔ uX8_noOf R 0 [some (.inr (.inr a0)), some (.inl p0), none, none] [] M := ⟨fun h => h.2, fun h => ⟨show 2 ≤ 4 by decide, h⟩⟩
def uX8_says (R : zP) : zK := zU fX8 vX8_says cX8_says R
theorem dX8_says_0 : decode cX8_says 0 = .ok (.iload_n 1, 1) := by decide +kernel
theorem rX8_says_0 {R : zP} {x0 : Option zV} {st : List zV} {M : zM} {a : Int} : uX8_says R 0 [x0, some (.inl a)] st M ↔ uX8_says R 1 [x0, some (.inl a)] (.inl a :: st) M := zU_step dX8_says_0 (Or.inl rfl)
theorem dX8_says_1 : decode cX8_says 1 = .ok (.invokestatic 208, 3) := by decide +kernel
theorem rX8_says_1 {R : zP} {x0 x1 : Option zV} {st : List zV} {M : zM} {a0 : zV} : uX8_says R 1 [x0, x1] (a0 :: st) M ↔ (st.length ≤ 4 ∧ zcv tX8_isQuestion [a0] M (fun v M => uX8_says R 4 [x0, x1] (v :: st) M)) := Iff.trans (zU_step dX8_says_1 (Or.inl rfl)) ⟨fun h => ⟨h.2.1, zcv_of h.2.2⟩, fun h => ⟨rfl, h.1, zcv_to h.2⟩⟩
theorem dX8_says_4 : decode cX8_says 4 = .ok (.ifCond .eq 11, 3) := by decide +kernel
theorem rX8_says_4 {R : zP} {x0 x1 : Option zV} {st : List zV} {M : zM} {a : Int} : uX8_says R 4 [x0, x1] (.inl a :: st) M ↔ (zIR a ∧ if a = 0 then uX8_says R 15 [x0, x1] st M else uX8_says R 7 [x0, x1] st M) := Iff.trans (zU_step dX8_says_4 (Or.inl rfl)) ⟨fun h => ⟨h.1.1, (zite (c := a = 0)).mpr h.2⟩, fun h => ⟨⟨h.1, by decide⟩, (zite (c := a = 0)).mp h.2⟩⟩
theorem dX8_says_7 : decode cX8_says 7 = .ok (.aload_n 0, 1) := by decide +kernel
theorem rX8_says_7 {R : zP} {x1 : Option zV} {st : List zV} {M : zM} {a : Nat} : uX8_says R 7 [some (.inr (.inr a)), x1] st M ↔ uX8_says R 8 [some (.inr (.inr a)), x1] (.inr (.inr a) :: st) M := zU_step dX8_says_7 (Or.inl rfl)
theorem dX8_says_8 : decode cX8_says 8 = .ok (.iload_n 1, 1) := by decide +kernel
theorem rX8_says_8 {R : zP} {x0 : Option zV} {st : List zV} {M : zM} {a : Int} : uX8_says R 8 [x0, some (.inl a)] st M ↔ uX8_says R 9 [x0, some (.inl a)] (.inl a :: st) M := zU_step dX8_says_8 (Or.inl rfl)
theorem dX8_says_9 : decode cX8_says 9 = .ok (.invokevirtual 246, 3) := by decide +kernel
theorem rX8_says_9 {R : zP} {x0 x1 : Option zV} {st : List zV} {M : zM} {a0 a1 : zV} : uX8_says R 9 [x0, x1] (a1 :: a0 :: st) M ↔ (st.length ≤ 4 ∧ zcv (zv 8 tX8_noOf) [a0, a1] M (fun v M => uX8_says R 12 [x0, x1] (v :: st) M)) := Iff.trans (zU_step dX8_says_9 (Or.inl rfl)) ⟨fun h => ⟨h.2.1, zcv_of h.2.2⟩, fun h => ⟨rfl, h.1, zcv_to h.2⟩⟩
theorem dX8_says_12 : decode cX8_says 12 = .ok (.goto 5, 3) := by decide +kernel
theorem rX8_says_12 {R : zP} {x0 x1 : Option zV} {st : List zV} {M : zM} : uX8_says R 12 [x0, x1] st M ↔ uX8_says R 17 [x0, x1] st M := Iff.trans (zU_step dX8_says_12 (Or.inl rfl)) ⟨fun h => h.2, fun h => ⟨by decide, h⟩⟩
theorem dX8_says_15 : decode cX8_says 15 = .ok (.bipush (-2), 2) := by decide +kernel
theorem rX8_says_15 {R : zP} {x0 x1 : Option zV} {st : List zV} {M : zM} : uX8_says R 15 [x0, x1] st M ↔ uX8_says R 17 [x0, x1] (.inl (-2) :: st) M := Iff.trans (zU_step dX8_says_15 (Or.inl rfl)) ⟨fun h => h.2, fun h => ⟨by decide, h⟩⟩
theorem dX8_says_17 : decode cX8_says 17 = .ok (.ireturn, 1) := by decide +kernel
theorem rX8_says_17 {R : zP} {x0 x1 : Option zV} {M : zM} {a : Int} : uX8_says R 17 [x0, x1] [.inl a] M ↔ R (some (.inl a)) M := Iff.trans (zU_step dX8_says_17 (Or.inl rfl)) ⟨fun h => h.2.2, fun h => ⟨rfl, Or.inl rfl, h⟩⟩
theorem eX8_says {R : zP} {M : zM} {a0 : Nat} {p0 : Int} : tX8_says [.inr (.inr a0), .inl p0] M R ↔ uX8_says R 0 [some (.inr (.inr a0)), some (.inl p0)] [] M := ⟨fun h => h.2, fun h => ⟨show 2 ≤ 2 by decide, h⟩⟩
def uX8_weight (R : zP) : zK := zU fX8 vX8_weight cX8_weight R
theorem dX8_weight_0 : decode cX8_weight 0 = .ok (.aload_n 0, 1) := by decide +kernel
theorem rX8_weight_0 {R : zP} {x1 x2 : Option zV} {st : List zV} {M : zM} {a : Nat} : uX8_weight R 0 [some (.inr (.inr a)), x1, x2] st M ↔ uX8_weight R 1 [some (.inr (.inr a)), x1, x2] (.inr (.inr a) :: st) M := zU_step dX8_weight_0 (Or.inl rfl)
theorem dX8_weight_1 : decode cX8_weight 1 = .ok (.getfield 67, 3) := by decide +kernel
theorem rX8_weight_1 {R : zP} {x0 x1 x2 : Option zV} {st : List zV} {M : zM} {r : Nat} : uX8_weight R 1 [x0, x1, x2] (.inr (.inr r) :: st) M ↔ zgetx fX8 67 r M (fun v => uX8_weight R 4 [x0, x1, x2] (v :: st) M) := zU_step dX8_weight_1 (Or.inl rfl)
theorem dX8_weight_4 : decode cX8_weight 4 = .ok (.sipush 608, 3) := by decide +kernel
theorem rX8_weight_4 {R : zP} {x0 x1 x2 : Option zV} {st : List zV} {M : zM} : uX8_weight R 4 [x0, x1, x2] st M ↔ uX8_weight R 7 [x0, x1, x2] (.inl (608) :: st) M := Iff.trans (zU_step dX8_weight_4 (Or.inl rfl)) ⟨fun h => h.2, fun h => ⟨by decide, h⟩⟩
theorem dX8_weight_7 : decode cX8_weight 7 = .ok (.iconst 4, 1) := by decide +kernel
theorem rX8_weight_7 {R : zP} {x0 x1 x2 : Option zV} {st : List zV} {M : zM} : uX8_weight R 7 [x0, x1, x2] st M ↔ uX8_weight R 8 [x0, x1, x2] (.inl (4) :: st) M := zU_step dX8_weight_7 (Or.inl rfl)
theorem dX8_weight_8 : decode cX8_weight 8 = .ok (.iload_n 1, 1) := by decide +kernel
theorem rX8_weight_8 {R : zP} {x0 x2 : Option zV} {st : List zV} {M : zM} {a : Int} : uX8_weight R 8 [x0, some (.inl a), x2] st M ↔ uX8_weight R 9 [x0, some (.inl a), x2] (.inl a :: st) M := zU_step dX8_weight_8 (Or.inl rfl)
theorem dX8_weight_9 : decode cX8_weight 9 = .ok (.imul, 1) := by decide +kernel
theorem rX8_weight_9 {R : zP} {x0 x1 x2 : Option zV} {st : List zV} {M : zM} {a b : Int} : uX8_weight R 9 [x0, x1, x2] (.inl b :: .inl a :: st) M ↔ uX8_weight R 10 [x0, x1, x2] (.inl (a * b) :: st) M := zU_step dX8_weight_9 (Or.inl rfl)
theorem dX8_weight_10 : decode cX8_weight 10 = .ok (.iadd, 1) := by decide +kernel
theorem rX8_weight_10 {R : zP} {x0 x1 x2 : Option zV} {st : List zV} {M : zM} {a b : Int} : uX8_weight R 10 [x0, x1, x2] (.inl b :: .inl a :: st) M ↔ uX8_weight R 11 [x0, x1, x2] (.inl (a + b) :: st) M := zU_step dX8_weight_10 (Or.inl rfl)
theorem dX8_weight_11 : decode cX8_weight 11 = .ok (.iload_n 2, 1) := by decide +kernel
theorem rX8_weight_11 {R : zP} {x0 x1 : Option zV} {st : List zV} {M : zM} {a : Int} : uX8_weight R 11 [x0, x1, some (.inl a)] st M ↔ uX8_weight R 12 [x0, x1, some (.inl a)] (.inl a :: st) M := zU_step dX8_weight_11 (Or.inl rfl)
theorem dX8_weight_12 : decode cX8_weight 12 = .ok (.iadd, 1) := by decide +kernel
theorem rX8_weight_12 {R : zP} {x0 x1 x2 : Option zV} {st : List zV} {M : zM} {a b : Int} : uX8_weight R 12 [x0, x1, x2] (.inl b :: .inl a :: st) M ↔ uX8_weight R 13 [x0, x1, x2] (.inl (a + b) :: st) M := zU_step dX8_weight_12 (Or.inl rfl)
theorem dX8_weight_13 : decode cX8_weight 13 = .ok (.iaload, 1) := by decide +kernel
theorem rX8_weight_13 {R : zP} {x0 x1 x2 : Option zV} {st : List zV} {M : zM} {i : Int} {r : Nat} : uX8_weight R 13 [x0, x1, x2] (.inl i :: .inr (.inr r) :: st) M ↔ zread fX8 0 r M i (fun v => uX8_weight R 14 [x0, x1, x2] (.inl v :: st) M) := zU_step dX8_weight_13 (Or.inl rfl)
theorem dX8_weight_14 : decode cX8_weight 14 = .ok (.aload_n 0, 1) := by decide +kernel
theorem rX8_weight_14 {R : zP} {x1 x2 : Option zV} {st : List zV} {M : zM} {a : Nat} : uX8_weight R 14 [some (.inr (.inr a)), x1, x2] st M ↔ uX8_weight R 15 [some (.inr (.inr a)), x1, x2] (.inr (.inr a) :: st) M := zU_step dX8_weight_14 (Or.inl rfl)
theorem dX8_weight_15 : decode cX8_weight 15 = .ok (.getfield 64, 3) := by decide +kernel
theorem rX8_weight_15 {R : zP} {x0 x1 x2 : Option zV} {st : List zV} {M : zM} {r : Nat} : uX8_weight R 15 [x0, x1, x2] (.inr (.inr r) :: st) M ↔ zgetx fX8 64 r M (fun v => uX8_weight R 18 [x0, x1, x2] (v :: st) M) := zU_step dX8_weight_15 (Or.inl rfl)
theorem dX8_weight_18 : decode cX8_weight 18 = .ok (.sipush 608, 3) := by decide +kernel
theorem rX8_weight_18 {R : zP} {x0 x1 x2 : Option zV} {st : List zV} {M : zM} : uX8_weight R 18 [x0, x1, x2] st M ↔ uX8_weight R 21 [x0, x1, x2] (.inl (608) :: st) M := Iff.trans (zU_step dX8_weight_18 (Or.inl rfl)) ⟨fun h => h.2, fun h => ⟨by decide, h⟩⟩
theorem dX8_weight_21 : decode cX8_weight 21 = .ok (.iconst 4, 1) := by decide +kernel
theorem rX8_weight_21 {R : zP} {x0 x1 x2 : Option zV} {st : List zV} {M : zM} : uX8_weight R 21 [x0, x1, x2] st M ↔ uX8_weight R 22 [x0, x1, x2] (.inl (4) :: st) M := zU_step dX8_weight_21 (Or.inl rfl)
theorem dX8_weight_22 : decode cX8_weight 22 = .ok (.iload_n 1, 1) := by decide +kernel
theorem rX8_weight_22 {R : zP} {x0 x2 : Option zV} {st : List zV} {M : zM} {a : Int} : uX8_weight R 22 [x0, some (.inl a), x2] st M ↔ uX8_weight R 23 [x0, some (.inl a), x2] (.inl a :: st) M := zU_step dX8_weight_22 (Or.inl rfl)
theorem dX8_weight_23 : decode cX8_weight 23 = .ok (.imul, 1) := by decide +kernel
theorem rX8_weight_23 {R : zP} {x0 x1 x2 : Option zV} {st : List zV} {M : zM} {a b : Int} : uX8_weight R 23 [x0, x1, x2] (.inl b :: .inl a :: st) M ↔ uX8_weight R 24 [x0, x1, x2] (.inl (a * b) :: st) M := zU_step dX8_weight_23 (Or.inl rfl)
theorem dX8_weight_24 : decode cX8_weight 24 = .ok (.iadd, 1) := by decide +kernel
theorem rX8_weight_24 {R : zP} {x0 x1 x2 : Option zV} {st : List zV} {M : zM} {a b : Int} : uX8_weight R 24 [x0, x1, x2] (.inl b :: .inl a :: st) M ↔ uX8_weight R 25 [x0, x1, x2] (.inl (a + b) :: st) M := zU_step dX8_weight_24 (Or.inl rfl)
theorem dX8_weight_25 : decode cX8_weight 25 = .ok (.iload_n 2, 1) := by decide +kernel
theorem rX8_weight_25 {R : zP} {x0 x1 : Option zV} {st : List zV} {M : zM} {a : Int} : uX8_weight R 25 [x0, x1, some (.inl a)] st M ↔ uX8_weight R 26 [x0, x1, some (.inl a)] (.inl a :: st) M := zU_step dX8_weight_25 (Or.inl rfl)
theorem dX8_weight_26 : decode cX8_weight 26 = .ok (.iadd, 1) := by decide +kernel
theorem rX8_weight_26 {R : zP} {x0 x1 x2 : Option zV} {st : List zV} {M : zM} {a b : Int} : uX8_weight R 26 [x0, x1, x2] (.inl b :: .inl a :: st) M ↔ uX8_weight R 27 [x0, x1, x2] (.inl (a + b) :: st) M := zU_step dX8_weight_26 (Or.inl rfl)
theorem dX8_weight_27 : decode cX8_weight 27 = .ok (.iaload, 1) := by decide +kernel
theorem rX8_weight_27 {R : zP} {x0 x1 x2 : Option zV} {st : List zV} {M : zM} {i : Int} {r : Nat} : uX8_weight R 27 [x0, x1, x2] (.inl i :: .inr (.inr r) :: st) M ↔ zread fX8 0 r M i (fun v => uX8_weight R 28 [x0, x1, x2] (.inl v :: st) M) := zU_step dX8_weight_27 (Or.inl rfl)
theorem dX8_weight_28 : decode cX8_weight 28 = .ok (.isub, 1) := by decide +kernel
theorem rX8_weight_28 {R : zP} {x0 x1 x2 : Option zV} {st : List zV} {M : zM} {a b : Int} : uX8_weight R 28 [x0, x1, x2] (.inl b :: .inl a :: st) M ↔ uX8_weight R 29 [x0, x1, x2] (.inl (a - b) :: st) M := zU_step dX8_weight_28 (Or.inl rfl)
theorem dX8_weight_29 : decode cX8_weight 29 = .ok (.iconst 1, 1) := by decide +kernel
theorem rX8_weight_29 {R : zP} {x0 x1 x2 : Option zV} {st : List zV} {M : zM} : uX8_weight R 29 [x0, x1, x2] st M ↔ uX8_weight R 30 [x0, x1, x2] (.inl (1) :: st) M := zU_step dX8_weight_29 (Or.inl rfl)
theorem dX8_weight_30 : decode cX8_weight 30 = .ok (.iadd, 1) := by decide +kernel
theorem rX8_weight_30 {R : zP} {x0 x1 x2 : Option zV} {st : List zV} {M : zM} {a b : Int} : uX8_weight R 30 [x0, x1, x2] (.inl b :: .inl a :: st) M ↔ uX8_weight R 31 [x0, x1, x2] (.inl (a + b) :: st) M := zU_step dX8_weight_30 (Or.inl rfl)
theorem dX8_weight_31 : decode cX8_weight 31 = .ok (.ireturn, 1) := by decide +kernel
theorem rX8_weight_31 {R : zP} {x0 x1 x2 : Option zV} {M : zM} {a : Int} : uX8_weight R 31 [x0, x1, x2] [.inl a] M ↔ R (some (.inl a)) M := Iff.trans (zU_step dX8_weight_31 (Or.inl rfl)) ⟨fun h => h.2.2, fun h => ⟨rfl, Or.inl rfl, h⟩⟩
theorem eX8_weight {R : zP} {M : zM} {a0 : Nat} {p0 : Int} {p1 : Int} : tX8_weight [.inr (.inr a0), .inl p0, .inl p1] M R ↔ uX8_weight R 0 [some (.inr (.inr a0)), some (.inl p0), some (.inl p1)] [] M := ⟨fun h => h.2, fun h => ⟨show 3 ≤ 3 by decide, h⟩⟩
def uX8_rows (R : zP) : zK := zU fX8 vX8_rows cX8_rows R
theorem dX8_rows_0 : decode cX8_rows 0 = .ok (.lconst 1, 1) := by decide +kernel
theorem rX8_rows_0 {R : zP} {x0 x1 x2 x3 : Option zV} {st : List zV} {M : zM} : uX8_rows R 0 [x0, x1, x2, x3] st M ↔ uX8_rows R 1 [x0, x1, x2, x3] (.inr (.inl 1) :: st) M := zU_step dX8_rows_0 (Or.inl rfl)
theorem dX8_rows_1 : decode cX8_rows 1 = .ok (.lstore_n 1, 1) := by decide +kernel
theorem rX8_rows_1 {R : zP} {x1 x2 x3 : Option zV} {st : List zV} {M : zM} {a : Int} {y : Int} : uX8_rows R 1 [some (.inl y), x1, x2, x3] (.inr (.inl a) :: st) M ↔ uX8_rows R 2 [some (.inl y), some (.inr (.inl a)), none, x3] st M := Iff.trans (zU_step dX8_rows_1 (Or.inl rfl)) ⟨fun h => h.2, fun h => ⟨show 1 + 1 < 4 by decide, h⟩⟩
theorem rX8_rows_1z {R : zP} {x0 x1 x2 x3 : Option zV} {st : List zV} {M : zM} {a : Int} : uX8_rows R 1 [x0, x1, x2, x3] (.inr (.inl a) :: st) M ↔ uX8_rows R 2 [zkeep x0, some (.inr (.inl a)), none, x3] st M := Iff.trans (zU_step dX8_rows_1 (Or.inl rfl)) ⟨fun h => h.2, fun h => ⟨show 1 + 1 < 4 by decide, h⟩⟩
theorem dX8_rows_2 : decode cX8_rows 2 = .ok (.iconst 2, 1) := by decide +kernel
theorem rX8_rows_2 {R : zP} {x0 x1 x2 x3 : Option zV} {st : List zV} {M : zM} : uX8_rows R 2 [x0, x1, x2, x3] st M ↔ uX8_rows R 3 [x0, x1, x2, x3] (.inl (2) :: st) M := zU_step dX8_rows_2 (Or.inl rfl)
theorem dX8_rows_3 : decode cX8_rows 3 = .ok (.istore_n 3, 1) := by decide +kernel
theorem rX8_rows_3 {R : zP} {x0 x1 x3 : Option zV} {st : List zV} {M : zM} {a : Int} : uX8_rows R 3 [x0, x1, none, x3] (.inl a :: st) M ↔ uX8_rows R 4 [x0, x1, none, some (.inl a)] st M := Iff.trans (zU_step dX8_rows_3 (Or.inl rfl)) ⟨fun h => h.2, fun h => ⟨show 3 < 4 by decide, h⟩⟩
theorem rX8_rows_3z {R : zP} {x0 x1 x2 x3 : Option zV} {st : List zV} {M : zM} {a : Int} : uX8_rows R 3 [x0, x1, x2, x3] (.inl a :: st) M ↔ uX8_rows R 4 [x0, x1, zkeep x2, some (.inl a)] st M := Iff.trans (zU_step dX8_rows_3 (Or.inl rfl)) ⟨fun h => h.2, fun h => ⟨show 3 < 4 by decide, h⟩⟩
theorem dX8_rows_4 : decode cX8_rows 4 = .ok (.iload_n 3, 1) := by decide +kernel
theorem rX8_rows_4 {R : zP} {x0 x1 x2 : Option zV} {st : List zV} {M : zM} {a : Int} : uX8_rows R 4 [x0, x1, x2, some (.inl a)] st M ↔ uX8_rows R 5 [x0, x1, x2, some (.inl a)] (.inl a :: st) M := zU_step dX8_rows_4 (Or.inl rfl)
theorem dX8_rows_5 : decode cX8_rows 5 = .ok (.iload_n 0, 1) := by decide +kernel
theorem rX8_rows_5 {R : zP} {x1 x2 x3 : Option zV} {st : List zV} {M : zM} {a : Int} : uX8_rows R 5 [some (.inl a), x1, x2, x3] st M ↔ uX8_rows R 6 [some (.inl a), x1, x2, x3] (.inl a :: st) M := zU_step dX8_rows_5 (Or.inl rfl)
theorem dX8_rows_6 : decode cX8_rows 6 = .ok (.if_icmp .gt 14, 3) := by decide +kernel
theorem rX8_rows_6 {R : zP} {x0 x1 x2 x3 : Option zV} {st : List zV} {M : zM} {a b : Int} : uX8_rows R 6 [x0, x1, x2, x3] (.inl b :: .inl a :: st) M ↔ ((zIR a ∧ zIR b) ∧ if b < a then uX8_rows R 20 [x0, x1, x2, x3] st M else uX8_rows R 9 [x0, x1, x2, x3] st M) := Iff.trans (zU_step dX8_rows_6 (Or.inl rfl)) ⟨fun h => ⟨⟨h.1.1, h.1.2.1⟩, (zite (c := b < a)).mpr h.2⟩, fun h => ⟨⟨h.1.1, h.1.2, by decide⟩, (zite (c := b < a)).mp h.2⟩⟩
theorem dX8_rows_9 : decode cX8_rows 9 = .ok (.lload_n 1, 1) := by decide +kernel
theorem rX8_rows_9 {R : zP} {x0 x2 x3 : Option zV} {st : List zV} {M : zM} {a : Int} : uX8_rows R 9 [x0, some (.inr (.inl a)), x2, x3] st M ↔ uX8_rows R 10 [x0, some (.inr (.inl a)), x2, x3] (.inr (.inl a) :: st) M := zU_step dX8_rows_9 (Or.inl rfl)
theorem dX8_rows_10 : decode cX8_rows 10 = .ok (.iload_n 3, 1) := by decide +kernel
theorem rX8_rows_10 {R : zP} {x0 x1 x2 : Option zV} {st : List zV} {M : zM} {a : Int} : uX8_rows R 10 [x0, x1, x2, some (.inl a)] st M ↔ uX8_rows R 11 [x0, x1, x2, some (.inl a)] (.inl a :: st) M := zU_step dX8_rows_10 (Or.inl rfl)
theorem dX8_rows_11 : decode cX8_rows 11 = .ok (.i2l, 1) := by decide +kernel
theorem rX8_rows_11 {R : zP} {x0 x1 x2 x3 : Option zV} {st : List zV} {M : zM} {a : Int} : uX8_rows R 11 [x0, x1, x2, x3] (.inl a :: st) M ↔ (zIR a ∧ uX8_rows R 12 [x0, x1, x2, x3] (.inr (.inl a) :: st) M) := zU_step dX8_rows_11 (Or.inl rfl)
theorem dX8_rows_12 : decode cX8_rows 12 = .ok (.lmul, 1) := by decide +kernel
theorem rX8_rows_12 {R : zP} {x0 x1 x2 x3 : Option zV} {st : List zV} {M : zM} {a b : Int} : uX8_rows R 12 [x0, x1, x2, x3] (.inr (.inl b) :: .inr (.inl a) :: st) M ↔ uX8_rows R 13 [x0, x1, x2, x3] (.inr (.inl (a * b)) :: st) M := zU_step dX8_rows_12 (Or.inl rfl)
theorem dX8_rows_13 : decode cX8_rows 13 = .ok (.lstore_n 1, 1) := by decide +kernel
theorem rX8_rows_13 {R : zP} {x1 x2 x3 : Option zV} {st : List zV} {M : zM} {a : Int} {y : Int} : uX8_rows R 13 [some (.inl y), x1, x2, x3] (.inr (.inl a) :: st) M ↔ uX8_rows R 14 [some (.inl y), some (.inr (.inl a)), none, x3] st M := Iff.trans (zU_step dX8_rows_13 (Or.inl rfl)) ⟨fun h => h.2, fun h => ⟨show 1 + 1 < 4 by decide, h⟩⟩
theorem rX8_rows_13z {R : zP} {x0 x1 x2 x3 : Option zV} {st : List zV} {M : zM} {a : Int} : uX8_rows R 13 [x0, x1, x2, x3] (.inr (.inl a) :: st) M ↔ uX8_rows R 14 [zkeep x0, some (.inr (.inl a)), none, x3] st M := Iff.trans (zU_step dX8_rows_13 (Or.inl rfl)) ⟨fun h => h.2, fun h => ⟨show 1 + 1 < 4 by decide, h⟩⟩
theorem dX8_rows_14 : decode cX8_rows 14 = .ok (.iinc 3 1, 3) := by decide +kernel
theorem rX8_rows_14 {R : zP} {x0 x1 : Option zV} {st : List zV} {M : zM} {a : Int} : uX8_rows R 14 [x0, x1, none, some (.inl a)] st M ↔ uX8_rows R 17 [x0, x1, none, some (.inl (a + (1)))] st M := Iff.trans (zU_step dX8_rows_14 (Or.inl rfl)) ⟨fun h => h.2, fun h => ⟨show 3 < 4 by decide, h⟩⟩
theorem rX8_rows_14z {R : zP} {x0 x1 x2 : Option zV} {st : List zV} {M : zM} {a : Int} : uX8_rows R 14 [x0, x1, x2, some (.inl a)] st M ↔ uX8_rows R 17 [x0, x1, zkeep x2, some (.inl (a + (1)))] st M := Iff.trans (zU_step dX8_rows_14 (Or.inl rfl)) ⟨fun h => h.2, fun h => ⟨show 3 < 4 by decide, h⟩⟩
theorem dX8_rows_17 : decode cX8_rows 17 = .ok (.goto (-13), 3) := by decide +kernel
theorem rX8_rows_17 {R : zP} {x0 x1 x2 x3 : Option zV} {st : List zV} {M : zM} : uX8_rows R 17 [x0, x1, x2, x3] st M ↔ uX8_rows R 4 [x0, x1, x2, x3] st M := Iff.trans (zU_step dX8_rows_17 (Or.inl rfl)) ⟨fun h => h.2, fun h => ⟨by decide, h⟩⟩
theorem dX8_rows_20 : decode cX8_rows 20 = .ok (.lload_n 1, 1) := by decide +kernel
theorem rX8_rows_20 {R : zP} {x0 x2 x3 : Option zV} {st : List zV} {M : zM} {a : Int} : uX8_rows R 20 [x0, some (.inr (.inl a)), x2, x3] st M ↔ uX8_rows R 21 [x0, some (.inr (.inl a)), x2, x3] (.inr (.inl a) :: st) M := zU_step dX8_rows_20 (Or.inl rfl)
theorem dX8_rows_21 : decode cX8_rows 21 = .ok (.lreturn, 1) := by decide +kernel
theorem rX8_rows_21 {R : zP} {x0 x1 x2 x3 : Option zV} {M : zM} {a : Int} : uX8_rows R 21 [x0, x1, x2, x3] [.inr (.inl a)] M ↔ R (some (.inr (.inl a))) M := Iff.trans (zU_step dX8_rows_21 (Or.inl rfl)) ⟨fun h => h.2.2, fun h => ⟨rfl, rfl, h⟩⟩
theorem eX8_rows {R : zP} {M : zM} {p0 : Int} : tX8_rows [.inl p0] M R ↔ uX8_rows R 0 [some (.inl p0), none, none, none] [] M := ⟨fun h => h.2, fun h => ⟨show 1 ≤ 4 by decide, h⟩⟩
def uX8_powerOf (R : zP) : zK := zU fX8 vX8_powerOf cX8_powerOf R
theorem dX8_powerOf_0 : decode cX8_powerOf 0 = .ok (.aload_n 0, 1) := by decide +kernel
theorem rX8_powerOf_0 {R : zP} {x1 x2 x3 x4 x5 x6 x7 x8 x9 x10 : Option zV} {st : List zV} {M : zM} {a : Nat} : uX8_powerOf R 0 [some (.inr (.inr a)), x1, x2, x3, x4, x5, x6, x7, x8, x9, x10] st M ↔ uX8_powerOf R 1 [some (.inr (.inr a)), x1, x2, x3, x4, x5, x6, x7, x8, x9, x10] (.inr (.inr a) :: st) M := zU_step dX8_powerOf_0 (Or.inl rfl)
theorem dX8_powerOf_1 : decode cX8_powerOf 1 = .ok (.invokevirtual 205, 3) := by decide +kernel
theorem rX8_powerOf_1 {R : zP} {x0 x1 x2 x3 x4 x5 x6 x7 x8 x9 x10 : Option zV} {st : List zV} {M : zM} {a0 : zV} : uX8_powerOf R 1 [x0, x1, x2, x3, x4, x5, x6, x7, x8, x9, x10] (a0 :: st) M ↔ (st.length ≤ 4 ∧ zcn (zv 8 tX8_runsTold) [a0] M (fun M => uX8_powerOf R 4 [x0, x1, x2, x3, x4, x5, x6, x7, x8, x9, x10] st M)) := Iff.trans (zU_step dX8_powerOf_1 (Or.inl rfl)) ⟨fun h => ⟨h.2.1, zcn_of h.2.2⟩, fun h => ⟨rfl, h.1, zcn_to h.2⟩⟩
theorem dX8_powerOf_4 : decode cX8_powerOf 4 = .ok (.iconst 0, 1) := by decide +kernel
theorem rX8_powerOf_4 {R : zP} {x0 x1 x2 x3 x4 x5 x6 x7 x8 x9 x10 : Option zV} {st : List zV} {M : zM} : uX8_powerOf R 4 [x0, x1, x2, x3, x4, x5, x6, x7, x8, x9, x10] st M ↔ uX8_powerOf R 5 [x0, x1, x2, x3, x4, x5, x6, x7, x8, x9, x10] (.inl (0) :: st) M := zU_step dX8_powerOf_4 (Or.inl rfl)
theorem dX8_powerOf_5 : decode cX8_powerOf 5 = .ok (.istore 4, 2) := by decide +kernel
theorem rX8_powerOf_5 {R : zP} {x0 x1 x2 x4 x5 x6 x7 x8 x9 x10 : Option zV} {st : List zV} {M : zM} {a : Int} {y : Int} : uX8_powerOf R 5 [x0, x1, x2, some (.inl y), x4, x5, x6, x7, x8, x9, x10] (.inl a :: st) M ↔ uX8_powerOf R 7 [x0, x1, x2, some (.inl y), some (.inl a), x5, x6, x7, x8, x9, x10] st M := Iff.trans (zU_step dX8_powerOf_5 (Or.inl rfl)) ⟨fun h => h.2, fun h => ⟨show 4 < 11 by decide, h⟩⟩
theorem rX8_powerOf_5z {R : zP} {x0 x1 x2 x3 x4 x5 x6 x7 x8 x9 x10 : Option zV} {st : List zV} {M : zM} {a : Int} : uX8_powerOf R 5 [x0, x1, x2, x3, x4, x5, x6, x7, x8, x9, x10] (.inl a :: st) M ↔ uX8_powerOf R 7 [x0, x1, x2, zkeep x3, some (.inl a), x5, x6, x7, x8, x9, x10] st M := Iff.trans (zU_step dX8_powerOf_5 (Or.inl rfl)) ⟨fun h => h.2, fun h => ⟨show 4 < 11 by decide, h⟩⟩
theorem dX8_powerOf_7 : decode cX8_powerOf 7 = .ok (.iconst 0, 1) := by decide +kernel
theorem rX8_powerOf_7 {R : zP} {x0 x1 x2 x3 x4 x5 x6 x7 x8 x9 x10 : Option zV} {st : List zV} {M : zM} : uX8_powerOf R 7 [x0, x1, x2, x3, x4, x5, x6, x7, x8, x9, x10] st M ↔ uX8_powerOf R 8 [x0, x1, x2, x3, x4, x5, x6, x7, x8, x9, x10] (.inl (0) :: st) M := zU_step dX8_powerOf_7 (Or.inl rfl)
theorem dX8_powerOf_8 : decode cX8_powerOf 8 = .ok (.istore 5, 2) := by decide +kernel
theorem rX8_powerOf_8 {R : zP} {x0 x1 x2 x3 x5 x6 x7 x8 x9 x10 : Option zV} {st : List zV} {M : zM} {a : Int} {y : Int} : uX8_powerOf R 8 [x0, x1, x2, x3, some (.inl y), x5, x6, x7, x8, x9, x10] (.inl a :: st) M ↔ uX8_powerOf R 10 [x0, x1, x2, x3, some (.inl y), some (.inl a), x6, x7, x8, x9, x10] st M := Iff.trans (zU_step dX8_powerOf_8 (Or.inl rfl)) ⟨fun h => h.2, fun h => ⟨show 5 < 11 by decide, h⟩⟩
theorem rX8_powerOf_8z {R : zP} {x0 x1 x2 x3 x4 x5 x6 x7 x8 x9 x10 : Option zV} {st : List zV} {M : zM} {a : Int} : uX8_powerOf R 8 [x0, x1, x2, x3, x4, x5, x6, x7, x8, x9, x10] (.inl a :: st) M ↔ uX8_powerOf R 10 [x0, x1, x2, x3, zkeep x4, some (.inl a), x6, x7, x8, x9, x10] st M := Iff.trans (zU_step dX8_powerOf_8 (Or.inl rfl)) ⟨fun h => h.2, fun h => ⟨show 5 < 11 by decide, h⟩⟩
theorem dX8_powerOf_10 : decode cX8_powerOf 10 = .ok (.iload 5, 2) := by decide +kernel
theorem rX8_powerOf_10 {R : zP} {x0 x1 x2 x3 x4 x6 x7 x8 x9 x10 : Option zV} {st : List zV} {M : zM} {a : Int} : uX8_powerOf R 10 [x0, x1, x2, x3, x4, some (.inl a), x6, x7, x8, x9, x10] st M ↔ uX8_powerOf R 12 [x0, x1, x2, x3, x4, some (.inl a), x6, x7, x8, x9, x10] (.inl a :: st) M := zU_step dX8_powerOf_10 (Or.inl rfl)
theorem dX8_powerOf_12 : decode cX8_powerOf 12 = .ok (.aload_n 0, 1) := by decide +kernel
theorem rX8_powerOf_12 {R : zP} {x1 x2 x3 x4 x5 x6 x7 x8 x9 x10 : Option zV} {st : List zV} {M : zM} {a : Nat} : uX8_powerOf R 12 [some (.inr (.inr a)), x1, x2, x3, x4, x5, x6, x7, x8, x9, x10] st M ↔ uX8_powerOf R 13 [some (.inr (.inr a)), x1, x2, x3, x4, x5, x6, x7, x8, x9, x10] (.inr (.inr a) :: st) M := zU_step dX8_powerOf_12 (Or.inl rfl)
theorem dX8_powerOf_13 : decode cX8_powerOf 13 = .ok (.getfield 127, 3) := by decide +kernel
theorem rX8_powerOf_13 {R : zP} {x0 x1 x2 x3 x4 x5 x6 x7 x8 x9 x10 : Option zV} {st : List zV} {M : zM} {r : Nat} : uX8_powerOf R 13 [x0, x1, x2, x3, x4, x5, x6, x7, x8, x9, x10] (.inr (.inr r) :: st) M ↔ zgetx fX8 127 r M (fun v => uX8_powerOf R 16 [x0, x1, x2, x3, x4, x5, x6, x7, x8, x9, x10] (v :: st) M) := zU_step dX8_powerOf_13 (Or.inl rfl)
theorem dX8_powerOf_16 : decode cX8_powerOf 16 = .ok (.if_icmp .ge 21, 3) := by decide +kernel
theorem rX8_powerOf_16 {R : zP} {x0 x1 x2 x3 x4 x5 x6 x7 x8 x9 x10 : Option zV} {st : List zV} {M : zM} {a b : Int} : uX8_powerOf R 16 [x0, x1, x2, x3, x4, x5, x6, x7, x8, x9, x10] (.inl b :: .inl a :: st) M ↔ ((zIR a ∧ zIR b) ∧ if b ≤ a then uX8_powerOf R 37 [x0, x1, x2, x3, x4, x5, x6, x7, x8, x9, x10] st M else uX8_powerOf R 19 [x0, x1, x2, x3, x4, x5, x6, x7, x8, x9, x10] st M) := Iff.trans (zU_step dX8_powerOf_16 (Or.inl rfl)) ⟨fun h => ⟨⟨h.1.1, h.1.2.1⟩, (zite (c := b ≤ a)).mpr h.2⟩, fun h => ⟨⟨h.1.1, h.1.2, by decide⟩, (zite (c := b ≤ a)).mp h.2⟩⟩
theorem dX8_powerOf_19 : decode cX8_powerOf 19 = .ok (.iload 4, 2) := by decide +kernel
theorem rX8_powerOf_19 {R : zP} {x0 x1 x2 x3 x5 x6 x7 x8 x9 x10 : Option zV} {st : List zV} {M : zM} {a : Int} : uX8_powerOf R 19 [x0, x1, x2, x3, some (.inl a), x5, x6, x7, x8, x9, x10] st M ↔ uX8_powerOf R 21 [x0, x1, x2, x3, some (.inl a), x5, x6, x7, x8, x9, x10] (.inl a :: st) M := zU_step dX8_powerOf_19 (Or.inl rfl)
theorem dX8_powerOf_21 : decode cX8_powerOf 21 = .ok (.aload_n 0, 1) := by decide +kernel
theorem rX8_powerOf_21 {R : zP} {x1 x2 x3 x4 x5 x6 x7 x8 x9 x10 : Option zV} {st : List zV} {M : zM} {a : Nat} : uX8_powerOf R 21 [some (.inr (.inr a)), x1, x2, x3, x4, x5, x6, x7, x8, x9, x10] st M ↔ uX8_powerOf R 22 [some (.inr (.inr a)), x1, x2, x3, x4, x5, x6, x7, x8, x9, x10] (.inr (.inr a) :: st) M := zU_step dX8_powerOf_21 (Or.inl rfl)
theorem dX8_powerOf_22 : decode cX8_powerOf 22 = .ok (.iload 5, 2) := by decide +kernel
theorem rX8_powerOf_22 {R : zP} {x0 x1 x2 x3 x4 x6 x7 x8 x9 x10 : Option zV} {st : List zV} {M : zM} {a : Int} : uX8_powerOf R 22 [x0, x1, x2, x3, x4, some (.inl a), x6, x7, x8, x9, x10] st M ↔ uX8_powerOf R 24 [x0, x1, x2, x3, x4, some (.inl a), x6, x7, x8, x9, x10] (.inl a :: st) M := zU_step dX8_powerOf_22 (Or.inl rfl)
theorem dX8_powerOf_24 : decode cX8_powerOf 24 = .ok (.iload_n 2, 1) := by decide +kernel
theorem rX8_powerOf_24 {R : zP} {x0 x1 x3 x4 x5 x6 x7 x8 x9 x10 : Option zV} {st : List zV} {M : zM} {a : Int} : uX8_powerOf R 24 [x0, x1, some (.inl a), x3, x4, x5, x6, x7, x8, x9, x10] st M ↔ uX8_powerOf R 25 [x0, x1, some (.inl a), x3, x4, x5, x6, x7, x8, x9, x10] (.inl a :: st) M := zU_step dX8_powerOf_24 (Or.inl rfl)
theorem dX8_powerOf_25 : decode cX8_powerOf 25 = .ok (.invokevirtual 249, 3) := by decide +kernel
theorem rX8_powerOf_25 {R : zP} {x0 x1 x2 x3 x4 x5 x6 x7 x8 x9 x10 : Option zV} {st : List zV} {M : zM} {a0 a1 a2 : zV} : uX8_powerOf R 25 [x0, x1, x2, x3, x4, x5, x6, x7, x8, x9, x10] (a2 :: a1 :: a0 :: st) M ↔ (st.length ≤ 4 ∧ zcv (zv 8 tX8_weight) [a0, a1, a2] M (fun v M => uX8_powerOf R 28 [x0, x1, x2, x3, x4, x5, x6, x7, x8, x9, x10] (v :: st) M)) := Iff.trans (zU_step dX8_powerOf_25 (Or.inl rfl)) ⟨fun h => ⟨h.2.1, zcv_of h.2.2⟩, fun h => ⟨rfl, h.1, zcv_to h.2⟩⟩
theorem dX8_powerOf_28 : decode cX8_powerOf 28 = .ok (.iadd, 1) := by decide +kernel
theorem rX8_powerOf_28 {R : zP} {x0 x1 x2 x3 x4 x5 x6 x7 x8 x9 x10 : Option zV} {st : List zV} {M : zM} {a b : Int} : uX8_powerOf R 28 [x0, x1, x2, x3, x4, x5, x6, x7, x8, x9, x10] (.inl b :: .inl a :: st) M ↔ uX8_powerOf R 29 [x0, x1, x2, x3, x4, x5, x6, x7, x8, x9, x10] (.inl (a + b) :: st) M := zU_step dX8_powerOf_28 (Or.inl rfl)
theorem dX8_powerOf_29 : decode cX8_powerOf 29 = .ok (.istore 4, 2) := by decide +kernel
theorem rX8_powerOf_29 {R : zP} {x0 x1 x2 x4 x5 x6 x7 x8 x9 x10 : Option zV} {st : List zV} {M : zM} {a : Int} {y : Int} : uX8_powerOf R 29 [x0, x1, x2, some (.inl y), x4, x5, x6, x7, x8, x9, x10] (.inl a :: st) M ↔ uX8_powerOf R 31 [x0, x1, x2, some (.inl y), some (.inl a), x5, x6, x7, x8, x9, x10] st M := Iff.trans (zU_step dX8_powerOf_29 (Or.inl rfl)) ⟨fun h => h.2, fun h => ⟨show 4 < 11 by decide, h⟩⟩
theorem rX8_powerOf_29z {R : zP} {x0 x1 x2 x3 x4 x5 x6 x7 x8 x9 x10 : Option zV} {st : List zV} {M : zM} {a : Int} : uX8_powerOf R 29 [x0, x1, x2, x3, x4, x5, x6, x7, x8, x9, x10] (.inl a :: st) M ↔ uX8_powerOf R 31 [x0, x1, x2, zkeep x3, some (.inl a), x5, x6, x7, x8, x9, x10] st M := Iff.trans (zU_step dX8_powerOf_29 (Or.inl rfl)) ⟨fun h => h.2, fun h => ⟨show 4 < 11 by decide, h⟩⟩
theorem dX8_powerOf_31 : decode cX8_powerOf 31 = .ok (.iinc 5 1, 3) := by decide +kernel
theorem rX8_powerOf_31 {R : zP} {x0 x1 x2 x3 x6 x7 x8 x9 x10 : Option zV} {st : List zV} {M : zM} {a : Int} {y : Int} : uX8_powerOf R 31 [x0, x1, x2, x3, some (.inl y), some (.inl a), x6, x7, x8, x9, x10] st M ↔ uX8_powerOf R 34 [x0, x1, x2, x3, some (.inl y), some (.inl (a + (1))), x6, x7, x8, x9, x10] st M := Iff.trans (zU_step dX8_powerOf_31 (Or.inl rfl)) ⟨fun h => h.2, fun h => ⟨show 5 < 11 by decide, h⟩⟩
theorem rX8_powerOf_31z {R : zP} {x0 x1 x2 x3 x4 x6 x7 x8 x9 x10 : Option zV} {st : List zV} {M : zM} {a : Int} : uX8_powerOf R 31 [x0, x1, x2, x3, x4, some (.inl a), x6, x7, x8, x9, x10] st M ↔ uX8_powerOf R 34 [x0, x1, x2, x3, zkeep x4, some (.inl (a + (1))), x6, x7, x8, x9, x10] st M := Iff.trans (zU_step dX8_powerOf_31 (Or.inl rfl)) ⟨fun h => h.2, fun h => ⟨show 5 < 11 by decide, h⟩⟩
theorem dX8_powerOf_34 : decode cX8_powerOf 34 = .ok (.goto (-24), 3) := by decide +kernel
theorem rX8_powerOf_34 {R : zP} {x0 x1 x2 x3 x4 x5 x6 x7 x8 x9 x10 : Option zV} {st : List zV} {M : zM} : uX8_powerOf R 34 [x0, x1, x2, x3, x4, x5, x6, x7, x8, x9, x10] st M ↔ uX8_powerOf R 10 [x0, x1, x2, x3, x4, x5, x6, x7, x8, x9, x10] st M := Iff.trans (zU_step dX8_powerOf_34 (Or.inl rfl)) ⟨fun h => h.2, fun h => ⟨by decide, h⟩⟩
theorem dX8_powerOf_37 : decode cX8_powerOf 37 = .ok (.lconst 0, 1) := by decide +kernel
theorem rX8_powerOf_37 {R : zP} {x0 x1 x2 x3 x4 x5 x6 x7 x8 x9 x10 : Option zV} {st : List zV} {M : zM} : uX8_powerOf R 37 [x0, x1, x2, x3, x4, x5, x6, x7, x8, x9, x10] st M ↔ uX8_powerOf R 38 [x0, x1, x2, x3, x4, x5, x6, x7, x8, x9, x10] (.inr (.inl 0) :: st) M := zU_step dX8_powerOf_37 (Or.inl rfl)
theorem dX8_powerOf_38 : decode cX8_powerOf 38 = .ok (.lstore 5, 2) := by decide +kernel
theorem rX8_powerOf_38 {R : zP} {x0 x1 x2 x3 x5 x6 x7 x8 x9 x10 : Option zV} {st : List zV} {M : zM} {a : Int} {y : Int} : uX8_powerOf R 38 [x0, x1, x2, x3, some (.inl y), x5, x6, x7, x8, x9, x10] (.inr (.inl a) :: st) M ↔ uX8_powerOf R 40 [x0, x1, x2, x3, some (.inl y), some (.inr (.inl a)), none, x7, x8, x9, x10] st M := Iff.trans (zU_step dX8_powerOf_38 (Or.inl rfl)) ⟨fun h => h.2, fun h => ⟨show 5 + 1 < 11 by decide, h⟩⟩
theorem rX8_powerOf_38z {R : zP} {x0 x1 x2 x3 x4 x5 x6 x7 x8 x9 x10 : Option zV} {st : List zV} {M : zM} {a : Int} : uX8_powerOf R 38 [x0, x1, x2, x3, x4, x5, x6, x7, x8, x9, x10] (.inr (.inl a) :: st) M ↔ uX8_powerOf R 40 [x0, x1, x2, x3, zkeep x4, some (.inr (.inl a)), none, x7, x8, x9, x10] st M := Iff.trans (zU_step dX8_powerOf_38 (Or.inl rfl)) ⟨fun h => h.2, fun h => ⟨show 5 + 1 < 11 by decide, h⟩⟩
theorem dX8_powerOf_40 : decode cX8_powerOf 40 = .ok (.iconst 0, 1) := by decide +kernel
theorem rX8_powerOf_40 {R : zP} {x0 x1 x2 x3 x4 x5 x6 x7 x8 x9 x10 : Option zV} {st : List zV} {M : zM} : uX8_powerOf R 40 [x0, x1, x2, x3, x4, x5, x6, x7, x8, x9, x10] st M ↔ uX8_powerOf R 41 [x0, x1, x2, x3, x4, x5, x6, x7, x8, x9, x10] (.inl (0) :: st) M := zU_step dX8_powerOf_40 (Or.inl rfl)
theorem dX8_powerOf_41 : decode cX8_powerOf 41 = .ok (.istore 7, 2) := by decide +kernel
theorem rX8_powerOf_41 {R : zP} {x0 x1 x2 x3 x4 x5 x7 x8 x9 x10 : Option zV} {st : List zV} {M : zM} {a : Int} : uX8_powerOf R 41 [x0, x1, x2, x3, x4, x5, none, x7, x8, x9, x10] (.inl a :: st) M ↔ uX8_powerOf R 43 [x0, x1, x2, x3, x4, x5, none, some (.inl a), x8, x9, x10] st M := Iff.trans (zU_step dX8_powerOf_41 (Or.inl rfl)) ⟨fun h => h.2, fun h => ⟨show 7 < 11 by decide, h⟩⟩
theorem rX8_powerOf_41z {R : zP} {x0 x1 x2 x3 x4 x5 x6 x7 x8 x9 x10 : Option zV} {st : List zV} {M : zM} {a : Int} : uX8_powerOf R 41 [x0, x1, x2, x3, x4, x5, x6, x7, x8, x9, x10] (.inl a :: st) M ↔ uX8_powerOf R 43 [x0, x1, x2, x3, x4, x5, zkeep x6, some (.inl a), x8, x9, x10] st M := Iff.trans (zU_step dX8_powerOf_41 (Or.inl rfl)) ⟨fun h => h.2, fun h => ⟨show 7 < 11 by decide, h⟩⟩
theorem dX8_powerOf_43 : decode cX8_powerOf 43 = .ok (.iload 7, 2) := by decide +kernel
theorem rX8_powerOf_43 {R : zP} {x0 x1 x2 x3 x4 x5 x6 x8 x9 x10 : Option zV} {st : List zV} {M : zM} {a : Int} : uX8_powerOf R 43 [x0, x1, x2, x3, x4, x5, x6, some (.inl a), x8, x9, x10] st M ↔ uX8_powerOf R 45 [x0, x1, x2, x3, x4, x5, x6, some (.inl a), x8, x9, x10] (.inl a :: st) M := zU_step dX8_powerOf_43 (Or.inl rfl)
theorem dX8_powerOf_45 : decode cX8_powerOf 45 = .ok (.iconst 1, 1) := by decide +kernel
theorem rX8_powerOf_45 {R : zP} {x0 x1 x2 x3 x4 x5 x6 x7 x8 x9 x10 : Option zV} {st : List zV} {M : zM} : uX8_powerOf R 45 [x0, x1, x2, x3, x4, x5, x6, x7, x8, x9, x10] st M ↔ uX8_powerOf R 46 [x0, x1, x2, x3, x4, x5, x6, x7, x8, x9, x10] (.inl (1) :: st) M := zU_step dX8_powerOf_45 (Or.inl rfl)
theorem dX8_powerOf_46 : decode cX8_powerOf 46 = .ok (.aload_n 0, 1) := by decide +kernel
theorem rX8_powerOf_46 {R : zP} {x1 x2 x3 x4 x5 x6 x7 x8 x9 x10 : Option zV} {st : List zV} {M : zM} {a : Nat} : uX8_powerOf R 46 [some (.inr (.inr a)), x1, x2, x3, x4, x5, x6, x7, x8, x9, x10] st M ↔ uX8_powerOf R 47 [some (.inr (.inr a)), x1, x2, x3, x4, x5, x6, x7, x8, x9, x10] (.inr (.inr a) :: st) M := zU_step dX8_powerOf_46 (Or.inl rfl)
theorem dX8_powerOf_47 : decode cX8_powerOf 47 = .ok (.getfield 127, 3) := by decide +kernel
theorem rX8_powerOf_47 {R : zP} {x0 x1 x2 x3 x4 x5 x6 x7 x8 x9 x10 : Option zV} {st : List zV} {M : zM} {r : Nat} : uX8_powerOf R 47 [x0, x1, x2, x3, x4, x5, x6, x7, x8, x9, x10] (.inr (.inr r) :: st) M ↔ zgetx fX8 127 r M (fun v => uX8_powerOf R 50 [x0, x1, x2, x3, x4, x5, x6, x7, x8, x9, x10] (v :: st) M) := zU_step dX8_powerOf_47 (Or.inl rfl)
theorem dX8_powerOf_50 : decode cX8_powerOf 50 = .ok (.ishl, 1) := by decide +kernel
theorem rX8_powerOf_50 {R : zP} {x0 x1 x2 x3 x4 x5 x6 x7 x8 x9 x10 : Option zV} {st : List zV} {M : zM} {a b : Int} : uX8_powerOf R 50 [x0, x1, x2, x3, x4, x5, x6, x7, x8, x9, x10] (.inl b :: .inl a :: st) M ↔ uX8_powerOf R 51 [x0, x1, x2, x3, x4, x5, x6, x7, x8, x9, x10] (.inl (zshl a b) :: st) M := zU_step dX8_powerOf_50 (Or.inl rfl)
theorem dX8_powerOf_51 : decode cX8_powerOf 51 = .ok (.if_icmp .ge 152, 3) := by decide +kernel
theorem rX8_powerOf_51 {R : zP} {x0 x1 x2 x3 x4 x5 x6 x7 x8 x9 x10 : Option zV} {st : List zV} {M : zM} {a b : Int} : uX8_powerOf R 51 [x0, x1, x2, x3, x4, x5, x6, x7, x8, x9, x10] (.inl b :: .inl a :: st) M ↔ ((zIR a ∧ zIR b) ∧ if b ≤ a then uX8_powerOf R 203 [x0, x1, x2, x3, x4, x5, x6, x7, x8, x9, x10] st M else uX8_powerOf R 54 [x0, x1, x2, x3, x4, x5, x6, x7, x8, x9, x10] st M) := Iff.trans (zU_step dX8_powerOf_51 (Or.inl rfl)) ⟨fun h => ⟨⟨h.1.1, h.1.2.1⟩, (zite (c := b ≤ a)).mpr h.2⟩, fun h => ⟨⟨h.1.1, h.1.2, by decide⟩, (zite (c := b ≤ a)).mp h.2⟩⟩
theorem dX8_powerOf_54 : decode cX8_powerOf 54 = .ok (.iconst 0, 1) := by decide +kernel
theorem rX8_powerOf_54 {R : zP} {x0 x1 x2 x3 x4 x5 x6 x7 x8 x9 x10 : Option zV} {st : List zV} {M : zM} : uX8_powerOf R 54 [x0, x1, x2, x3, x4, x5, x6, x7, x8, x9, x10] st M ↔ uX8_powerOf R 55 [x0, x1, x2, x3, x4, x5, x6, x7, x8, x9, x10] (.inl (0) :: st) M := zU_step dX8_powerOf_54 (Or.inl rfl)
theorem dX8_powerOf_55 : decode cX8_powerOf 55 = .ok (.istore 8, 2) := by decide +kernel
theorem rX8_powerOf_55 {R : zP} {x0 x1 x2 x3 x4 x5 x6 x8 x9 x10 : Option zV} {st : List zV} {M : zM} {a : Int} {y : Int} : uX8_powerOf R 55 [x0, x1, x2, x3, x4, x5, x6, some (.inl y), x8, x9, x10] (.inl a :: st) M ↔ uX8_powerOf R 57 [x0, x1, x2, x3, x4, x5, x6, some (.inl y), some (.inl a), x9, x10] st M := Iff.trans (zU_step dX8_powerOf_55 (Or.inl rfl)) ⟨fun h => h.2, fun h => ⟨show 8 < 11 by decide, h⟩⟩
theorem rX8_powerOf_55z {R : zP} {x0 x1 x2 x3 x4 x5 x6 x7 x8 x9 x10 : Option zV} {st : List zV} {M : zM} {a : Int} : uX8_powerOf R 55 [x0, x1, x2, x3, x4, x5, x6, x7, x8, x9, x10] (.inl a :: st) M ↔ uX8_powerOf R 57 [x0, x1, x2, x3, x4, x5, x6, zkeep x7, some (.inl a), x9, x10] st M := Iff.trans (zU_step dX8_powerOf_55 (Or.inl rfl)) ⟨fun h => h.2, fun h => ⟨show 8 < 11 by decide, h⟩⟩
theorem dX8_powerOf_57 : decode cX8_powerOf 57 = .ok (.iconst 0, 1) := by decide +kernel
theorem rX8_powerOf_57 {R : zP} {x0 x1 x2 x3 x4 x5 x6 x7 x8 x9 x10 : Option zV} {st : List zV} {M : zM} : uX8_powerOf R 57 [x0, x1, x2, x3, x4, x5, x6, x7, x8, x9, x10] st M ↔ uX8_powerOf R 58 [x0, x1, x2, x3, x4, x5, x6, x7, x8, x9, x10] (.inl (0) :: st) M := zU_step dX8_powerOf_57 (Or.inl rfl)
theorem dX8_powerOf_58 : decode cX8_powerOf 58 = .ok (.istore 9, 2) := by decide +kernel
theorem rX8_powerOf_58 {R : zP} {x0 x1 x2 x3 x4 x5 x6 x7 x9 x10 : Option zV} {st : List zV} {M : zM} {a : Int} {y : Int} : uX8_powerOf R 58 [x0, x1, x2, x3, x4, x5, x6, x7, some (.inl y), x9, x10] (.inl a :: st) M ↔ uX8_powerOf R 60 [x0, x1, x2, x3, x4, x5, x6, x7, some (.inl y), some (.inl a), x10] st M := Iff.trans (zU_step dX8_powerOf_58 (Or.inl rfl)) ⟨fun h => h.2, fun h => ⟨show 9 < 11 by decide, h⟩⟩
theorem rX8_powerOf_58z {R : zP} {x0 x1 x2 x3 x4 x5 x6 x7 x8 x9 x10 : Option zV} {st : List zV} {M : zM} {a : Int} : uX8_powerOf R 58 [x0, x1, x2, x3, x4, x5, x6, x7, x8, x9, x10] (.inl a :: st) M ↔ uX8_powerOf R 60 [x0, x1, x2, x3, x4, x5, x6, x7, zkeep x8, some (.inl a), x10] st M := Iff.trans (zU_step dX8_powerOf_58 (Or.inl rfl)) ⟨fun h => h.2, fun h => ⟨show 9 < 11 by decide, h⟩⟩
theorem dX8_powerOf_60 : decode cX8_powerOf 60 = .ok (.iconst 0, 1) := by decide +kernel
theorem rX8_powerOf_60 {R : zP} {x0 x1 x2 x3 x4 x5 x6 x7 x8 x9 x10 : Option zV} {st : List zV} {M : zM} : uX8_powerOf R 60 [x0, x1, x2, x3, x4, x5, x6, x7, x8, x9, x10] st M ↔ uX8_powerOf R 61 [x0, x1, x2, x3, x4, x5, x6, x7, x8, x9, x10] (.inl (0) :: st) M := zU_step dX8_powerOf_60 (Or.inl rfl)
theorem dX8_powerOf_61 : decode cX8_powerOf 61 = .ok (.istore 10, 2) := by decide +kernel
theorem rX8_powerOf_61 {R : zP} {x0 x1 x2 x3 x4 x5 x6 x7 x8 x10 : Option zV} {st : List zV} {M : zM} {a : Int} {y : Int} : uX8_powerOf R 61 [x0, x1, x2, x3, x4, x5, x6, x7, x8, some (.inl y), x10] (.inl a :: st) M ↔ uX8_powerOf R 63 [x0, x1, x2, x3, x4, x5, x6, x7, x8, some (.inl y), some (.inl a)] st M := Iff.trans (zU_step dX8_powerOf_61 (Or.inl rfl)) ⟨fun h => h.2, fun h => ⟨show 10 < 11 by decide, h⟩⟩
theorem rX8_powerOf_61z {R : zP} {x0 x1 x2 x3 x4 x5 x6 x7 x8 x9 x10 : Option zV} {st : List zV} {M : zM} {a : Int} : uX8_powerOf R 61 [x0, x1, x2, x3, x4, x5, x6, x7, x8, x9, x10] (.inl a :: st) M ↔ uX8_powerOf R 63 [x0, x1, x2, x3, x4, x5, x6, x7, x8, zkeep x9, some (.inl a)] st M := Iff.trans (zU_step dX8_powerOf_61 (Or.inl rfl)) ⟨fun h => h.2, fun h => ⟨show 10 < 11 by decide, h⟩⟩
theorem dX8_powerOf_63 : decode cX8_powerOf 63 = .ok (.iload 10, 2) := by decide +kernel
theorem rX8_powerOf_63 {R : zP} {x0 x1 x2 x3 x4 x5 x6 x7 x8 x9 : Option zV} {st : List zV} {M : zM} {a : Int} : uX8_powerOf R 63 [x0, x1, x2, x3, x4, x5, x6, x7, x8, x9, some (.inl a)] st M ↔ uX8_powerOf R 65 [x0, x1, x2, x3, x4, x5, x6, x7, x8, x9, some (.inl a)] (.inl a :: st) M := zU_step dX8_powerOf_63 (Or.inl rfl)
theorem dX8_powerOf_65 : decode cX8_powerOf 65 = .ok (.aload_n 0, 1) := by decide +kernel
theorem rX8_powerOf_65 {R : zP} {x1 x2 x3 x4 x5 x6 x7 x8 x9 x10 : Option zV} {st : List zV} {M : zM} {a : Nat} : uX8_powerOf R 65 [some (.inr (.inr a)), x1, x2, x3, x4, x5, x6, x7, x8, x9, x10] st M ↔ uX8_powerOf R 66 [some (.inr (.inr a)), x1, x2, x3, x4, x5, x6, x7, x8, x9, x10] (.inr (.inr a) :: st) M := zU_step dX8_powerOf_65 (Or.inl rfl)
theorem dX8_powerOf_66 : decode cX8_powerOf 66 = .ok (.getfield 127, 3) := by decide +kernel
theorem rX8_powerOf_66 {R : zP} {x0 x1 x2 x3 x4 x5 x6 x7 x8 x9 x10 : Option zV} {st : List zV} {M : zM} {r : Nat} : uX8_powerOf R 66 [x0, x1, x2, x3, x4, x5, x6, x7, x8, x9, x10] (.inr (.inr r) :: st) M ↔ zgetx fX8 127 r M (fun v => uX8_powerOf R 69 [x0, x1, x2, x3, x4, x5, x6, x7, x8, x9, x10] (v :: st) M) := zU_step dX8_powerOf_66 (Or.inl rfl)
theorem dX8_powerOf_69 : decode cX8_powerOf 69 = .ok (.if_icmp .ge 55, 3) := by decide +kernel
theorem rX8_powerOf_69 {R : zP} {x0 x1 x2 x3 x4 x5 x6 x7 x8 x9 x10 : Option zV} {st : List zV} {M : zM} {a b : Int} : uX8_powerOf R 69 [x0, x1, x2, x3, x4, x5, x6, x7, x8, x9, x10] (.inl b :: .inl a :: st) M ↔ ((zIR a ∧ zIR b) ∧ if b ≤ a then uX8_powerOf R 124 [x0, x1, x2, x3, x4, x5, x6, x7, x8, x9, x10] st M else uX8_powerOf R 72 [x0, x1, x2, x3, x4, x5, x6, x7, x8, x9, x10] st M) := Iff.trans (zU_step dX8_powerOf_69 (Or.inl rfl)) ⟨fun h => ⟨⟨h.1.1, h.1.2.1⟩, (zite (c := b ≤ a)).mpr h.2⟩, fun h => ⟨⟨h.1.1, h.1.2, by decide⟩, (zite (c := b ≤ a)).mp h.2⟩⟩
theorem dX8_powerOf_72 : decode cX8_powerOf 72 = .ok (.iload 8, 2) := by decide +kernel
theorem rX8_powerOf_72 {R : zP} {x0 x1 x2 x3 x4 x5 x6 x7 x9 x10 : Option zV} {st : List zV} {M : zM} {a : Int} : uX8_powerOf R 72 [x0, x1, x2, x3, x4, x5, x6, x7, some (.inl a), x9, x10] st M ↔ uX8_powerOf R 74 [x0, x1, x2, x3, x4, x5, x6, x7, some (.inl a), x9, x10] (.inl a :: st) M := zU_step dX8_powerOf_72 (Or.inl rfl)
theorem dX8_powerOf_74 : decode cX8_powerOf 74 = .ok (.iload 7, 2) := by decide +kernel
theorem rX8_powerOf_74 {R : zP} {x0 x1 x2 x3 x4 x5 x6 x8 x9 x10 : Option zV} {st : List zV} {M : zM} {a : Int} : uX8_powerOf R 74 [x0, x1, x2, x3, x4, x5, x6, some (.inl a), x8, x9, x10] st M ↔ uX8_powerOf R 76 [x0, x1, x2, x3, x4, x5, x6, some (.inl a), x8, x9, x10] (.inl a :: st) M := zU_step dX8_powerOf_74 (Or.inl rfl)
theorem dX8_powerOf_76 : decode cX8_powerOf 76 = .ok (.iload 10, 2) := by decide +kernel
theorem rX8_powerOf_76 {R : zP} {x0 x1 x2 x3 x4 x5 x6 x7 x8 x9 : Option zV} {st : List zV} {M : zM} {a : Int} : uX8_powerOf R 76 [x0, x1, x2, x3, x4, x5, x6, x7, x8, x9, some (.inl a)] st M ↔ uX8_powerOf R 78 [x0, x1, x2, x3, x4, x5, x6, x7, x8, x9, some (.inl a)] (.inl a :: st) M := zU_step dX8_powerOf_76 (Or.inl rfl)
theorem dX8_powerOf_78 : decode cX8_powerOf 78 = .ok (.invokestatic 187, 3) := by decide +kernel
theorem rX8_powerOf_78 {R : zP} {x0 x1 x2 x3 x4 x5 x6 x7 x8 x9 x10 : Option zV} {st : List zV} {M : zM} {a0 a1 : zV} : uX8_powerOf R 78 [x0, x1, x2, x3, x4, x5, x6, x7, x8, x9, x10] (a1 :: a0 :: st) M ↔ (st.length ≤ 4 ∧ zcv tX8_isIn [a0, a1] M (fun v M => uX8_powerOf R 81 [x0, x1, x2, x3, x4, x5, x6, x7, x8, x9, x10] (v :: st) M)) := Iff.trans (zU_step dX8_powerOf_78 (Or.inl rfl)) ⟨fun h => ⟨h.2.1, zcv_of h.2.2⟩, fun h => ⟨rfl, h.1, zcv_to h.2⟩⟩
theorem dX8_powerOf_81 : decode cX8_powerOf 81 = .ok (.ifCond .eq 13, 3) := by decide +kernel
theorem rX8_powerOf_81 {R : zP} {x0 x1 x2 x3 x4 x5 x6 x7 x8 x9 x10 : Option zV} {st : List zV} {M : zM} {a : Int} : uX8_powerOf R 81 [x0, x1, x2, x3, x4, x5, x6, x7, x8, x9, x10] (.inl a :: st) M ↔ (zIR a ∧ if a = 0 then uX8_powerOf R 94 [x0, x1, x2, x3, x4, x5, x6, x7, x8, x9, x10] st M else uX8_powerOf R 84 [x0, x1, x2, x3, x4, x5, x6, x7, x8, x9, x10] st M) := Iff.trans (zU_step dX8_powerOf_81 (Or.inl rfl)) ⟨fun h => ⟨h.1.1, (zite (c := a = 0)).mpr h.2⟩, fun h => ⟨⟨h.1, by decide⟩, (zite (c := a = 0)).mp h.2⟩⟩
theorem dX8_powerOf_84 : decode cX8_powerOf 84 = .ok (.aload_n 0, 1) := by decide +kernel
theorem rX8_powerOf_84 {R : zP} {x1 x2 x3 x4 x5 x6 x7 x8 x9 x10 : Option zV} {st : List zV} {M : zM} {a : Nat} : uX8_powerOf R 84 [some (.inr (.inr a)), x1, x2, x3, x4, x5, x6, x7, x8, x9, x10] st M ↔ uX8_powerOf R 85 [some (.inr (.inr a)), x1, x2, x3, x4, x5, x6, x7, x8, x9, x10] (.inr (.inr a) :: st) M := zU_step dX8_powerOf_84 (Or.inl rfl)
theorem dX8_powerOf_85 : decode cX8_powerOf 85 = .ok (.iload 10, 2) := by decide +kernel
theorem rX8_powerOf_85 {R : zP} {x0 x1 x2 x3 x4 x5 x6 x7 x8 x9 : Option zV} {st : List zV} {M : zM} {a : Int} : uX8_powerOf R 85 [x0, x1, x2, x3, x4, x5, x6, x7, x8, x9, some (.inl a)] st M ↔ uX8_powerOf R 87 [x0, x1, x2, x3, x4, x5, x6, x7, x8, x9, some (.inl a)] (.inl a :: st) M := zU_step dX8_powerOf_85 (Or.inl rfl)
theorem dX8_powerOf_87 : decode cX8_powerOf 87 = .ok (.iload_n 2, 1) := by decide +kernel
theorem rX8_powerOf_87 {R : zP} {x0 x1 x3 x4 x5 x6 x7 x8 x9 x10 : Option zV} {st : List zV} {M : zM} {a : Int} : uX8_powerOf R 87 [x0, x1, some (.inl a), x3, x4, x5, x6, x7, x8, x9, x10] st M ↔ uX8_powerOf R 88 [x0, x1, some (.inl a), x3, x4, x5, x6, x7, x8, x9, x10] (.inl a :: st) M := zU_step dX8_powerOf_87 (Or.inl rfl)
theorem dX8_powerOf_88 : decode cX8_powerOf 88 = .ok (.invokevirtual 249, 3) := by decide +kernel
theorem rX8_powerOf_88 {R : zP} {x0 x1 x2 x3 x4 x5 x6 x7 x8 x9 x10 : Option zV} {st : List zV} {M : zM} {a0 a1 a2 : zV} : uX8_powerOf R 88 [x0, x1, x2, x3, x4, x5, x6, x7, x8, x9, x10] (a2 :: a1 :: a0 :: st) M ↔ (st.length ≤ 4 ∧ zcv (zv 8 tX8_weight) [a0, a1, a2] M (fun v M => uX8_powerOf R 91 [x0, x1, x2, x3, x4, x5, x6, x7, x8, x9, x10] (v :: st) M)) := Iff.trans (zU_step dX8_powerOf_88 (Or.inl rfl)) ⟨fun h => ⟨h.2.1, zcv_of h.2.2⟩, fun h => ⟨rfl, h.1, zcv_to h.2⟩⟩
theorem dX8_powerOf_91 : decode cX8_powerOf 91 = .ok (.goto 4, 3) := by decide +kernel
theorem rX8_powerOf_91 {R : zP} {x0 x1 x2 x3 x4 x5 x6 x7 x8 x9 x10 : Option zV} {st : List zV} {M : zM} : uX8_powerOf R 91 [x0, x1, x2, x3, x4, x5, x6, x7, x8, x9, x10] st M ↔ uX8_powerOf R 95 [x0, x1, x2, x3, x4, x5, x6, x7, x8, x9, x10] st M := Iff.trans (zU_step dX8_powerOf_91 (Or.inl rfl)) ⟨fun h => h.2, fun h => ⟨by decide, h⟩⟩
theorem dX8_powerOf_94 : decode cX8_powerOf 94 = .ok (.iconst 0, 1) := by decide +kernel
theorem rX8_powerOf_94 {R : zP} {x0 x1 x2 x3 x4 x5 x6 x7 x8 x9 x10 : Option zV} {st : List zV} {M : zM} : uX8_powerOf R 94 [x0, x1, x2, x3, x4, x5, x6, x7, x8, x9, x10] st M ↔ uX8_powerOf R 95 [x0, x1, x2, x3, x4, x5, x6, x7, x8, x9, x10] (.inl (0) :: st) M := zU_step dX8_powerOf_94 (Or.inl rfl)
theorem dX8_powerOf_95 : decode cX8_powerOf 95 = .ok (.iadd, 1) := by decide +kernel
theorem rX8_powerOf_95 {R : zP} {x0 x1 x2 x3 x4 x5 x6 x7 x8 x9 x10 : Option zV} {st : List zV} {M : zM} {a b : Int} : uX8_powerOf R 95 [x0, x1, x2, x3, x4, x5, x6, x7, x8, x9, x10] (.inl b :: .inl a :: st) M ↔ uX8_powerOf R 96 [x0, x1, x2, x3, x4, x5, x6, x7, x8, x9, x10] (.inl (a + b) :: st) M := zU_step dX8_powerOf_95 (Or.inl rfl)
theorem dX8_powerOf_96 : decode cX8_powerOf 96 = .ok (.istore 8, 2) := by decide +kernel
theorem rX8_powerOf_96 {R : zP} {x0 x1 x2 x3 x4 x5 x6 x8 x9 x10 : Option zV} {st : List zV} {M : zM} {a : Int} {y : Int} : uX8_powerOf R 96 [x0, x1, x2, x3, x4, x5, x6, some (.inl y), x8, x9, x10] (.inl a :: st) M ↔ uX8_powerOf R 98 [x0, x1, x2, x3, x4, x5, x6, some (.inl y), some (.inl a), x9, x10] st M := Iff.trans (zU_step dX8_powerOf_96 (Or.inl rfl)) ⟨fun h => h.2, fun h => ⟨show 8 < 11 by decide, h⟩⟩
theorem rX8_powerOf_96z {R : zP} {x0 x1 x2 x3 x4 x5 x6 x7 x8 x9 x10 : Option zV} {st : List zV} {M : zM} {a : Int} : uX8_powerOf R 96 [x0, x1, x2, x3, x4, x5, x6, x7, x8, x9, x10] (.inl a :: st) M ↔ uX8_powerOf R 98 [x0, x1, x2, x3, x4, x5, x6, zkeep x7, some (.inl a), x9, x10] st M := Iff.trans (zU_step dX8_powerOf_96 (Or.inl rfl)) ⟨fun h => h.2, fun h => ⟨show 8 < 11 by decide, h⟩⟩
theorem dX8_powerOf_98 : decode cX8_powerOf 98 = .ok (.iload 9, 2) := by decide +kernel
theorem rX8_powerOf_98 {R : zP} {x0 x1 x2 x3 x4 x5 x6 x7 x8 x10 : Option zV} {st : List zV} {M : zM} {a : Int} : uX8_powerOf R 98 [x0, x1, x2, x3, x4, x5, x6, x7, x8, some (.inl a), x10] st M ↔ uX8_powerOf R 100 [x0, x1, x2, x3, x4, x5, x6, x7, x8, some (.inl a), x10] (.inl a :: st) M := zU_step dX8_powerOf_98 (Or.inl rfl)
theorem dX8_powerOf_100 : decode cX8_powerOf 100 = .ok (.iload 7, 2) := by decide +kernel
theorem rX8_powerOf_100 {R : zP} {x0 x1 x2 x3 x4 x5 x6 x8 x9 x10 : Option zV} {st : List zV} {M : zM} {a : Int} : uX8_powerOf R 100 [x0, x1, x2, x3, x4, x5, x6, some (.inl a), x8, x9, x10] st M ↔ uX8_powerOf R 102 [x0, x1, x2, x3, x4, x5, x6, some (.inl a), x8, x9, x10] (.inl a :: st) M := zU_step dX8_powerOf_100 (Or.inl rfl)
theorem dX8_powerOf_102 : decode cX8_powerOf 102 = .ok (.iload 10, 2) := by decide +kernel
theorem rX8_powerOf_102 {R : zP} {x0 x1 x2 x3 x4 x5 x6 x7 x8 x9 : Option zV} {st : List zV} {M : zM} {a : Int} : uX8_powerOf R 102 [x0, x1, x2, x3, x4, x5, x6, x7, x8, x9, some (.inl a)] st M ↔ uX8_powerOf R 104 [x0, x1, x2, x3, x4, x5, x6, x7, x8, x9, some (.inl a)] (.inl a :: st) M := zU_step dX8_powerOf_102 (Or.inl rfl)
theorem dX8_powerOf_104 : decode cX8_powerOf 104 = .ok (.invokestatic 187, 3) := by decide +kernel
theorem rX8_powerOf_104 {R : zP} {x0 x1 x2 x3 x4 x5 x6 x7 x8 x9 x10 : Option zV} {st : List zV} {M : zM} {a0 a1 : zV} : uX8_powerOf R 104 [x0, x1, x2, x3, x4, x5, x6, x7, x8, x9, x10] (a1 :: a0 :: st) M ↔ (st.length ≤ 4 ∧ zcv tX8_isIn [a0, a1] M (fun v M => uX8_powerOf R 107 [x0, x1, x2, x3, x4, x5, x6, x7, x8, x9, x10] (v :: st) M)) := Iff.trans (zU_step dX8_powerOf_104 (Or.inl rfl)) ⟨fun h => ⟨h.2.1, zcv_of h.2.2⟩, fun h => ⟨rfl, h.1, zcv_to h.2⟩⟩
theorem dX8_powerOf_107 : decode cX8_powerOf 107 = .ok (.ifCond .eq 7, 3) := by decide +kernel
theorem rX8_powerOf_107 {R : zP} {x0 x1 x2 x3 x4 x5 x6 x7 x8 x9 x10 : Option zV} {st : List zV} {M : zM} {a : Int} : uX8_powerOf R 107 [x0, x1, x2, x3, x4, x5, x6, x7, x8, x9, x10] (.inl a :: st) M ↔ (zIR a ∧ if a = 0 then uX8_powerOf R 114 [x0, x1, x2, x3, x4, x5, x6, x7, x8, x9, x10] st M else uX8_powerOf R 110 [x0, x1, x2, x3, x4, x5, x6, x7, x8, x9, x10] st M) := Iff.trans (zU_step dX8_powerOf_107 (Or.inl rfl)) ⟨fun h => ⟨h.1.1, (zite (c := a = 0)).mpr h.2⟩, fun h => ⟨⟨h.1, by decide⟩, (zite (c := a = 0)).mp h.2⟩⟩
theorem dX8_powerOf_110 : decode cX8_powerOf 110 = .ok (.iconst 1, 1) := by decide +kernel
theorem rX8_powerOf_110 {R : zP} {x0 x1 x2 x3 x4 x5 x6 x7 x8 x9 x10 : Option zV} {st : List zV} {M : zM} : uX8_powerOf R 110 [x0, x1, x2, x3, x4, x5, x6, x7, x8, x9, x10] st M ↔ uX8_powerOf R 111 [x0, x1, x2, x3, x4, x5, x6, x7, x8, x9, x10] (.inl (1) :: st) M := zU_step dX8_powerOf_110 (Or.inl rfl)
theorem dX8_powerOf_111 : decode cX8_powerOf 111 = .ok (.goto 4, 3) := by decide +kernel
theorem rX8_powerOf_111 {R : zP} {x0 x1 x2 x3 x4 x5 x6 x7 x8 x9 x10 : Option zV} {st : List zV} {M : zM} : uX8_powerOf R 111 [x0, x1, x2, x3, x4, x5, x6, x7, x8, x9, x10] st M ↔ uX8_powerOf R 115 [x0, x1, x2, x3, x4, x5, x6, x7, x8, x9, x10] st M := Iff.trans (zU_step dX8_powerOf_111 (Or.inl rfl)) ⟨fun h => h.2, fun h => ⟨by decide, h⟩⟩
theorem dX8_powerOf_114 : decode cX8_powerOf 114 = .ok (.iconst 0, 1) := by decide +kernel
theorem rX8_powerOf_114 {R : zP} {x0 x1 x2 x3 x4 x5 x6 x7 x8 x9 x10 : Option zV} {st : List zV} {M : zM} : uX8_powerOf R 114 [x0, x1, x2, x3, x4, x5, x6, x7, x8, x9, x10] st M ↔ uX8_powerOf R 115 [x0, x1, x2, x3, x4, x5, x6, x7, x8, x9, x10] (.inl (0) :: st) M := zU_step dX8_powerOf_114 (Or.inl rfl)
theorem dX8_powerOf_115 : decode cX8_powerOf 115 = .ok (.iadd, 1) := by decide +kernel
theorem rX8_powerOf_115 {R : zP} {x0 x1 x2 x3 x4 x5 x6 x7 x8 x9 x10 : Option zV} {st : List zV} {M : zM} {a b : Int} : uX8_powerOf R 115 [x0, x1, x2, x3, x4, x5, x6, x7, x8, x9, x10] (.inl b :: .inl a :: st) M ↔ uX8_powerOf R 116 [x0, x1, x2, x3, x4, x5, x6, x7, x8, x9, x10] (.inl (a + b) :: st) M := zU_step dX8_powerOf_115 (Or.inl rfl)
theorem dX8_powerOf_116 : decode cX8_powerOf 116 = .ok (.istore 9, 2) := by decide +kernel
theorem rX8_powerOf_116 {R : zP} {x0 x1 x2 x3 x4 x5 x6 x7 x9 x10 : Option zV} {st : List zV} {M : zM} {a : Int} {y : Int} : uX8_powerOf R 116 [x0, x1, x2, x3, x4, x5, x6, x7, some (.inl y), x9, x10] (.inl a :: st) M ↔ uX8_powerOf R 118 [x0, x1, x2, x3, x4, x5, x6, x7, some (.inl y), some (.inl a), x10] st M := Iff.trans (zU_step dX8_powerOf_116 (Or.inl rfl)) ⟨fun h => h.2, fun h => ⟨show 9 < 11 by decide, h⟩⟩
theorem rX8_powerOf_116z {R : zP} {x0 x1 x2 x3 x4 x5 x6 x7 x8 x9 x10 : Option zV} {st : List zV} {M : zM} {a : Int} : uX8_powerOf R 116 [x0, x1, x2, x3, x4, x5, x6, x7, x8, x9, x10] (.inl a :: st) M ↔ uX8_powerOf R 118 [x0, x1, x2, x3, x4, x5, x6, x7, zkeep x8, some (.inl a), x10] st M := Iff.trans (zU_step dX8_powerOf_116 (Or.inl rfl)) ⟨fun h => h.2, fun h => ⟨show 9 < 11 by decide, h⟩⟩
theorem dX8_powerOf_118 : decode cX8_powerOf 118 = .ok (.iinc 10 1, 3) := by decide +kernel
theorem rX8_powerOf_118 {R : zP} {x0 x1 x2 x3 x4 x5 x6 x7 x8 : Option zV} {st : List zV} {M : zM} {a : Int} {y : Int} : uX8_powerOf R 118 [x0, x1, x2, x3, x4, x5, x6, x7, x8, some (.inl y), some (.inl a)] st M ↔ uX8_powerOf R 121 [x0, x1, x2, x3, x4, x5, x6, x7, x8, some (.inl y), some (.inl (a + (1)))] st M := Iff.trans (zU_step dX8_powerOf_118 (Or.inl rfl)) ⟨fun h => h.2, fun h => ⟨show 10 < 11 by decide, h⟩⟩
theorem rX8_powerOf_118z {R : zP} {x0 x1 x2 x3 x4 x5 x6 x7 x8 x9 : Option zV} {st : List zV} {M : zM} {a : Int} : uX8_powerOf R 118 [x0, x1, x2, x3, x4, x5, x6, x7, x8, x9, some (.inl a)] st M ↔ uX8_powerOf R 121 [x0, x1, x2, x3, x4, x5, x6, x7, x8, zkeep x9, some (.inl (a + (1)))] st M := Iff.trans (zU_step dX8_powerOf_118 (Or.inl rfl)) ⟨fun h => h.2, fun h => ⟨show 10 < 11 by decide, h⟩⟩
theorem dX8_powerOf_121 : decode cX8_powerOf 121 = .ok (.goto (-58), 3) := by decide +kernel
theorem rX8_powerOf_121 {R : zP} {x0 x1 x2 x3 x4 x5 x6 x7 x8 x9 x10 : Option zV} {st : List zV} {M : zM} : uX8_powerOf R 121 [x0, x1, x2, x3, x4, x5, x6, x7, x8, x9, x10] st M ↔ uX8_powerOf R 63 [x0, x1, x2, x3, x4, x5, x6, x7, x8, x9, x10] st M := Iff.trans (zU_step dX8_powerOf_121 (Or.inl rfl)) ⟨fun h => h.2, fun h => ⟨by decide, h⟩⟩
theorem dX8_powerOf_124 : decode cX8_powerOf 124 = .ok (.iload 7, 2) := by decide +kernel
theorem rX8_powerOf_124 {R : zP} {x0 x1 x2 x3 x4 x5 x6 x8 x9 x10 : Option zV} {st : List zV} {M : zM} {a : Int} : uX8_powerOf R 124 [x0, x1, x2, x3, x4, x5, x6, some (.inl a), x8, x9, x10] st M ↔ uX8_powerOf R 126 [x0, x1, x2, x3, x4, x5, x6, some (.inl a), x8, x9, x10] (.inl a :: st) M := zU_step dX8_powerOf_124 (Or.inl rfl)
theorem dX8_powerOf_126 : decode cX8_powerOf 126 = .ok (.iload_n 1, 1) := by decide +kernel
theorem rX8_powerOf_126 {R : zP} {x0 x2 x3 x4 x5 x6 x7 x8 x9 x10 : Option zV} {st : List zV} {M : zM} {a : Int} : uX8_powerOf R 126 [x0, some (.inl a), x2, x3, x4, x5, x6, x7, x8, x9, x10] st M ↔ uX8_powerOf R 127 [x0, some (.inl a), x2, x3, x4, x5, x6, x7, x8, x9, x10] (.inl a :: st) M := zU_step dX8_powerOf_126 (Or.inl rfl)
theorem dX8_powerOf_127 : decode cX8_powerOf 127 = .ok (.invokestatic 187, 3) := by decide +kernel
theorem rX8_powerOf_127 {R : zP} {x0 x1 x2 x3 x4 x5 x6 x7 x8 x9 x10 : Option zV} {st : List zV} {M : zM} {a0 a1 : zV} : uX8_powerOf R 127 [x0, x1, x2, x3, x4, x5, x6, x7, x8, x9, x10] (a1 :: a0 :: st) M ↔ (st.length ≤ 4 ∧ zcv tX8_isIn [a0, a1] M (fun v M => uX8_powerOf R 130 [x0, x1, x2, x3, x4, x5, x6, x7, x8, x9, x10] (v :: st) M)) := Iff.trans (zU_step dX8_powerOf_127 (Or.inl rfl)) ⟨fun h => ⟨h.2.1, zcv_of h.2.2⟩, fun h => ⟨rfl, h.1, zcv_to h.2⟩⟩
theorem dX8_powerOf_130 : decode cX8_powerOf 130 = .ok (.ifCond .ne 32, 3) := by decide +kernel
theorem rX8_powerOf_130 {R : zP} {x0 x1 x2 x3 x4 x5 x6 x7 x8 x9 x10 : Option zV} {st : List zV} {M : zM} {a : Int} : uX8_powerOf R 130 [x0, x1, x2, x3, x4, x5, x6, x7, x8, x9, x10] (.inl a :: st) M ↔ (zIR a ∧ if a ≠ 0 then uX8_powerOf R 162 [x0, x1, x2, x3, x4, x5, x6, x7, x8, x9, x10] st M else uX8_powerOf R 133 [x0, x1, x2, x3, x4, x5, x6, x7, x8, x9, x10] st M) := Iff.trans (zU_step dX8_powerOf_130 (Or.inl rfl)) ⟨fun h => ⟨h.1.1, (zite (c := a ≠ 0)).mpr h.2⟩, fun h => ⟨⟨h.1, by decide⟩, (zite (c := a ≠ 0)).mp h.2⟩⟩
theorem dX8_powerOf_133 : decode cX8_powerOf 133 = .ok (.iconst 2, 1) := by decide +kernel
theorem rX8_powerOf_133 {R : zP} {x0 x1 x2 x3 x4 x5 x6 x7 x8 x9 x10 : Option zV} {st : List zV} {M : zM} : uX8_powerOf R 133 [x0, x1, x2, x3, x4, x5, x6, x7, x8, x9, x10] st M ↔ uX8_powerOf R 134 [x0, x1, x2, x3, x4, x5, x6, x7, x8, x9, x10] (.inl (2) :: st) M := zU_step dX8_powerOf_133 (Or.inl rfl)
theorem dX8_powerOf_134 : decode cX8_powerOf 134 = .ok (.iload 8, 2) := by decide +kernel
theorem rX8_powerOf_134 {R : zP} {x0 x1 x2 x3 x4 x5 x6 x7 x9 x10 : Option zV} {st : List zV} {M : zM} {a : Int} : uX8_powerOf R 134 [x0, x1, x2, x3, x4, x5, x6, x7, some (.inl a), x9, x10] st M ↔ uX8_powerOf R 136 [x0, x1, x2, x3, x4, x5, x6, x7, some (.inl a), x9, x10] (.inl a :: st) M := zU_step dX8_powerOf_134 (Or.inl rfl)
theorem dX8_powerOf_136 : decode cX8_powerOf 136 = .ok (.imul, 1) := by decide +kernel
theorem rX8_powerOf_136 {R : zP} {x0 x1 x2 x3 x4 x5 x6 x7 x8 x9 x10 : Option zV} {st : List zV} {M : zM} {a b : Int} : uX8_powerOf R 136 [x0, x1, x2, x3, x4, x5, x6, x7, x8, x9, x10] (.inl b :: .inl a :: st) M ↔ uX8_powerOf R 137 [x0, x1, x2, x3, x4, x5, x6, x7, x8, x9, x10] (.inl (a * b) :: st) M := zU_step dX8_powerOf_136 (Or.inl rfl)
theorem dX8_powerOf_137 : decode cX8_powerOf 137 = .ok (.iload 4, 2) := by decide +kernel
theorem rX8_powerOf_137 {R : zP} {x0 x1 x2 x3 x5 x6 x7 x8 x9 x10 : Option zV} {st : List zV} {M : zM} {a : Int} : uX8_powerOf R 137 [x0, x1, x2, x3, some (.inl a), x5, x6, x7, x8, x9, x10] st M ↔ uX8_powerOf R 139 [x0, x1, x2, x3, some (.inl a), x5, x6, x7, x8, x9, x10] (.inl a :: st) M := zU_step dX8_powerOf_137 (Or.inl rfl)
theorem dX8_powerOf_139 : decode cX8_powerOf 139 = .ok (.if_icmp .gt 23, 3) := by decide +kernel
theorem rX8_powerOf_139 {R : zP} {x0 x1 x2 x3 x4 x5 x6 x7 x8 x9 x10 : Option zV} {st : List zV} {M : zM} {a b : Int} : uX8_powerOf R 139 [x0, x1, x2, x3, x4, x5, x6, x7, x8, x9, x10] (.inl b :: .inl a :: st) M ↔ ((zIR a ∧ zIR b) ∧ if b < a then uX8_powerOf R 162 [x0, x1, x2, x3, x4, x5, x6, x7, x8, x9, x10] st M else uX8_powerOf R 142 [x0, x1, x2, x3, x4, x5, x6, x7, x8, x9, x10] st M) := Iff.trans (zU_step dX8_powerOf_139 (Or.inl rfl)) ⟨fun h => ⟨⟨h.1.1, h.1.2.1⟩, (zite (c := b < a)).mpr h.2⟩, fun h => ⟨⟨h.1.1, h.1.2, by decide⟩, (zite (c := b < a)).mp h.2⟩⟩
theorem dX8_powerOf_142 : decode cX8_powerOf 142 = .ok (.iconst 2, 1) := by decide +kernel
theorem rX8_powerOf_142 {R : zP} {x0 x1 x2 x3 x4 x5 x6 x7 x8 x9 x10 : Option zV} {st : List zV} {M : zM} : uX8_powerOf R 142 [x0, x1, x2, x3, x4, x5, x6, x7, x8, x9, x10] st M ↔ uX8_powerOf R 143 [x0, x1, x2, x3, x4, x5, x6, x7, x8, x9, x10] (.inl (2) :: st) M := zU_step dX8_powerOf_142 (Or.inl rfl)
theorem dX8_powerOf_143 : decode cX8_powerOf 143 = .ok (.iload 8, 2) := by decide +kernel
theorem rX8_powerOf_143 {R : zP} {x0 x1 x2 x3 x4 x5 x6 x7 x9 x10 : Option zV} {st : List zV} {M : zM} {a : Int} : uX8_powerOf R 143 [x0, x1, x2, x3, x4, x5, x6, x7, some (.inl a), x9, x10] st M ↔ uX8_powerOf R 145 [x0, x1, x2, x3, x4, x5, x6, x7, some (.inl a), x9, x10] (.inl a :: st) M := zU_step dX8_powerOf_143 (Or.inl rfl)
theorem dX8_powerOf_145 : decode cX8_powerOf 145 = .ok (.aload_n 0, 1) := by decide +kernel
theorem rX8_powerOf_145 {R : zP} {x1 x2 x3 x4 x5 x6 x7 x8 x9 x10 : Option zV} {st : List zV} {M : zM} {a : Nat} : uX8_powerOf R 145 [some (.inr (.inr a)), x1, x2, x3, x4, x5, x6, x7, x8, x9, x10] st M ↔ uX8_powerOf R 146 [some (.inr (.inr a)), x1, x2, x3, x4, x5, x6, x7, x8, x9, x10] (.inr (.inr a) :: st) M := zU_step dX8_powerOf_145 (Or.inl rfl)
theorem dX8_powerOf_146 : decode cX8_powerOf 146 = .ok (.iload_n 1, 1) := by decide +kernel
theorem rX8_powerOf_146 {R : zP} {x0 x2 x3 x4 x5 x6 x7 x8 x9 x10 : Option zV} {st : List zV} {M : zM} {a : Int} : uX8_powerOf R 146 [x0, some (.inl a), x2, x3, x4, x5, x6, x7, x8, x9, x10] st M ↔ uX8_powerOf R 147 [x0, some (.inl a), x2, x3, x4, x5, x6, x7, x8, x9, x10] (.inl a :: st) M := zU_step dX8_powerOf_146 (Or.inl rfl)
theorem dX8_powerOf_147 : decode cX8_powerOf 147 = .ok (.iload_n 2, 1) := by decide +kernel
theorem rX8_powerOf_147 {R : zP} {x0 x1 x3 x4 x5 x6 x7 x8 x9 x10 : Option zV} {st : List zV} {M : zM} {a : Int} : uX8_powerOf R 147 [x0, x1, some (.inl a), x3, x4, x5, x6, x7, x8, x9, x10] st M ↔ uX8_powerOf R 148 [x0, x1, some (.inl a), x3, x4, x5, x6, x7, x8, x9, x10] (.inl a :: st) M := zU_step dX8_powerOf_147 (Or.inl rfl)
theorem dX8_powerOf_148 : decode cX8_powerOf 148 = .ok (.invokevirtual 249, 3) := by decide +kernel
theorem rX8_powerOf_148 {R : zP} {x0 x1 x2 x3 x4 x5 x6 x7 x8 x9 x10 : Option zV} {st : List zV} {M : zM} {a0 a1 a2 : zV} : uX8_powerOf R 148 [x0, x1, x2, x3, x4, x5, x6, x7, x8, x9, x10] (a2 :: a1 :: a0 :: st) M ↔ (st.length ≤ 4 ∧ zcv (zv 8 tX8_weight) [a0, a1, a2] M (fun v M => uX8_powerOf R 151 [x0, x1, x2, x3, x4, x5, x6, x7, x8, x9, x10] (v :: st) M)) := Iff.trans (zU_step dX8_powerOf_148 (Or.inl rfl)) ⟨fun h => ⟨h.2.1, zcv_of h.2.2⟩, fun h => ⟨rfl, h.1, zcv_to h.2⟩⟩
theorem dX8_powerOf_151 : decode cX8_powerOf 151 = .ok (.iadd, 1) := by decide +kernel
theorem rX8_powerOf_151 {R : zP} {x0 x1 x2 x3 x4 x5 x6 x7 x8 x9 x10 : Option zV} {st : List zV} {M : zM} {a b : Int} : uX8_powerOf R 151 [x0, x1, x2, x3, x4, x5, x6, x7, x8, x9, x10] (.inl b :: .inl a :: st) M ↔ uX8_powerOf R 152 [x0, x1, x2, x3, x4, x5, x6, x7, x8, x9, x10] (.inl (a + b) :: st) M := zU_step dX8_powerOf_151 (Or.inl rfl)
theorem dX8_powerOf_152 : decode cX8_powerOf 152 = .ok (.imul, 1) := by decide +kernel
theorem rX8_powerOf_152 {R : zP} {x0 x1 x2 x3 x4 x5 x6 x7 x8 x9 x10 : Option zV} {st : List zV} {M : zM} {a b : Int} : uX8_powerOf R 152 [x0, x1, x2, x3, x4, x5, x6, x7, x8, x9, x10] (.inl b :: .inl a :: st) M ↔ uX8_powerOf R 153 [x0, x1, x2, x3, x4, x5, x6, x7, x8, x9, x10] (.inl (a * b) :: st) M := zU_step dX8_powerOf_152 (Or.inl rfl)
theorem dX8_powerOf_153 : decode cX8_powerOf 153 = .ok (.iload 4, 2) := by decide +kernel
theorem rX8_powerOf_153 {R : zP} {x0 x1 x2 x3 x5 x6 x7 x8 x9 x10 : Option zV} {st : List zV} {M : zM} {a : Int} : uX8_powerOf R 153 [x0, x1, x2, x3, some (.inl a), x5, x6, x7, x8, x9, x10] st M ↔ uX8_powerOf R 155 [x0, x1, x2, x3, some (.inl a), x5, x6, x7, x8, x9, x10] (.inl a :: st) M := zU_step dX8_powerOf_153 (Or.inl rfl)
theorem dX8_powerOf_155 : decode cX8_powerOf 155 = .ok (.if_icmp .le 7, 3) := by decide +kernel
theorem rX8_powerOf_155 {R : zP} {x0 x1 x2 x3 x4 x5 x6 x7 x8 x9 x10 : Option zV} {st : List zV} {M : zM} {a b : Int} : uX8_powerOf R 155 [x0, x1, x2, x3, x4, x5, x6, x7, x8, x9, x10] (.inl b :: .inl a :: st) M ↔ ((zIR a ∧ zIR b) ∧ if a ≤ b then uX8_powerOf R 162 [x0, x1, x2, x3, x4, x5, x6, x7, x8, x9, x10] st M else uX8_powerOf R 158 [x0, x1, x2, x3, x4, x5, x6, x7, x8, x9, x10] st M) := Iff.trans (zU_step dX8_powerOf_155 (Or.inl rfl)) ⟨fun h => ⟨⟨h.1.1, h.1.2.1⟩, (zite (c := a ≤ b)).mpr h.2⟩, fun h => ⟨⟨h.1.1, h.1.2, by decide⟩, (zite (c := a ≤ b)).mp h.2⟩⟩
theorem dX8_powerOf_158 : decode cX8_powerOf 158 = .ok (.iconst 1, 1) := by decide +kernel
theorem rX8_powerOf_158 {R : zP} {x0 x1 x2 x3 x4 x5 x6 x7 x8 x9 x10 : Option zV} {st : List zV} {M : zM} : uX8_powerOf R 158 [x0, x1, x2, x3, x4, x5, x6, x7, x8, x9, x10] st M ↔ uX8_powerOf R 159 [x0, x1, x2, x3, x4, x5, x6, x7, x8, x9, x10] (.inl (1) :: st) M := zU_step dX8_powerOf_158 (Or.inl rfl)
theorem dX8_powerOf_159 : decode cX8_powerOf 159 = .ok (.goto 4, 3) := by decide +kernel
theorem rX8_powerOf_159 {R : zP} {x0 x1 x2 x3 x4 x5 x6 x7 x8 x9 x10 : Option zV} {st : List zV} {M : zM} : uX8_powerOf R 159 [x0, x1, x2, x3, x4, x5, x6, x7, x8, x9, x10] st M ↔ uX8_powerOf R 163 [x0, x1, x2, x3, x4, x5, x6, x7, x8, x9, x10] st M := Iff.trans (zU_step dX8_powerOf_159 (Or.inl rfl)) ⟨fun h => h.2, fun h => ⟨by decide, h⟩⟩
theorem dX8_powerOf_162 : decode cX8_powerOf 162 = .ok (.iconst 0, 1) := by decide +kernel
theorem rX8_powerOf_162 {R : zP} {x0 x1 x2 x3 x4 x5 x6 x7 x8 x9 x10 : Option zV} {st : List zV} {M : zM} : uX8_powerOf R 162 [x0, x1, x2, x3, x4, x5, x6, x7, x8, x9, x10] st M ↔ uX8_powerOf R 163 [x0, x1, x2, x3, x4, x5, x6, x7, x8, x9, x10] (.inl (0) :: st) M := zU_step dX8_powerOf_162 (Or.inl rfl)
theorem dX8_powerOf_163 : decode cX8_powerOf 163 = .ok (.istore 10, 2) := by decide +kernel
theorem rX8_powerOf_163 {R : zP} {x0 x1 x2 x3 x4 x5 x6 x7 x8 x10 : Option zV} {st : List zV} {M : zM} {a : Int} {y : Int} : uX8_powerOf R 163 [x0, x1, x2, x3, x4, x5, x6, x7, x8, some (.inl y), x10] (.inl a :: st) M ↔ uX8_powerOf R 165 [x0, x1, x2, x3, x4, x5, x6, x7, x8, some (.inl y), some (.inl a)] st M := Iff.trans (zU_step dX8_powerOf_163 (Or.inl rfl)) ⟨fun h => h.2, fun h => ⟨show 10 < 11 by decide, h⟩⟩
theorem rX8_powerOf_163z {R : zP} {x0 x1 x2 x3 x4 x5 x6 x7 x8 x9 x10 : Option zV} {st : List zV} {M : zM} {a : Int} : uX8_powerOf R 163 [x0, x1, x2, x3, x4, x5, x6, x7, x8, x9, x10] (.inl a :: st) M ↔ uX8_powerOf R 165 [x0, x1, x2, x3, x4, x5, x6, x7, x8, zkeep x9, some (.inl a)] st M := Iff.trans (zU_step dX8_powerOf_163 (Or.inl rfl)) ⟨fun h => h.2, fun h => ⟨show 10 < 11 by decide, h⟩⟩
theorem dX8_powerOf_165 : decode cX8_powerOf 165 = .ok (.lload 5, 2) := by decide +kernel
theorem rX8_powerOf_165 {R : zP} {x0 x1 x2 x3 x4 x6 x7 x8 x9 x10 : Option zV} {st : List zV} {M : zM} {a : Int} : uX8_powerOf R 165 [x0, x1, x2, x3, x4, some (.inr (.inl a)), x6, x7, x8, x9, x10] st M ↔ uX8_powerOf R 167 [x0, x1, x2, x3, x4, some (.inr (.inl a)), x6, x7, x8, x9, x10] (.inr (.inl a) :: st) M := zU_step dX8_powerOf_165 (Or.inl rfl)
theorem dX8_powerOf_167 : decode cX8_powerOf 167 = .ok (.iload 10, 2) := by decide +kernel
theorem rX8_powerOf_167 {R : zP} {x0 x1 x2 x3 x4 x5 x6 x7 x8 x9 : Option zV} {st : List zV} {M : zM} {a : Int} : uX8_powerOf R 167 [x0, x1, x2, x3, x4, x5, x6, x7, x8, x9, some (.inl a)] st M ↔ uX8_powerOf R 169 [x0, x1, x2, x3, x4, x5, x6, x7, x8, x9, some (.inl a)] (.inl a :: st) M := zU_step dX8_powerOf_167 (Or.inl rfl)
theorem dX8_powerOf_169 : decode cX8_powerOf 169 = .ok (.ifCond .eq 24, 3) := by decide +kernel
theorem rX8_powerOf_169 {R : zP} {x0 x1 x2 x3 x4 x5 x6 x7 x8 x9 x10 : Option zV} {st : List zV} {M : zM} {a : Int} : uX8_powerOf R 169 [x0, x1, x2, x3, x4, x5, x6, x7, x8, x9, x10] (.inl a :: st) M ↔ (zIR a ∧ if a = 0 then uX8_powerOf R 193 [x0, x1, x2, x3, x4, x5, x6, x7, x8, x9, x10] st M else uX8_powerOf R 172 [x0, x1, x2, x3, x4, x5, x6, x7, x8, x9, x10] st M) := Iff.trans (zU_step dX8_powerOf_169 (Or.inl rfl)) ⟨fun h => ⟨h.1.1, (zite (c := a = 0)).mpr h.2⟩, fun h => ⟨⟨h.1, by decide⟩, (zite (c := a = 0)).mp h.2⟩⟩
theorem dX8_powerOf_172 : decode cX8_powerOf 172 = .ok (.iload 9, 2) := by decide +kernel
theorem rX8_powerOf_172 {R : zP} {x0 x1 x2 x3 x4 x5 x6 x7 x8 x10 : Option zV} {st : List zV} {M : zM} {a : Int} : uX8_powerOf R 172 [x0, x1, x2, x3, x4, x5, x6, x7, x8, some (.inl a), x10] st M ↔ uX8_powerOf R 174 [x0, x1, x2, x3, x4, x5, x6, x7, x8, some (.inl a), x10] (.inl a :: st) M := zU_step dX8_powerOf_172 (Or.inl rfl)
theorem dX8_powerOf_174 : decode cX8_powerOf 174 = .ok (.invokestatic 252, 3) := by decide +kernel
theorem rX8_powerOf_174 {R : zP} {x0 x1 x2 x3 x4 x5 x6 x7 x8 x9 x10 : Option zV} {st : List zV} {M : zM} {a0 : zV} : uX8_powerOf R 174 [x0, x1, x2, x3, x4, x5, x6, x7, x8, x9, x10] (a0 :: st) M ↔ (st.length ≤ 4 ∧ zcv tX8_rows [a0] M (fun v M => uX8_powerOf R 177 [x0, x1, x2, x3, x4, x5, x6, x7, x8, x9, x10] (v :: st) M)) := Iff.trans (zU_step dX8_powerOf_174 (Or.inl rfl)) ⟨fun h => ⟨h.2.1, zcv_of h.2.2⟩, fun h => ⟨rfl, h.1, zcv_to h.2⟩⟩
theorem dX8_powerOf_177 : decode cX8_powerOf 177 = .ok (.aload_n 0, 1) := by decide +kernel
theorem rX8_powerOf_177 {R : zP} {x1 x2 x3 x4 x5 x6 x7 x8 x9 x10 : Option zV} {st : List zV} {M : zM} {a : Nat} : uX8_powerOf R 177 [some (.inr (.inr a)), x1, x2, x3, x4, x5, x6, x7, x8, x9, x10] st M ↔ uX8_powerOf R 178 [some (.inr (.inr a)), x1, x2, x3, x4, x5, x6, x7, x8, x9, x10] (.inr (.inr a) :: st) M := zU_step dX8_powerOf_177 (Or.inl rfl)
theorem dX8_powerOf_178 : decode cX8_powerOf 178 = .ok (.getfield 127, 3) := by decide +kernel
theorem rX8_powerOf_178 {R : zP} {x0 x1 x2 x3 x4 x5 x6 x7 x8 x9 x10 : Option zV} {st : List zV} {M : zM} {r : Nat} : uX8_powerOf R 178 [x0, x1, x2, x3, x4, x5, x6, x7, x8, x9, x10] (.inr (.inr r) :: st) M ↔ zgetx fX8 127 r M (fun v => uX8_powerOf R 181 [x0, x1, x2, x3, x4, x5, x6, x7, x8, x9, x10] (v :: st) M) := zU_step dX8_powerOf_178 (Or.inl rfl)
theorem dX8_powerOf_181 : decode cX8_powerOf 181 = .ok (.iconst 1, 1) := by decide +kernel
theorem rX8_powerOf_181 {R : zP} {x0 x1 x2 x3 x4 x5 x6 x7 x8 x9 x10 : Option zV} {st : List zV} {M : zM} : uX8_powerOf R 181 [x0, x1, x2, x3, x4, x5, x6, x7, x8, x9, x10] st M ↔ uX8_powerOf R 182 [x0, x1, x2, x3, x4, x5, x6, x7, x8, x9, x10] (.inl (1) :: st) M := zU_step dX8_powerOf_181 (Or.inl rfl)
theorem dX8_powerOf_182 : decode cX8_powerOf 182 = .ok (.isub, 1) := by decide +kernel
theorem rX8_powerOf_182 {R : zP} {x0 x1 x2 x3 x4 x5 x6 x7 x8 x9 x10 : Option zV} {st : List zV} {M : zM} {a b : Int} : uX8_powerOf R 182 [x0, x1, x2, x3, x4, x5, x6, x7, x8, x9, x10] (.inl b :: .inl a :: st) M ↔ uX8_powerOf R 183 [x0, x1, x2, x3, x4, x5, x6, x7, x8, x9, x10] (.inl (a - b) :: st) M := zU_step dX8_powerOf_182 (Or.inl rfl)
theorem dX8_powerOf_183 : decode cX8_powerOf 183 = .ok (.iload 9, 2) := by decide +kernel
theorem rX8_powerOf_183 {R : zP} {x0 x1 x2 x3 x4 x5 x6 x7 x8 x10 : Option zV} {st : List zV} {M : zM} {a : Int} : uX8_powerOf R 183 [x0, x1, x2, x3, x4, x5, x6, x7, x8, some (.inl a), x10] st M ↔ uX8_powerOf R 185 [x0, x1, x2, x3, x4, x5, x6, x7, x8, some (.inl a), x10] (.inl a :: st) M := zU_step dX8_powerOf_183 (Or.inl rfl)
theorem dX8_powerOf_185 : decode cX8_powerOf 185 = .ok (.isub, 1) := by decide +kernel
theorem rX8_powerOf_185 {R : zP} {x0 x1 x2 x3 x4 x5 x6 x7 x8 x9 x10 : Option zV} {st : List zV} {M : zM} {a b : Int} : uX8_powerOf R 185 [x0, x1, x2, x3, x4, x5, x6, x7, x8, x9, x10] (.inl b :: .inl a :: st) M ↔ uX8_powerOf R 186 [x0, x1, x2, x3, x4, x5, x6, x7, x8, x9, x10] (.inl (a - b) :: st) M := zU_step dX8_powerOf_185 (Or.inl rfl)
theorem dX8_powerOf_186 : decode cX8_powerOf 186 = .ok (.invokestatic 252, 3) := by decide +kernel
theorem rX8_powerOf_186 {R : zP} {x0 x1 x2 x3 x4 x5 x6 x7 x8 x9 x10 : Option zV} {st : List zV} {M : zM} {a0 : zV} : uX8_powerOf R 186 [x0, x1, x2, x3, x4, x5, x6, x7, x8, x9, x10] (a0 :: st) M ↔ (st.length ≤ 4 ∧ zcv tX8_rows [a0] M (fun v M => uX8_powerOf R 189 [x0, x1, x2, x3, x4, x5, x6, x7, x8, x9, x10] (v :: st) M)) := Iff.trans (zU_step dX8_powerOf_186 (Or.inl rfl)) ⟨fun h => ⟨h.2.1, zcv_of h.2.2⟩, fun h => ⟨rfl, h.1, zcv_to h.2⟩⟩
theorem dX8_powerOf_189 : decode cX8_powerOf 189 = .ok (.lmul, 1) := by decide +kernel
theorem rX8_powerOf_189 {R : zP} {x0 x1 x2 x3 x4 x5 x6 x7 x8 x9 x10 : Option zV} {st : List zV} {M : zM} {a b : Int} : uX8_powerOf R 189 [x0, x1, x2, x3, x4, x5, x6, x7, x8, x9, x10] (.inr (.inl b) :: .inr (.inl a) :: st) M ↔ uX8_powerOf R 190 [x0, x1, x2, x3, x4, x5, x6, x7, x8, x9, x10] (.inr (.inl (a * b)) :: st) M := zU_step dX8_powerOf_189 (Or.inl rfl)
theorem dX8_powerOf_190 : decode cX8_powerOf 190 = .ok (.goto 4, 3) := by decide +kernel
theorem rX8_powerOf_190 {R : zP} {x0 x1 x2 x3 x4 x5 x6 x7 x8 x9 x10 : Option zV} {st : List zV} {M : zM} : uX8_powerOf R 190 [x0, x1, x2, x3, x4, x5, x6, x7, x8, x9, x10] st M ↔ uX8_powerOf R 194 [x0, x1, x2, x3, x4, x5, x6, x7, x8, x9, x10] st M := Iff.trans (zU_step dX8_powerOf_190 (Or.inl rfl)) ⟨fun h => h.2, fun h => ⟨by decide, h⟩⟩
theorem dX8_powerOf_193 : decode cX8_powerOf 193 = .ok (.lconst 0, 1) := by decide +kernel
theorem rX8_powerOf_193 {R : zP} {x0 x1 x2 x3 x4 x5 x6 x7 x8 x9 x10 : Option zV} {st : List zV} {M : zM} : uX8_powerOf R 193 [x0, x1, x2, x3, x4, x5, x6, x7, x8, x9, x10] st M ↔ uX8_powerOf R 194 [x0, x1, x2, x3, x4, x5, x6, x7, x8, x9, x10] (.inr (.inl 0) :: st) M := zU_step dX8_powerOf_193 (Or.inl rfl)
theorem dX8_powerOf_194 : decode cX8_powerOf 194 = .ok (.ladd, 1) := by decide +kernel
theorem rX8_powerOf_194 {R : zP} {x0 x1 x2 x3 x4 x5 x6 x7 x8 x9 x10 : Option zV} {st : List zV} {M : zM} {a b : Int} : uX8_powerOf R 194 [x0, x1, x2, x3, x4, x5, x6, x7, x8, x9, x10] (.inr (.inl b) :: .inr (.inl a) :: st) M ↔ uX8_powerOf R 195 [x0, x1, x2, x3, x4, x5, x6, x7, x8, x9, x10] (.inr (.inl (a + b)) :: st) M := zU_step dX8_powerOf_194 (Or.inl rfl)
theorem dX8_powerOf_195 : decode cX8_powerOf 195 = .ok (.lstore 5, 2) := by decide +kernel
theorem rX8_powerOf_195 {R : zP} {x0 x1 x2 x3 x5 x6 x7 x8 x9 x10 : Option zV} {st : List zV} {M : zM} {a : Int} {y : Int} : uX8_powerOf R 195 [x0, x1, x2, x3, some (.inl y), x5, x6, x7, x8, x9, x10] (.inr (.inl a) :: st) M ↔ uX8_powerOf R 197 [x0, x1, x2, x3, some (.inl y), some (.inr (.inl a)), none, x7, x8, x9, x10] st M := Iff.trans (zU_step dX8_powerOf_195 (Or.inl rfl)) ⟨fun h => h.2, fun h => ⟨show 5 + 1 < 11 by decide, h⟩⟩
theorem rX8_powerOf_195z {R : zP} {x0 x1 x2 x3 x4 x5 x6 x7 x8 x9 x10 : Option zV} {st : List zV} {M : zM} {a : Int} : uX8_powerOf R 195 [x0, x1, x2, x3, x4, x5, x6, x7, x8, x9, x10] (.inr (.inl a) :: st) M ↔ uX8_powerOf R 197 [x0, x1, x2, x3, zkeep x4, some (.inr (.inl a)), none, x7, x8, x9, x10] st M := Iff.trans (zU_step dX8_powerOf_195 (Or.inl rfl)) ⟨fun h => h.2, fun h => ⟨show 5 + 1 < 11 by decide, h⟩⟩
theorem dX8_powerOf_197 : decode cX8_powerOf 197 = .ok (.iinc 7 1, 3) := by decide +kernel
theorem rX8_powerOf_197 {R : zP} {x0 x1 x2 x3 x4 x5 x8 x9 x10 : Option zV} {st : List zV} {M : zM} {a : Int} : uX8_powerOf R 197 [x0, x1, x2, x3, x4, x5, none, some (.inl a), x8, x9, x10] st M ↔ uX8_powerOf R 200 [x0, x1, x2, x3, x4, x5, none, some (.inl (a + (1))), x8, x9, x10] st M := Iff.trans (zU_step dX8_powerOf_197 (Or.inl rfl)) ⟨fun h => h.2, fun h => ⟨show 7 < 11 by decide, h⟩⟩
theorem rX8_powerOf_197z {R : zP} {x0 x1 x2 x3 x4 x5 x6 x8 x9 x10 : Option zV} {st : List zV} {M : zM} {a : Int} : uX8_powerOf R 197 [x0, x1, x2, x3, x4, x5, x6, some (.inl a), x8, x9, x10] st M ↔ uX8_powerOf R 200 [x0, x1, x2, x3, x4, x5, zkeep x6, some (.inl (a + (1))), x8, x9, x10] st M := Iff.trans (zU_step dX8_powerOf_197 (Or.inl rfl)) ⟨fun h => h.2, fun h => ⟨show 7 < 11 by decide, h⟩⟩
theorem dX8_powerOf_200 : decode cX8_powerOf 200 = .ok (.goto (-157), 3) := by decide +kernel
theorem rX8_powerOf_200 {R : zP} {x0 x1 x2 x3 x4 x5 x6 x7 x8 x9 x10 : Option zV} {st : List zV} {M : zM} : uX8_powerOf R 200 [x0, x1, x2, x3, x4, x5, x6, x7, x8, x9, x10] st M ↔ uX8_powerOf R 43 [x0, x1, x2, x3, x4, x5, x6, x7, x8, x9, x10] st M := Iff.trans (zU_step dX8_powerOf_200 (Or.inl rfl)) ⟨fun h => h.2, fun h => ⟨by decide, h⟩⟩
theorem dX8_powerOf_203 : decode cX8_powerOf 203 = .ok (.lload 5, 2) := by decide +kernel
theorem rX8_powerOf_203 {R : zP} {x0 x1 x2 x3 x4 x6 x7 x8 x9 x10 : Option zV} {st : List zV} {M : zM} {a : Int} : uX8_powerOf R 203 [x0, x1, x2, x3, x4, some (.inr (.inl a)), x6, x7, x8, x9, x10] st M ↔ uX8_powerOf R 205 [x0, x1, x2, x3, x4, some (.inr (.inl a)), x6, x7, x8, x9, x10] (.inr (.inl a) :: st) M := zU_step dX8_powerOf_203 (Or.inl rfl)
theorem dX8_powerOf_205 : decode cX8_powerOf 205 = .ok (.aload_n 0, 1) := by decide +kernel
theorem rX8_powerOf_205 {R : zP} {x1 x2 x3 x4 x5 x6 x7 x8 x9 x10 : Option zV} {st : List zV} {M : zM} {a : Nat} : uX8_powerOf R 205 [some (.inr (.inr a)), x1, x2, x3, x4, x5, x6, x7, x8, x9, x10] st M ↔ uX8_powerOf R 206 [some (.inr (.inr a)), x1, x2, x3, x4, x5, x6, x7, x8, x9, x10] (.inr (.inr a) :: st) M := zU_step dX8_powerOf_205 (Or.inl rfl)
theorem dX8_powerOf_206 : decode cX8_powerOf 206 = .ok (.getfield 127, 3) := by decide +kernel
theorem rX8_powerOf_206 {R : zP} {x0 x1 x2 x3 x4 x5 x6 x7 x8 x9 x10 : Option zV} {st : List zV} {M : zM} {r : Nat} : uX8_powerOf R 206 [x0, x1, x2, x3, x4, x5, x6, x7, x8, x9, x10] (.inr (.inr r) :: st) M ↔ zgetx fX8 127 r M (fun v => uX8_powerOf R 209 [x0, x1, x2, x3, x4, x5, x6, x7, x8, x9, x10] (v :: st) M) := zU_step dX8_powerOf_206 (Or.inl rfl)
theorem dX8_powerOf_209 : decode cX8_powerOf 209 = .ok (.invokestatic 252, 3) := by decide +kernel
theorem rX8_powerOf_209 {R : zP} {x0 x1 x2 x3 x4 x5 x6 x7 x8 x9 x10 : Option zV} {st : List zV} {M : zM} {a0 : zV} : uX8_powerOf R 209 [x0, x1, x2, x3, x4, x5, x6, x7, x8, x9, x10] (a0 :: st) M ↔ (st.length ≤ 4 ∧ zcv tX8_rows [a0] M (fun v M => uX8_powerOf R 212 [x0, x1, x2, x3, x4, x5, x6, x7, x8, x9, x10] (v :: st) M)) := Iff.trans (zU_step dX8_powerOf_209 (Or.inl rfl)) ⟨fun h => ⟨h.2.1, zcv_of h.2.2⟩, fun h => ⟨rfl, h.1, zcv_to h.2⟩⟩
theorem dX8_powerOf_212 : decode cX8_powerOf 212 = .ok (.iload_n 3, 1) := by decide +kernel
theorem rX8_powerOf_212 {R : zP} {x0 x1 x2 x4 x5 x6 x7 x8 x9 x10 : Option zV} {st : List zV} {M : zM} {a : Int} : uX8_powerOf R 212 [x0, x1, x2, some (.inl a), x4, x5, x6, x7, x8, x9, x10] st M ↔ uX8_powerOf R 213 [x0, x1, x2, some (.inl a), x4, x5, x6, x7, x8, x9, x10] (.inl a :: st) M := zU_step dX8_powerOf_212 (Or.inl rfl)
theorem dX8_powerOf_213 : decode cX8_powerOf 213 = .ok (.invokestatic 256, 3) := by decide +kernel
theorem rX8_powerOf_213 {R : zP} {x0 x1 x2 x3 x4 x5 x6 x7 x8 x9 x10 : Option zV} {st : List zV} {M : zM} {a0 a1 a2 : zV} : uX8_powerOf R 213 [x0, x1, x2, x3, x4, x5, x6, x7, x8, x9, x10] (a2 :: a1 :: a0 :: st) M ↔ (st.length ≤ 4 ∧ zcv tX8_lowest [a0, a1, a2] M (fun v M => uX8_powerOf R 216 [x0, x1, x2, x3, x4, x5, x6, x7, x8, x9, x10] (v :: st) M)) := Iff.trans (zU_step dX8_powerOf_213 (Or.inl rfl)) ⟨fun h => ⟨h.2.1, zcv_of h.2.2⟩, fun h => ⟨rfl, h.1, zcv_to h.2⟩⟩
theorem dX8_powerOf_216 : decode cX8_powerOf 216 = .ok (.lreturn, 1) := by decide +kernel
theorem rX8_powerOf_216 {R : zP} {x0 x1 x2 x3 x4 x5 x6 x7 x8 x9 x10 : Option zV} {M : zM} {a : Int} : uX8_powerOf R 216 [x0, x1, x2, x3, x4, x5, x6, x7, x8, x9, x10] [.inr (.inl a)] M ↔ R (some (.inr (.inl a))) M := Iff.trans (zU_step dX8_powerOf_216 (Or.inl rfl)) ⟨fun h => h.2.2, fun h => ⟨rfl, rfl, h⟩⟩
theorem eX8_powerOf {R : zP} {M : zM} {a0 : Nat} {p0 : Int} {p1 : Int} {p2 : Int} : tX8_powerOf [.inr (.inr a0), .inl p0, .inl p1, .inl p2] M R ↔ uX8_powerOf R 0 [some (.inr (.inr a0)), some (.inl p0), some (.inl p1), some (.inl p2), none, none, none, none, none, none, none] [] M := ⟨fun h => h.2, fun h => ⟨show 4 ≤ 11 by decide, h⟩⟩
