def uX7_spare (R : zP) : zK := zU fX7 vX7_spare cX7_spare R
theorem dX7_spare_0 : decode cX7_spare 0 = .ok (.iload_n 1, 1) := by decide +kernel
theorem rX7_spare_0 {R : zP} {x0 : Option zV} {st : List zV} {M : zM} {a : Int} : uX7_spare R 0 [x0, some (.inl a)] st M ↔ uX7_spare R 1 [x0, some (.inl a)] (.inl a :: st) M := zU_step dX7_spare_0 (Or.inl rfl)
theorem dX7_spare_1 : decode cX7_spare 1 = .ok (.iconst (-1), 1) := by decide +kernel
theorem rX7_spare_1 {R : zP} {x0 x1 : Option zV} {st : List zV} {M : zM} : uX7_spare R 1 [x0, x1] st M ↔ uX7_spare R 2 [x0, x1] (.inl (-1) :: st) M := zU_step dX7_spare_1 (Or.inl rfl)
theorem dX7_spare_2 : decode cX7_spare 2 = .ok (.if_icmp .lt 8, 3) := by decide +kernel
theorem rX7_spare_2 {R : zP} {x0 x1 : Option zV} {st : List zV} {M : zM} {a b : Int} : uX7_spare R 2 [x0, x1] (.inl b :: .inl a :: st) M ↔ ((zIR a ∧ zIR b) ∧ (a < b → uX7_spare R 10 [x0, x1] st M) ∧ (¬ a < b → uX7_spare R 5 [x0, x1] st M)) := Iff.trans (zU_step dX7_spare_2 (Or.inl rfl)) ⟨fun h => ⟨⟨h.1.1, h.1.2.1⟩, h.2⟩, fun h => ⟨⟨h.1.1, h.1.2, by decide⟩, h.2⟩⟩
theorem dX7_spare_5 : decode cX7_spare 5 = .ok (.iload_n 1, 1) := by decide +kernel
theorem rX7_spare_5 {R : zP} {x0 : Option zV} {st : List zV} {M : zM} {a : Int} : uX7_spare R 5 [x0, some (.inl a)] st M ↔ uX7_spare R 6 [x0, some (.inl a)] (.inl a :: st) M := zU_step dX7_spare_5 (Or.inl rfl)
theorem dX7_spare_6 : decode cX7_spare 6 = .ok (.iconst 1, 1) := by decide +kernel
theorem rX7_spare_6 {R : zP} {x0 x1 : Option zV} {st : List zV} {M : zM} : uX7_spare R 6 [x0, x1] st M ↔ uX7_spare R 7 [x0, x1] (.inl (1) :: st) M := zU_step dX7_spare_6 (Or.inl rfl)
theorem dX7_spare_7 : decode cX7_spare 7 = .ok (.if_icmp .le 6, 3) := by decide +kernel
theorem rX7_spare_7 {R : zP} {x0 x1 : Option zV} {st : List zV} {M : zM} {a b : Int} : uX7_spare R 7 [x0, x1] (.inl b :: .inl a :: st) M ↔ ((zIR a ∧ zIR b) ∧ (a ≤ b → uX7_spare R 13 [x0, x1] st M) ∧ (¬ a ≤ b → uX7_spare R 10 [x0, x1] st M)) := Iff.trans (zU_step dX7_spare_7 (Or.inl rfl)) ⟨fun h => ⟨⟨h.1.1, h.1.2.1⟩, h.2⟩, fun h => ⟨⟨h.1.1, h.1.2, by decide⟩, h.2⟩⟩
theorem dX7_spare_10 : decode cX7_spare 10 = .ok (.bipush (-2), 2) := by decide +kernel
theorem rX7_spare_10 {R : zP} {x0 x1 : Option zV} {st : List zV} {M : zM} : uX7_spare R 10 [x0, x1] st M ↔ uX7_spare R 12 [x0, x1] (.inl (-2) :: st) M := Iff.trans (zU_step dX7_spare_10 (Or.inl rfl)) ⟨fun h => h.2, fun h => ⟨by decide, h⟩⟩
theorem dX7_spare_12 : decode cX7_spare 12 = .ok (.ireturn, 1) := by decide +kernel
theorem rX7_spare_12 {R : zP} {x0 x1 : Option zV} {M : zM} {a : Int} : uX7_spare R 12 [x0, x1] [.inl a] M ↔ R (some (.inl a)) M := Iff.trans (zU_step dX7_spare_12 (Or.inl rfl)) ⟨fun h => h.2.2, fun h => ⟨rfl, Or.inl rfl, h⟩⟩
theorem dX7_spare_13 : decode cX7_spare 13 = .ok (.aload_n 0, 1) := by decide +kernel
theorem rX7_spare_13 {R : zP} {x1 : Option zV} {st : List zV} {M : zM} {a : Nat} : uX7_spare R 13 [some (.inr (.inr a)), x1] st M ↔ uX7_spare R 14 [some (.inr (.inr a)), x1] (.inr (.inr a) :: st) M := zU_step dX7_spare_13 (Or.inl rfl)
theorem dX7_spare_14 : decode cX7_spare 14 = .ok (.invokevirtual 227, 3) := by decide +kernel
theorem rX7_spare_14 {R : zP} {x0 x1 : Option zV} {st : List zV} {M : zM} {a0 : zV} : uX7_spare R 14 [x0, x1] (a0 :: st) M ↔ (st.length ≤ 4 ∧ zcn (zv 7 tX7_planSpare) [a0] M (fun M => uX7_spare R 17 [x0, x1] st M)) := Iff.trans (zU_step dX7_spare_14 (Or.inl rfl)) ⟨fun h => ⟨h.2.1, zcn_of h.2.2⟩, fun h => ⟨rfl, h.1, zcn_to h.2⟩⟩
theorem dX7_spare_17 : decode cX7_spare 17 = .ok (.aload_n 0, 1) := by decide +kernel
theorem rX7_spare_17 {R : zP} {x1 : Option zV} {st : List zV} {M : zM} {a : Nat} : uX7_spare R 17 [some (.inr (.inr a)), x1] st M ↔ uX7_spare R 18 [some (.inr (.inr a)), x1] (.inr (.inr a) :: st) M := zU_step dX7_spare_17 (Or.inl rfl)
theorem dX7_spare_18 : decode cX7_spare 18 = .ok (.getfield 65, 3) := by decide +kernel
theorem rX7_spare_18 {R : zP} {x0 x1 : Option zV} {st : List zV} {M : zM} {r : Nat} : uX7_spare R 18 [x0, x1] (.inr (.inr r) :: st) M ↔ zgetx fX7 65 r M (fun v => uX7_spare R 21 [x0, x1] (v :: st) M) := zU_step dX7_spare_18 (Or.inl rfl)
theorem dX7_spare_21 : decode cX7_spare 21 = .ok (.iload_n 1, 1) := by decide +kernel
theorem rX7_spare_21 {R : zP} {x0 : Option zV} {st : List zV} {M : zM} {a : Int} : uX7_spare R 21 [x0, some (.inl a)] st M ↔ uX7_spare R 22 [x0, some (.inl a)] (.inl a :: st) M := zU_step dX7_spare_21 (Or.inl rfl)
theorem dX7_spare_22 : decode cX7_spare 22 = .ok (.invokevirtual 221, 3) := by decide +kernel
theorem rX7_spare_22 {R : zP} {x0 x1 : Option zV} {st : List zV} {M : zM} {a0 a1 : zV} : uX7_spare R 22 [x0, x1] (a1 :: a0 :: st) M ↔ (st.length ≤ 4 ∧ zcv (zv 2 tX2_tell) [a0, a1] M (fun v M => uX7_spare R 25 [x0, x1] (v :: st) M)) := Iff.trans (zU_step dX7_spare_22 (Or.inl rfl)) ⟨fun h => ⟨h.2.1, zcv_of h.2.2⟩, fun h => ⟨rfl, h.1, zcv_to h.2⟩⟩
theorem dX7_spare_25 : decode cX7_spare 25 = .ok (.ireturn, 1) := by decide +kernel
theorem rX7_spare_25 {R : zP} {x0 x1 : Option zV} {M : zM} {a : Int} : uX7_spare R 25 [x0, x1] [.inl a] M ↔ R (some (.inl a)) M := Iff.trans (zU_step dX7_spare_25 (Or.inl rfl)) ⟨fun h => h.2.2, fun h => ⟨rfl, Or.inl rfl, h⟩⟩
theorem eX7_spare {R : zP} {M : zM} {a0 : Nat} {p0 : Int} : tX7_spare [.inr (.inr a0), .inl p0] M R ↔ uX7_spare R 0 [some (.inr (.inr a0)), some (.inl p0)] [] M := ⟨fun h => h.2, fun h => ⟨show 2 ≤ 2 by decide, h⟩⟩
def uX7_seen (R : zP) : zK := zU fX7 vX7_seen cX7_seen R
theorem dX7_seen_0 : decode cX7_seen 0 = .ok (.iload_n 1, 1) := by decide +kernel
theorem rX7_seen_0 {R : zP} {x0 x2 x3 x4 : Option zV} {st : List zV} {M : zM} {a : Int} : uX7_seen R 0 [x0, some (.inl a), x2, x3, x4] st M ↔ uX7_seen R 1 [x0, some (.inl a), x2, x3, x4] (.inl a :: st) M := zU_step dX7_seen_0 (Or.inl rfl)
theorem dX7_seen_1 : decode cX7_seen 1 = .ok (.bipush 20, 2) := by decide +kernel
theorem rX7_seen_1 {R : zP} {x0 x1 x2 x3 x4 : Option zV} {st : List zV} {M : zM} : uX7_seen R 1 [x0, x1, x2, x3, x4] st M ↔ uX7_seen R 3 [x0, x1, x2, x3, x4] (.inl (20) :: st) M := Iff.trans (zU_step dX7_seen_1 (Or.inl rfl)) ⟨fun h => h.2, fun h => ⟨by decide, h⟩⟩
theorem dX7_seen_3 : decode cX7_seen 3 = .ok (.invokestatic 94, 3) := by decide +kernel
theorem rX7_seen_3 {R : zP} {x0 x1 x2 x3 x4 : Option zV} {st : List zV} {M : zM} {a0 a1 : zV} : uX7_seen R 3 [x0, x1, x2, x3, x4] (a1 :: a0 :: st) M ↔ (st.length ≤ 4 ∧ zcv tX7_outside [a0, a1] M (fun v M => uX7_seen R 6 [x0, x1, x2, x3, x4] (v :: st) M)) := Iff.trans (zU_step dX7_seen_3 (Or.inl rfl)) ⟨fun h => ⟨h.2.1, zcv_of h.2.2⟩, fun h => ⟨rfl, h.1, zcv_to h.2⟩⟩
theorem dX7_seen_6 : decode cX7_seen 6 = .ok (.ifCond .ne 30, 3) := by decide +kernel
theorem rX7_seen_6 {R : zP} {x0 x1 x2 x3 x4 : Option zV} {st : List zV} {M : zM} {a : Int} : uX7_seen R 6 [x0, x1, x2, x3, x4] (.inl a :: st) M ↔ (zIR a ∧ (a ≠ 0 → uX7_seen R 36 [x0, x1, x2, x3, x4] st M) ∧ (¬ a ≠ 0 → uX7_seen R 9 [x0, x1, x2, x3, x4] st M)) := Iff.trans (zU_step dX7_seen_6 (Or.inl rfl)) ⟨fun h => ⟨h.1.1, h.2⟩, fun h => ⟨⟨h.1, by decide⟩, h.2⟩⟩
theorem dX7_seen_9 : decode cX7_seen 9 = .ok (.iload_n 2, 1) := by decide +kernel
theorem rX7_seen_9 {R : zP} {x0 x1 x3 x4 : Option zV} {st : List zV} {M : zM} {a : Int} : uX7_seen R 9 [x0, x1, some (.inl a), x3, x4] st M ↔ uX7_seen R 10 [x0, x1, some (.inl a), x3, x4] (.inl a :: st) M := zU_step dX7_seen_9 (Or.inl rfl)
theorem dX7_seen_10 : decode cX7_seen 10 = .ok (.bipush 8, 2) := by decide +kernel
theorem rX7_seen_10 {R : zP} {x0 x1 x2 x3 x4 : Option zV} {st : List zV} {M : zM} : uX7_seen R 10 [x0, x1, x2, x3, x4] st M ↔ uX7_seen R 12 [x0, x1, x2, x3, x4] (.inl (8) :: st) M := Iff.trans (zU_step dX7_seen_10 (Or.inl rfl)) ⟨fun h => h.2, fun h => ⟨by decide, h⟩⟩
theorem dX7_seen_12 : decode cX7_seen 12 = .ok (.invokestatic 94, 3) := by decide +kernel
theorem rX7_seen_12 {R : zP} {x0 x1 x2 x3 x4 : Option zV} {st : List zV} {M : zM} {a0 a1 : zV} : uX7_seen R 12 [x0, x1, x2, x3, x4] (a1 :: a0 :: st) M ↔ (st.length ≤ 4 ∧ zcv tX7_outside [a0, a1] M (fun v M => uX7_seen R 15 [x0, x1, x2, x3, x4] (v :: st) M)) := Iff.trans (zU_step dX7_seen_12 (Or.inl rfl)) ⟨fun h => ⟨h.2.1, zcv_of h.2.2⟩, fun h => ⟨rfl, h.1, zcv_to h.2⟩⟩
theorem dX7_seen_15 : decode cX7_seen 15 = .ok (.ifCond .ne 21, 3) := by decide +kernel
theorem rX7_seen_15 {R : zP} {x0 x1 x2 x3 x4 : Option zV} {st : List zV} {M : zM} {a : Int} : uX7_seen R 15 [x0, x1, x2, x3, x4] (.inl a :: st) M ↔ (zIR a ∧ (a ≠ 0 → uX7_seen R 36 [x0, x1, x2, x3, x4] st M) ∧ (¬ a ≠ 0 → uX7_seen R 18 [x0, x1, x2, x3, x4] st M)) := Iff.trans (zU_step dX7_seen_15 (Or.inl rfl)) ⟨fun h => ⟨h.1.1, h.2⟩, fun h => ⟨⟨h.1, by decide⟩, h.2⟩⟩
theorem dX7_seen_18 : decode cX7_seen 18 = .ok (.iload_n 3, 1) := by decide +kernel
theorem rX7_seen_18 {R : zP} {x0 x1 x2 x4 : Option zV} {st : List zV} {M : zM} {a : Int} : uX7_seen R 18 [x0, x1, x2, some (.inl a), x4] st M ↔ uX7_seen R 19 [x0, x1, x2, some (.inl a), x4] (.inl a :: st) M := zU_step dX7_seen_18 (Or.inl rfl)
theorem dX7_seen_19 : decode cX7_seen 19 = .ok (.iconst 4, 1) := by decide +kernel
theorem rX7_seen_19 {R : zP} {x0 x1 x2 x3 x4 : Option zV} {st : List zV} {M : zM} : uX7_seen R 19 [x0, x1, x2, x3, x4] st M ↔ uX7_seen R 20 [x0, x1, x2, x3, x4] (.inl (4) :: st) M := zU_step dX7_seen_19 (Or.inl rfl)
theorem dX7_seen_20 : decode cX7_seen 20 = .ok (.invokestatic 94, 3) := by decide +kernel
theorem rX7_seen_20 {R : zP} {x0 x1 x2 x3 x4 : Option zV} {st : List zV} {M : zM} {a0 a1 : zV} : uX7_seen R 20 [x0, x1, x2, x3, x4] (a1 :: a0 :: st) M ↔ (st.length ≤ 4 ∧ zcv tX7_outside [a0, a1] M (fun v M => uX7_seen R 23 [x0, x1, x2, x3, x4] (v :: st) M)) := Iff.trans (zU_step dX7_seen_20 (Or.inl rfl)) ⟨fun h => ⟨h.2.1, zcv_of h.2.2⟩, fun h => ⟨rfl, h.1, zcv_to h.2⟩⟩
theorem dX7_seen_23 : decode cX7_seen 23 = .ok (.ifCond .ne 13, 3) := by decide +kernel
theorem rX7_seen_23 {R : zP} {x0 x1 x2 x3 x4 : Option zV} {st : List zV} {M : zM} {a : Int} : uX7_seen R 23 [x0, x1, x2, x3, x4] (.inl a :: st) M ↔ (zIR a ∧ (a ≠ 0 → uX7_seen R 36 [x0, x1, x2, x3, x4] st M) ∧ (¬ a ≠ 0 → uX7_seen R 26 [x0, x1, x2, x3, x4] st M)) := Iff.trans (zU_step dX7_seen_23 (Or.inl rfl)) ⟨fun h => ⟨h.1.1, h.2⟩, fun h => ⟨⟨h.1, by decide⟩, h.2⟩⟩
theorem dX7_seen_26 : decode cX7_seen 26 = .ok (.iload 4, 2) := by decide +kernel
theorem rX7_seen_26 {R : zP} {x0 x1 x2 x3 : Option zV} {st : List zV} {M : zM} {a : Int} : uX7_seen R 26 [x0, x1, x2, x3, some (.inl a)] st M ↔ uX7_seen R 28 [x0, x1, x2, x3, some (.inl a)] (.inl a :: st) M := zU_step dX7_seen_26 (Or.inl rfl)
theorem dX7_seen_28 : decode cX7_seen 28 = .ok (.bipush 10, 2) := by decide +kernel
theorem rX7_seen_28 {R : zP} {x0 x1 x2 x3 x4 : Option zV} {st : List zV} {M : zM} : uX7_seen R 28 [x0, x1, x2, x3, x4] st M ↔ uX7_seen R 30 [x0, x1, x2, x3, x4] (.inl (10) :: st) M := Iff.trans (zU_step dX7_seen_28 (Or.inl rfl)) ⟨fun h => h.2, fun h => ⟨by decide, h⟩⟩
theorem dX7_seen_30 : decode cX7_seen 30 = .ok (.invokestatic 94, 3) := by decide +kernel
theorem rX7_seen_30 {R : zP} {x0 x1 x2 x3 x4 : Option zV} {st : List zV} {M : zM} {a0 a1 : zV} : uX7_seen R 30 [x0, x1, x2, x3, x4] (a1 :: a0 :: st) M ↔ (st.length ≤ 4 ∧ zcv tX7_outside [a0, a1] M (fun v M => uX7_seen R 33 [x0, x1, x2, x3, x4] (v :: st) M)) := Iff.trans (zU_step dX7_seen_30 (Or.inl rfl)) ⟨fun h => ⟨h.2.1, zcv_of h.2.2⟩, fun h => ⟨rfl, h.1, zcv_to h.2⟩⟩
theorem dX7_seen_33 : decode cX7_seen 33 = .ok (.ifCond .eq 6, 3) := by decide +kernel
theorem rX7_seen_33 {R : zP} {x0 x1 x2 x3 x4 : Option zV} {st : List zV} {M : zM} {a : Int} : uX7_seen R 33 [x0, x1, x2, x3, x4] (.inl a :: st) M ↔ (zIR a ∧ (a = 0 → uX7_seen R 39 [x0, x1, x2, x3, x4] st M) ∧ (¬ a = 0 → uX7_seen R 36 [x0, x1, x2, x3, x4] st M)) := Iff.trans (zU_step dX7_seen_33 (Or.inl rfl)) ⟨fun h => ⟨h.1.1, h.2⟩, fun h => ⟨⟨h.1, by decide⟩, h.2⟩⟩
theorem dX7_seen_36 : decode cX7_seen 36 = .ok (.bipush (-2), 2) := by decide +kernel
theorem rX7_seen_36 {R : zP} {x0 x1 x2 x3 x4 : Option zV} {st : List zV} {M : zM} : uX7_seen R 36 [x0, x1, x2, x3, x4] st M ↔ uX7_seen R 38 [x0, x1, x2, x3, x4] (.inl (-2) :: st) M := Iff.trans (zU_step dX7_seen_36 (Or.inl rfl)) ⟨fun h => h.2, fun h => ⟨by decide, h⟩⟩
theorem dX7_seen_38 : decode cX7_seen 38 = .ok (.ireturn, 1) := by decide +kernel
theorem rX7_seen_38 {R : zP} {x0 x1 x2 x3 x4 : Option zV} {M : zM} {a : Int} : uX7_seen R 38 [x0, x1, x2, x3, x4] [.inl a] M ↔ R (some (.inl a)) M := Iff.trans (zU_step dX7_seen_38 (Or.inl rfl)) ⟨fun h => h.2.2, fun h => ⟨rfl, Or.inl rfl, h⟩⟩
theorem dX7_seen_39 : decode cX7_seen 39 = .ok (.aload_n 0, 1) := by decide +kernel
theorem rX7_seen_39 {R : zP} {x1 x2 x3 x4 : Option zV} {st : List zV} {M : zM} {a : Nat} : uX7_seen R 39 [some (.inr (.inr a)), x1, x2, x3, x4] st M ↔ uX7_seen R 40 [some (.inr (.inr a)), x1, x2, x3, x4] (.inr (.inr a) :: st) M := zU_step dX7_seen_39 (Or.inl rfl)
theorem dX7_seen_40 : decode cX7_seen 40 = .ok (.getfield 38, 3) := by decide +kernel
theorem rX7_seen_40 {R : zP} {x0 x1 x2 x3 x4 : Option zV} {st : List zV} {M : zM} {r : Nat} : uX7_seen R 40 [x0, x1, x2, x3, x4] (.inr (.inr r) :: st) M ↔ zgetx fX7 38 r M (fun v => uX7_seen R 43 [x0, x1, x2, x3, x4] (v :: st) M) := zU_step dX7_seen_40 (Or.inl rfl)
theorem dX7_seen_43 : decode cX7_seen 43 = .ok (.iload_n 1, 1) := by decide +kernel
theorem rX7_seen_43 {R : zP} {x0 x2 x3 x4 : Option zV} {st : List zV} {M : zM} {a : Int} : uX7_seen R 43 [x0, some (.inl a), x2, x3, x4] st M ↔ uX7_seen R 44 [x0, some (.inl a), x2, x3, x4] (.inl a :: st) M := zU_step dX7_seen_43 (Or.inl rfl)
theorem dX7_seen_44 : decode cX7_seen 44 = .ok (.iload_n 2, 1) := by decide +kernel
theorem rX7_seen_44 {R : zP} {x0 x1 x3 x4 : Option zV} {st : List zV} {M : zM} {a : Int} : uX7_seen R 44 [x0, x1, some (.inl a), x3, x4] st M ↔ uX7_seen R 45 [x0, x1, some (.inl a), x3, x4] (.inl a :: st) M := zU_step dX7_seen_44 (Or.inl rfl)
theorem dX7_seen_45 : decode cX7_seen 45 = .ok (.iload_n 3, 1) := by decide +kernel
theorem rX7_seen_45 {R : zP} {x0 x1 x2 x4 : Option zV} {st : List zV} {M : zM} {a : Int} : uX7_seen R 45 [x0, x1, x2, some (.inl a), x4] st M ↔ uX7_seen R 46 [x0, x1, x2, some (.inl a), x4] (.inl a :: st) M := zU_step dX7_seen_45 (Or.inl rfl)
theorem dX7_seen_46 : decode cX7_seen 46 = .ok (.iload 4, 2) := by decide +kernel
theorem rX7_seen_46 {R : zP} {x0 x1 x2 x3 : Option zV} {st : List zV} {M : zM} {a : Int} : uX7_seen R 46 [x0, x1, x2, x3, some (.inl a)] st M ↔ uX7_seen R 48 [x0, x1, x2, x3, some (.inl a)] (.inl a :: st) M := zU_step dX7_seen_46 (Or.inl rfl)
theorem dX7_seen_48 : decode cX7_seen 48 = .ok (.invokevirtual 230, 3) := by decide +kernel
theorem rX7_seen_48 {R : zP} {x0 x1 x2 x3 x4 : Option zV} {st : List zV} {M : zM} {a0 a1 a2 a3 a4 : zV} : uX7_seen R 48 [x0, x1, x2, x3, x4] (a4 :: a3 :: a2 :: a1 :: a0 :: st) M ↔ (st.length ≤ 4 ∧ zcv (zv 6 tX6_add) [a0, a1, a2, a3, a4] M (fun v M => uX7_seen R 51 [x0, x1, x2, x3, x4] (v :: st) M)) := Iff.trans (zU_step dX7_seen_48 (Or.inl rfl)) ⟨fun h => ⟨h.2.1, zcv_of h.2.2⟩, fun h => ⟨rfl, h.1, zcv_to h.2⟩⟩
theorem dX7_seen_51 : decode cX7_seen 51 = .ok (.ireturn, 1) := by decide +kernel
theorem rX7_seen_51 {R : zP} {x0 x1 x2 x3 x4 : Option zV} {M : zM} {a : Int} : uX7_seen R 51 [x0, x1, x2, x3, x4] [.inl a] M ↔ R (some (.inl a)) M := Iff.trans (zU_step dX7_seen_51 (Or.inl rfl)) ⟨fun h => h.2.2, fun h => ⟨rfl, Or.inl rfl, h⟩⟩
theorem eX7_seen {R : zP} {M : zM} {a0 : Nat} {p0 : Int} {p1 : Int} {p2 : Int} {p3 : Int} : tX7_seen [.inr (.inr a0), .inl p0, .inl p1, .inl p2, .inl p3] M R ↔ uX7_seen R 0 [some (.inr (.inr a0)), some (.inl p0), some (.inl p1), some (.inl p2), some (.inl p3)] [] M := ⟨fun h => h.2, fun h => ⟨show 5 ≤ 5 by decide, h⟩⟩
def uX7_forget (R : zP) : zK := zU fX7 vX7_forget cX7_forget R
theorem dX7_forget_0 : decode cX7_forget 0 = .ok (.aload_n 0, 1) := by decide +kernel
theorem rX7_forget_0 {R : zP} {st : List zV} {M : zM} {a : Nat} : uX7_forget R 0 [some (.inr (.inr a))] st M ↔ uX7_forget R 1 [some (.inr (.inr a))] (.inr (.inr a) :: st) M := zU_step dX7_forget_0 (Or.inl rfl)
theorem dX7_forget_1 : decode cX7_forget 1 = .ok (.getfield 38, 3) := by decide +kernel
theorem rX7_forget_1 {R : zP} {x0 : Option zV} {st : List zV} {M : zM} {r : Nat} : uX7_forget R 1 [x0] (.inr (.inr r) :: st) M ↔ zgetx fX7 38 r M (fun v => uX7_forget R 4 [x0] (v :: st) M) := zU_step dX7_forget_1 (Or.inl rfl)
theorem dX7_forget_4 : decode cX7_forget 4 = .ok (.invokevirtual 233, 3) := by decide +kernel
theorem rX7_forget_4 {R : zP} {x0 : Option zV} {st : List zV} {M : zM} {a0 : zV} : uX7_forget R 4 [x0] (a0 :: st) M ↔ (st.length ≤ 4 ∧ zcv (zv 6 tX6_clear) [a0] M (fun v M => uX7_forget R 7 [x0] (v :: st) M)) := Iff.trans (zU_step dX7_forget_4 (Or.inl rfl)) ⟨fun h => ⟨h.2.1, zcv_of h.2.2⟩, fun h => ⟨rfl, h.1, zcv_to h.2⟩⟩
theorem dX7_forget_7 : decode cX7_forget 7 = .ok (.ireturn, 1) := by decide +kernel
theorem rX7_forget_7 {R : zP} {x0 : Option zV} {M : zM} {a : Int} : uX7_forget R 7 [x0] [.inl a] M ↔ R (some (.inl a)) M := Iff.trans (zU_step dX7_forget_7 (Or.inl rfl)) ⟨fun h => h.2.2, fun h => ⟨rfl, Or.inl rfl, h⟩⟩
theorem eX7_forget {R : zP} {M : zM} {a0 : Nat} : tX7_forget [.inr (.inr a0)] M R ↔ uX7_forget R 0 [some (.inr (.inr a0))] [] M := ⟨fun h => h.2, fun h => ⟨show 1 ≤ 1 by decide, h⟩⟩
def uX7_trace (R : zP) : zK := zU fX7 vX7_trace cX7_trace R
theorem dX7_trace_0 : decode cX7_trace 0 = .ok (.iconst 0, 1) := by decide +kernel
theorem rX7_trace_0 {R : zP} {x0 x1 x2 x3 x4 x5 : Option zV} {st : List zV} {M : zM} : uX7_trace R 0 [x0, x1, x2, x3, x4, x5] st M ↔ uX7_trace R 1 [x0, x1, x2, x3, x4, x5] (.inl (0) :: st) M := zU_step dX7_trace_0 (Or.inl rfl)
theorem dX7_trace_1 : decode cX7_trace 1 = .ok (.istore_n 3, 1) := by decide +kernel
theorem rX7_trace_1 {R : zP} {x0 x1 x2 x3 x4 x5 : Option zV} {st : List zV} {M : zM} {a : Int} : uX7_trace R 1 [x0, x1, x2, x3, x4, x5] (.inl a :: st) M ↔ uX7_trace R 2 [x0, x1, zkeep x2, some (.inl a), x4, x5] st M := Iff.trans (zU_step dX7_trace_1 (Or.inl rfl)) ⟨fun h => h.2, fun h => ⟨show 3 < 6 by decide, h⟩⟩
theorem dX7_trace_2 : decode cX7_trace 2 = .ok (.iconst 0, 1) := by decide +kernel
theorem rX7_trace_2 {R : zP} {x0 x1 x2 x3 x4 x5 : Option zV} {st : List zV} {M : zM} : uX7_trace R 2 [x0, x1, x2, x3, x4, x5] st M ↔ uX7_trace R 3 [x0, x1, x2, x3, x4, x5] (.inl (0) :: st) M := zU_step dX7_trace_2 (Or.inl rfl)
theorem dX7_trace_3 : decode cX7_trace 3 = .ok (.istore 4, 2) := by decide +kernel
theorem rX7_trace_3 {R : zP} {x0 x1 x2 x3 x4 x5 : Option zV} {st : List zV} {M : zM} {a : Int} : uX7_trace R 3 [x0, x1, x2, x3, x4, x5] (.inl a :: st) M ↔ uX7_trace R 5 [x0, x1, x2, zkeep x3, some (.inl a), x5] st M := Iff.trans (zU_step dX7_trace_3 (Or.inl rfl)) ⟨fun h => h.2, fun h => ⟨show 4 < 6 by decide, h⟩⟩
theorem dX7_trace_5 : decode cX7_trace 5 = .ok (.iload 4, 2) := by decide +kernel
theorem rX7_trace_5 {R : zP} {x0 x1 x2 x3 x5 : Option zV} {st : List zV} {M : zM} {a : Int} : uX7_trace R 5 [x0, x1, x2, x3, some (.inl a), x5] st M ↔ uX7_trace R 7 [x0, x1, x2, x3, some (.inl a), x5] (.inl a :: st) M := zU_step dX7_trace_5 (Or.inl rfl)
theorem dX7_trace_7 : decode cX7_trace 7 = .ok (.bipush 20, 2) := by decide +kernel
theorem rX7_trace_7 {R : zP} {x0 x1 x2 x3 x4 x5 : Option zV} {st : List zV} {M : zM} : uX7_trace R 7 [x0, x1, x2, x3, x4, x5] st M ↔ uX7_trace R 9 [x0, x1, x2, x3, x4, x5] (.inl (20) :: st) M := Iff.trans (zU_step dX7_trace_7 (Or.inl rfl)) ⟨fun h => h.2, fun h => ⟨by decide, h⟩⟩
theorem dX7_trace_9 : decode cX7_trace 9 = .ok (.if_icmp .ge 60, 3) := by decide +kernel
theorem rX7_trace_9 {R : zP} {x0 x1 x2 x3 x4 x5 : Option zV} {st : List zV} {M : zM} {a b : Int} : uX7_trace R 9 [x0, x1, x2, x3, x4, x5] (.inl b :: .inl a :: st) M ↔ ((zIR a ∧ zIR b) ∧ (b ≤ a → uX7_trace R 69 [x0, x1, x2, x3, x4, x5] st M) ∧ (¬ b ≤ a → uX7_trace R 12 [x0, x1, x2, x3, x4, x5] st M)) := Iff.trans (zU_step dX7_trace_9 (Or.inl rfl)) ⟨fun h => ⟨⟨h.1.1, h.1.2.1⟩, h.2⟩, fun h => ⟨⟨h.1.1, h.1.2, by decide⟩, h.2⟩⟩
theorem dX7_trace_12 : decode cX7_trace 12 = .ok (.aload_n 0, 1) := by decide +kernel
theorem rX7_trace_12 {R : zP} {x1 x2 x3 x4 x5 : Option zV} {st : List zV} {M : zM} {a : Nat} : uX7_trace R 12 [some (.inr (.inr a)), x1, x2, x3, x4, x5] st M ↔ uX7_trace R 13 [some (.inr (.inr a)), x1, x2, x3, x4, x5] (.inr (.inr a) :: st) M := zU_step dX7_trace_12 (Or.inl rfl)
theorem dX7_trace_13 : decode cX7_trace 13 = .ok (.aload_n 0, 1) := by decide +kernel
theorem rX7_trace_13 {R : zP} {x1 x2 x3 x4 x5 : Option zV} {st : List zV} {M : zM} {a : Nat} : uX7_trace R 13 [some (.inr (.inr a)), x1, x2, x3, x4, x5] st M ↔ uX7_trace R 14 [some (.inr (.inr a)), x1, x2, x3, x4, x5] (.inr (.inr a) :: st) M := zU_step dX7_trace_13 (Or.inl rfl)
theorem dX7_trace_14 : decode cX7_trace 14 = .ok (.getfield 28, 3) := by decide +kernel
theorem rX7_trace_14 {R : zP} {x0 x1 x2 x3 x4 x5 : Option zV} {st : List zV} {M : zM} {r : Nat} : uX7_trace R 14 [x0, x1, x2, x3, x4, x5] (.inr (.inr r) :: st) M ↔ zgetx fX7 28 r M (fun v => uX7_trace R 17 [x0, x1, x2, x3, x4, x5] (v :: st) M) := zU_step dX7_trace_14 (Or.inl rfl)
theorem dX7_trace_17 : decode cX7_trace 17 = .ok (.iload_n 1, 1) := by decide +kernel
theorem rX7_trace_17 {R : zP} {x0 x2 x3 x4 x5 : Option zV} {st : List zV} {M : zM} {a : Int} : uX7_trace R 17 [x0, some (.inl a), x2, x3, x4, x5] st M ↔ uX7_trace R 18 [x0, some (.inl a), x2, x3, x4, x5] (.inl a :: st) M := zU_step dX7_trace_17 (Or.inl rfl)
theorem dX7_trace_18 : decode cX7_trace 18 = .ok (.iload_n 3, 1) := by decide +kernel
theorem rX7_trace_18 {R : zP} {x0 x1 x2 x4 x5 : Option zV} {st : List zV} {M : zM} {a : Int} : uX7_trace R 18 [x0, x1, x2, some (.inl a), x4, x5] st M ↔ uX7_trace R 19 [x0, x1, x2, some (.inl a), x4, x5] (.inl a :: st) M := zU_step dX7_trace_18 (Or.inl rfl)
theorem dX7_trace_19 : decode cX7_trace 19 = .ok (.iload 4, 2) := by decide +kernel
theorem rX7_trace_19 {R : zP} {x0 x1 x2 x3 x5 : Option zV} {st : List zV} {M : zM} {a : Int} : uX7_trace R 19 [x0, x1, x2, x3, some (.inl a), x5] st M ↔ uX7_trace R 21 [x0, x1, x2, x3, some (.inl a), x5] (.inl a :: st) M := zU_step dX7_trace_19 (Or.inl rfl)
theorem dX7_trace_21 : decode cX7_trace 21 = .ok (.iload_n 2, 1) := by decide +kernel
theorem rX7_trace_21 {R : zP} {x0 x1 x3 x4 x5 : Option zV} {st : List zV} {M : zM} {a : Int} : uX7_trace R 21 [x0, x1, some (.inl a), x3, x4, x5] st M ↔ uX7_trace R 22 [x0, x1, some (.inl a), x3, x4, x5] (.inl a :: st) M := zU_step dX7_trace_21 (Or.inl rfl)
theorem dX7_trace_22 : decode cX7_trace 22 = .ok (.invokevirtual 368, 3) := by decide +kernel
theorem rX7_trace_22 {R : zP} {x0 x1 x2 x3 x4 x5 : Option zV} {st : List zV} {M : zM} {a0 a1 a2 a3 a4 a5 : zV} : uX7_trace R 22 [x0, x1, x2, x3, x4, x5] (a5 :: a4 :: a3 :: a2 :: a1 :: a0 :: st) M ↔ (st.length ≤ 4 ∧ zcv (zv 7 tX7_bringUp) [a0, a1, a2, a3, a4, a5] M (fun v M => uX7_trace R 25 [x0, x1, x2, x3, x4, x5] (v :: st) M)) := Iff.trans (zU_step dX7_trace_22 (Or.inl rfl)) ⟨fun h => ⟨h.2.1, zcv_of h.2.2⟩, fun h => ⟨rfl, h.1, zcv_to h.2⟩⟩
theorem dX7_trace_25 : decode cX7_trace 25 = .ok (.istore_n 3, 1) := by decide +kernel
theorem rX7_trace_25 {R : zP} {x0 x1 x2 x3 x4 x5 : Option zV} {st : List zV} {M : zM} {a : Int} : uX7_trace R 25 [x0, x1, x2, x3, x4, x5] (.inl a :: st) M ↔ uX7_trace R 26 [x0, x1, zkeep x2, some (.inl a), x4, x5] st M := Iff.trans (zU_step dX7_trace_25 (Or.inl rfl)) ⟨fun h => h.2, fun h => ⟨show 3 < 6 by decide, h⟩⟩
theorem dX7_trace_26 : decode cX7_trace 26 = .ok (.iconst 0, 1) := by decide +kernel
theorem rX7_trace_26 {R : zP} {x0 x1 x2 x3 x4 x5 : Option zV} {st : List zV} {M : zM} : uX7_trace R 26 [x0, x1, x2, x3, x4, x5] st M ↔ uX7_trace R 27 [x0, x1, x2, x3, x4, x5] (.inl (0) :: st) M := zU_step dX7_trace_26 (Or.inl rfl)
theorem dX7_trace_27 : decode cX7_trace 27 = .ok (.istore 5, 2) := by decide +kernel
theorem rX7_trace_27 {R : zP} {x0 x1 x2 x3 x4 x5 : Option zV} {st : List zV} {M : zM} {a : Int} : uX7_trace R 27 [x0, x1, x2, x3, x4, x5] (.inl a :: st) M ↔ uX7_trace R 29 [x0, x1, x2, x3, zkeep x4, some (.inl a)] st M := Iff.trans (zU_step dX7_trace_27 (Or.inl rfl)) ⟨fun h => h.2, fun h => ⟨show 5 < 6 by decide, h⟩⟩
theorem dX7_trace_29 : decode cX7_trace 29 = .ok (.iload 5, 2) := by decide +kernel
theorem rX7_trace_29 {R : zP} {x0 x1 x2 x3 x4 : Option zV} {st : List zV} {M : zM} {a : Int} : uX7_trace R 29 [x0, x1, x2, x3, x4, some (.inl a)] st M ↔ uX7_trace R 31 [x0, x1, x2, x3, x4, some (.inl a)] (.inl a :: st) M := zU_step dX7_trace_29 (Or.inl rfl)
theorem dX7_trace_31 : decode cX7_trace 31 = .ok (.iconst 4, 1) := by decide +kernel
theorem rX7_trace_31 {R : zP} {x0 x1 x2 x3 x4 x5 : Option zV} {st : List zV} {M : zM} : uX7_trace R 31 [x0, x1, x2, x3, x4, x5] st M ↔ uX7_trace R 32 [x0, x1, x2, x3, x4, x5] (.inl (4) :: st) M := zU_step dX7_trace_31 (Or.inl rfl)
theorem dX7_trace_32 : decode cX7_trace 32 = .ok (.if_icmp .ge 31, 3) := by decide +kernel
theorem rX7_trace_32 {R : zP} {x0 x1 x2 x3 x4 x5 : Option zV} {st : List zV} {M : zM} {a b : Int} : uX7_trace R 32 [x0, x1, x2, x3, x4, x5] (.inl b :: .inl a :: st) M ↔ ((zIR a ∧ zIR b) ∧ (b ≤ a → uX7_trace R 63 [x0, x1, x2, x3, x4, x5] st M) ∧ (¬ b ≤ a → uX7_trace R 35 [x0, x1, x2, x3, x4, x5] st M)) := Iff.trans (zU_step dX7_trace_32 (Or.inl rfl)) ⟨fun h => ⟨⟨h.1.1, h.1.2.1⟩, h.2⟩, fun h => ⟨⟨h.1.1, h.1.2, by decide⟩, h.2⟩⟩
theorem dX7_trace_35 : decode cX7_trace 35 = .ok (.aload_n 0, 1) := by decide +kernel
theorem rX7_trace_35 {R : zP} {x1 x2 x3 x4 x5 : Option zV} {st : List zV} {M : zM} {a : Nat} : uX7_trace R 35 [some (.inr (.inr a)), x1, x2, x3, x4, x5] st M ↔ uX7_trace R 36 [some (.inr (.inr a)), x1, x2, x3, x4, x5] (.inr (.inr a) :: st) M := zU_step dX7_trace_35 (Or.inl rfl)
theorem dX7_trace_36 : decode cX7_trace 36 = .ok (.getfield 76, 3) := by decide +kernel
theorem rX7_trace_36 {R : zP} {x0 x1 x2 x3 x4 x5 : Option zV} {st : List zV} {M : zM} {r : Nat} : uX7_trace R 36 [x0, x1, x2, x3, x4, x5] (.inr (.inr r) :: st) M ↔ zgetx fX7 76 r M (fun v => uX7_trace R 39 [x0, x1, x2, x3, x4, x5] (v :: st) M) := zU_step dX7_trace_36 (Or.inl rfl)
theorem dX7_trace_39 : decode cX7_trace 39 = .ok (.iload 4, 2) := by decide +kernel
theorem rX7_trace_39 {R : zP} {x0 x1 x2 x3 x5 : Option zV} {st : List zV} {M : zM} {a : Int} : uX7_trace R 39 [x0, x1, x2, x3, some (.inl a), x5] st M ↔ uX7_trace R 41 [x0, x1, x2, x3, some (.inl a), x5] (.inl a :: st) M := zU_step dX7_trace_39 (Or.inl rfl)
theorem dX7_trace_41 : decode cX7_trace 41 = .ok (.iconst 4, 1) := by decide +kernel
theorem rX7_trace_41 {R : zP} {x0 x1 x2 x3 x4 x5 : Option zV} {st : List zV} {M : zM} : uX7_trace R 41 [x0, x1, x2, x3, x4, x5] st M ↔ uX7_trace R 42 [x0, x1, x2, x3, x4, x5] (.inl (4) :: st) M := zU_step dX7_trace_41 (Or.inl rfl)
theorem dX7_trace_42 : decode cX7_trace 42 = .ok (.imul, 1) := by decide +kernel
theorem rX7_trace_42 {R : zP} {x0 x1 x2 x3 x4 x5 : Option zV} {st : List zV} {M : zM} {a b : Int} : uX7_trace R 42 [x0, x1, x2, x3, x4, x5] (.inl b :: .inl a :: st) M ↔ uX7_trace R 43 [x0, x1, x2, x3, x4, x5] (.inl (a * b) :: st) M := zU_step dX7_trace_42 (Or.inl rfl)
theorem dX7_trace_43 : decode cX7_trace 43 = .ok (.iload 5, 2) := by decide +kernel
theorem rX7_trace_43 {R : zP} {x0 x1 x2 x3 x4 : Option zV} {st : List zV} {M : zM} {a : Int} : uX7_trace R 43 [x0, x1, x2, x3, x4, some (.inl a)] st M ↔ uX7_trace R 45 [x0, x1, x2, x3, x4, some (.inl a)] (.inl a :: st) M := zU_step dX7_trace_43 (Or.inl rfl)
theorem dX7_trace_45 : decode cX7_trace 45 = .ok (.iadd, 1) := by decide +kernel
theorem rX7_trace_45 {R : zP} {x0 x1 x2 x3 x4 x5 : Option zV} {st : List zV} {M : zM} {a b : Int} : uX7_trace R 45 [x0, x1, x2, x3, x4, x5] (.inl b :: .inl a :: st) M ↔ uX7_trace R 46 [x0, x1, x2, x3, x4, x5] (.inl (a + b) :: st) M := zU_step dX7_trace_45 (Or.inl rfl)
theorem dX7_trace_46 : decode cX7_trace 46 = .ok (.aload_n 0, 1) := by decide +kernel
theorem rX7_trace_46 {R : zP} {x1 x2 x3 x4 x5 : Option zV} {st : List zV} {M : zM} {a : Nat} : uX7_trace R 46 [some (.inr (.inr a)), x1, x2, x3, x4, x5] st M ↔ uX7_trace R 47 [some (.inr (.inr a)), x1, x2, x3, x4, x5] (.inr (.inr a) :: st) M := zU_step dX7_trace_46 (Or.inl rfl)
theorem dX7_trace_47 : decode cX7_trace 47 = .ok (.getfield 55, 3) := by decide +kernel
theorem rX7_trace_47 {R : zP} {x0 x1 x2 x3 x4 x5 : Option zV} {st : List zV} {M : zM} {r : Nat} : uX7_trace R 47 [x0, x1, x2, x3, x4, x5] (.inr (.inr r) :: st) M ↔ zgetx fX7 55 r M (fun v => uX7_trace R 50 [x0, x1, x2, x3, x4, x5] (v :: st) M) := zU_step dX7_trace_47 (Or.inl rfl)
theorem dX7_trace_50 : decode cX7_trace 50 = .ok (.getfield 146, 3) := by decide +kernel
theorem rX7_trace_50 {R : zP} {x0 x1 x2 x3 x4 x5 : Option zV} {st : List zV} {M : zM} {r : Nat} : uX7_trace R 50 [x0, x1, x2, x3, x4, x5] (.inr (.inr r) :: st) M ↔ zgetx fX7 146 r M (fun v => uX7_trace R 53 [x0, x1, x2, x3, x4, x5] (v :: st) M) := zU_step dX7_trace_50 (Or.inl rfl)
theorem dX7_trace_53 : decode cX7_trace 53 = .ok (.iload 5, 2) := by decide +kernel
theorem rX7_trace_53 {R : zP} {x0 x1 x2 x3 x4 : Option zV} {st : List zV} {M : zM} {a : Int} : uX7_trace R 53 [x0, x1, x2, x3, x4, some (.inl a)] st M ↔ uX7_trace R 55 [x0, x1, x2, x3, x4, some (.inl a)] (.inl a :: st) M := zU_step dX7_trace_53 (Or.inl rfl)
theorem dX7_trace_55 : decode cX7_trace 55 = .ok (.iaload, 1) := by decide +kernel
theorem rX7_trace_55 {R : zP} {x0 x1 x2 x3 x4 x5 : Option zV} {st : List zV} {M : zM} {i : Int} {r : Nat} : uX7_trace R 55 [x0, x1, x2, x3, x4, x5] (.inl i :: .inr (.inr r) :: st) M ↔ zread fX7 0 r M i (fun v => uX7_trace R 56 [x0, x1, x2, x3, x4, x5] (.inl v :: st) M) := zU_step dX7_trace_55 (Or.inl rfl)
theorem dX7_trace_56 : decode cX7_trace 56 = .ok (.iastore, 1) := by decide +kernel
theorem rX7_trace_56 {R : zP} {x0 x1 x2 x3 x4 x5 : Option zV} {st : List zV} {M : zM} {i v : Int} {r : Nat} : uX7_trace R 56 [x0, x1, x2, x3, x4, x5] (.inl v :: .inl i :: .inr (.inr r) :: st) M ↔ zwrite 0 r i (uX7_trace R 57 [x0, x1, x2, x3, x4, x5] st (zup M r i v)) := zU_step dX7_trace_56 (Or.inl rfl)
theorem dX7_trace_57 : decode cX7_trace 57 = .ok (.iinc 5 1, 3) := by decide +kernel
theorem rX7_trace_57 {R : zP} {x0 x1 x2 x3 x4 : Option zV} {st : List zV} {M : zM} {a : Int} : uX7_trace R 57 [x0, x1, x2, x3, x4, some (.inl a)] st M ↔ uX7_trace R 60 [x0, x1, x2, x3, zkeep x4, some (.inl (a + (1)))] st M := Iff.trans (zU_step dX7_trace_57 (Or.inl rfl)) ⟨fun h => h.2, fun h => ⟨show 5 < 6 by decide, h⟩⟩
theorem dX7_trace_60 : decode cX7_trace 60 = .ok (.goto (-31), 3) := by decide +kernel
theorem rX7_trace_60 {R : zP} {x0 x1 x2 x3 x4 x5 : Option zV} {st : List zV} {M : zM} : uX7_trace R 60 [x0, x1, x2, x3, x4, x5] st M ↔ uX7_trace R 29 [x0, x1, x2, x3, x4, x5] st M := Iff.trans (zU_step dX7_trace_60 (Or.inl rfl)) ⟨fun h => h.2, fun h => ⟨by decide, h⟩⟩
theorem dX7_trace_63 : decode cX7_trace 63 = .ok (.iinc 4 1, 3) := by decide +kernel
theorem rX7_trace_63 {R : zP} {x0 x1 x2 x3 x5 : Option zV} {st : List zV} {M : zM} {a : Int} : uX7_trace R 63 [x0, x1, x2, x3, some (.inl a), x5] st M ↔ uX7_trace R 66 [x0, x1, x2, zkeep x3, some (.inl (a + (1))), x5] st M := Iff.trans (zU_step dX7_trace_63 (Or.inl rfl)) ⟨fun h => h.2, fun h => ⟨show 4 < 6 by decide, h⟩⟩
theorem dX7_trace_66 : decode cX7_trace 66 = .ok (.goto (-61), 3) := by decide +kernel
theorem rX7_trace_66 {R : zP} {x0 x1 x2 x3 x4 x5 : Option zV} {st : List zV} {M : zM} : uX7_trace R 66 [x0, x1, x2, x3, x4, x5] st M ↔ uX7_trace R 5 [x0, x1, x2, x3, x4, x5] st M := Iff.trans (zU_step dX7_trace_66 (Or.inl rfl)) ⟨fun h => h.2, fun h => ⟨by decide, h⟩⟩
theorem dX7_trace_69 : decode cX7_trace 69 = .ok (.return_, 1) := by decide +kernel
theorem rX7_trace_69 {R : zP} {x0 x1 x2 x3 x4 x5 : Option zV} {M : zM} : uX7_trace R 69 [x0, x1, x2, x3, x4, x5] [] M ↔ R none M := Iff.trans (zU_step dX7_trace_69 (Or.inl rfl)) ⟨fun h => h.2.2, fun h => ⟨rfl, rfl, h⟩⟩
theorem eX7_trace {R : zP} {M : zM} {a0 : Nat} {p0 : Int} {p1 : Int} : tX7_trace [.inr (.inr a0), .inl p0, .inl p1] M R ↔ uX7_trace R 0 [some (.inr (.inr a0)), some (.inl p0), some (.inl p1), none, none, none] [] M := ⟨fun h => h.2, fun h => ⟨show 3 ≤ 6 by decide, h⟩⟩
def uX7_restAgree (R : zP) : zK := zU fX7 vX7_restAgree cX7_restAgree R
theorem dX7_restAgree_0 : decode cX7_restAgree 0 = .ok (.iconst 0, 1) := by decide +kernel
theorem rX7_restAgree_0 {R : zP} {x0 x1 x2 x3 : Option zV} {st : List zV} {M : zM} : uX7_restAgree R 0 [x0, x1, x2, x3] st M ↔ uX7_restAgree R 1 [x0, x1, x2, x3] (.inl (0) :: st) M := zU_step dX7_restAgree_0 (Or.inl rfl)
theorem dX7_restAgree_1 : decode cX7_restAgree 1 = .ok (.istore_n 3, 1) := by decide +kernel
theorem rX7_restAgree_1 {R : zP} {x0 x1 x2 x3 : Option zV} {st : List zV} {M : zM} {a : Int} : uX7_restAgree R 1 [x0, x1, x2, x3] (.inl a :: st) M ↔ uX7_restAgree R 2 [x0, x1, zkeep x2, some (.inl a)] st M := Iff.trans (zU_step dX7_restAgree_1 (Or.inl rfl)) ⟨fun h => h.2, fun h => ⟨show 3 < 4 by decide, h⟩⟩
theorem dX7_restAgree_2 : decode cX7_restAgree 2 = .ok (.iload_n 3, 1) := by decide +kernel
theorem rX7_restAgree_2 {R : zP} {x0 x1 x2 : Option zV} {st : List zV} {M : zM} {a : Int} : uX7_restAgree R 2 [x0, x1, x2, some (.inl a)] st M ↔ uX7_restAgree R 3 [x0, x1, x2, some (.inl a)] (.inl a :: st) M := zU_step dX7_restAgree_2 (Or.inl rfl)
theorem dX7_restAgree_3 : decode cX7_restAgree 3 = .ok (.bipush 8, 2) := by decide +kernel
theorem rX7_restAgree_3 {R : zP} {x0 x1 x2 x3 : Option zV} {st : List zV} {M : zM} : uX7_restAgree R 3 [x0, x1, x2, x3] st M ↔ uX7_restAgree R 5 [x0, x1, x2, x3] (.inl (8) :: st) M := Iff.trans (zU_step dX7_restAgree_3 (Or.inl rfl)) ⟨fun h => h.2, fun h => ⟨by decide, h⟩⟩
theorem dX7_restAgree_5 : decode cX7_restAgree 5 = .ok (.if_icmp .ge 76, 3) := by decide +kernel
theorem rX7_restAgree_5 {R : zP} {x0 x1 x2 x3 : Option zV} {st : List zV} {M : zM} {a b : Int} : uX7_restAgree R 5 [x0, x1, x2, x3] (.inl b :: .inl a :: st) M ↔ ((zIR a ∧ zIR b) ∧ (b ≤ a → uX7_restAgree R 81 [x0, x1, x2, x3] st M) ∧ (¬ b ≤ a → uX7_restAgree R 8 [x0, x1, x2, x3] st M)) := Iff.trans (zU_step dX7_restAgree_5 (Or.inl rfl)) ⟨fun h => ⟨⟨h.1.1, h.1.2.1⟩, h.2⟩, fun h => ⟨⟨h.1.1, h.1.2, by decide⟩, h.2⟩⟩
theorem dX7_restAgree_8 : decode cX7_restAgree 8 = .ok (.iload_n 3, 1) := by decide +kernel
theorem rX7_restAgree_8 {R : zP} {x0 x1 x2 : Option zV} {st : List zV} {M : zM} {a : Int} : uX7_restAgree R 8 [x0, x1, x2, some (.inl a)] st M ↔ uX7_restAgree R 9 [x0, x1, x2, some (.inl a)] (.inl a :: st) M := zU_step dX7_restAgree_8 (Or.inl rfl)
theorem dX7_restAgree_9 : decode cX7_restAgree 9 = .ok (.iload_n 1, 1) := by decide +kernel
theorem rX7_restAgree_9 {R : zP} {x0 x2 x3 : Option zV} {st : List zV} {M : zM} {a : Int} : uX7_restAgree R 9 [x0, some (.inl a), x2, x3] st M ↔ uX7_restAgree R 10 [x0, some (.inl a), x2, x3] (.inl a :: st) M := zU_step dX7_restAgree_9 (Or.inl rfl)
theorem dX7_restAgree_10 : decode cX7_restAgree 10 = .ok (.if_icmp .eq 65, 3) := by decide +kernel
theorem rX7_restAgree_10 {R : zP} {x0 x1 x2 x3 : Option zV} {st : List zV} {M : zM} {a b : Int} : uX7_restAgree R 10 [x0, x1, x2, x3] (.inl b :: .inl a :: st) M ↔ ((zIR a ∧ zIR b) ∧ (a = b → uX7_restAgree R 75 [x0, x1, x2, x3] st M) ∧ (¬ a = b → uX7_restAgree R 13 [x0, x1, x2, x3] st M)) := Iff.trans (zU_step dX7_restAgree_10 (Or.inl rfl)) ⟨fun h => ⟨⟨h.1.1, h.1.2.1⟩, h.2⟩, fun h => ⟨⟨h.1.1, h.1.2, by decide⟩, h.2⟩⟩
theorem dX7_restAgree_13 : decode cX7_restAgree 13 = .ok (.aload_n 0, 1) := by decide +kernel
theorem rX7_restAgree_13 {R : zP} {x1 x2 x3 : Option zV} {st : List zV} {M : zM} {a : Nat} : uX7_restAgree R 13 [some (.inr (.inr a)), x1, x2, x3] st M ↔ uX7_restAgree R 14 [some (.inr (.inr a)), x1, x2, x3] (.inr (.inr a) :: st) M := zU_step dX7_restAgree_13 (Or.inl rfl)
theorem dX7_restAgree_14 : decode cX7_restAgree 14 = .ok (.getfield 38, 3) := by decide +kernel
theorem rX7_restAgree_14 {R : zP} {x0 x1 x2 x3 : Option zV} {st : List zV} {M : zM} {r : Nat} : uX7_restAgree R 14 [x0, x1, x2, x3] (.inr (.inr r) :: st) M ↔ zgetx fX7 38 r M (fun v => uX7_restAgree R 17 [x0, x1, x2, x3] (v :: st) M) := zU_step dX7_restAgree_14 (Or.inl rfl)
theorem dX7_restAgree_17 : decode cX7_restAgree 17 = .ok (.iload_n 3, 1) := by decide +kernel
theorem rX7_restAgree_17 {R : zP} {x0 x1 x2 : Option zV} {st : List zV} {M : zM} {a : Int} : uX7_restAgree R 17 [x0, x1, x2, some (.inl a)] st M ↔ uX7_restAgree R 18 [x0, x1, x2, some (.inl a)] (.inl a :: st) M := zU_step dX7_restAgree_17 (Or.inl rfl)
theorem dX7_restAgree_18 : decode cX7_restAgree 18 = .ok (.invokevirtual 384, 3) := by decide +kernel
theorem rX7_restAgree_18 {R : zP} {x0 x1 x2 x3 : Option zV} {st : List zV} {M : zM} {a0 a1 : zV} : uX7_restAgree R 18 [x0, x1, x2, x3] (a1 :: a0 :: st) M ↔ (st.length ≤ 4 ∧ zcv (zv 6 tX6_tellOf) [a0, a1] M (fun v M => uX7_restAgree R 21 [x0, x1, x2, x3] (v :: st) M)) := Iff.trans (zU_step dX7_restAgree_18 (Or.inl rfl)) ⟨fun h => ⟨h.2.1, zcv_of h.2.2⟩, fun h => ⟨rfl, h.1, zcv_to h.2⟩⟩
theorem dX7_restAgree_21 : decode cX7_restAgree 21 = .ok (.ifCond .ne 6, 3) := by decide +kernel
theorem rX7_restAgree_21 {R : zP} {x0 x1 x2 x3 : Option zV} {st : List zV} {M : zM} {a : Int} : uX7_restAgree R 21 [x0, x1, x2, x3] (.inl a :: st) M ↔ (zIR a ∧ (a ≠ 0 → uX7_restAgree R 27 [x0, x1, x2, x3] st M) ∧ (¬ a ≠ 0 → uX7_restAgree R 24 [x0, x1, x2, x3] st M)) := Iff.trans (zU_step dX7_restAgree_21 (Or.inl rfl)) ⟨fun h => ⟨h.1.1, h.2⟩, fun h => ⟨⟨h.1, by decide⟩, h.2⟩⟩
theorem dX7_restAgree_24 : decode cX7_restAgree 24 = .ok (.goto 51, 3) := by decide +kernel
theorem rX7_restAgree_24 {R : zP} {x0 x1 x2 x3 : Option zV} {st : List zV} {M : zM} : uX7_restAgree R 24 [x0, x1, x2, x3] st M ↔ uX7_restAgree R 75 [x0, x1, x2, x3] st M := Iff.trans (zU_step dX7_restAgree_24 (Or.inl rfl)) ⟨fun h => h.2, fun h => ⟨by decide, h⟩⟩
theorem dX7_restAgree_27 : decode cX7_restAgree 27 = .ok (.iload_n 3, 1) := by decide +kernel
theorem rX7_restAgree_27 {R : zP} {x0 x1 x2 : Option zV} {st : List zV} {M : zM} {a : Int} : uX7_restAgree R 27 [x0, x1, x2, some (.inl a)] st M ↔ uX7_restAgree R 28 [x0, x1, x2, some (.inl a)] (.inl a :: st) M := zU_step dX7_restAgree_27 (Or.inl rfl)
theorem dX7_restAgree_28 : decode cX7_restAgree 28 = .ok (.aload_n 0, 1) := by decide +kernel
theorem rX7_restAgree_28 {R : zP} {x1 x2 x3 : Option zV} {st : List zV} {M : zM} {a : Nat} : uX7_restAgree R 28 [some (.inr (.inr a)), x1, x2, x3] st M ↔ uX7_restAgree R 29 [some (.inr (.inr a)), x1, x2, x3] (.inr (.inr a) :: st) M := zU_step dX7_restAgree_28 (Or.inl rfl)
theorem dX7_restAgree_29 : decode cX7_restAgree 29 = .ok (.getfield 14, 3) := by decide +kernel
theorem rX7_restAgree_29 {R : zP} {x0 x1 x2 x3 : Option zV} {st : List zV} {M : zM} {r : Nat} : uX7_restAgree R 29 [x0, x1, x2, x3] (.inr (.inr r) :: st) M ↔ zgetx fX7 14 r M (fun v => uX7_restAgree R 32 [x0, x1, x2, x3] (v :: st) M) := zU_step dX7_restAgree_29 (Or.inl rfl)
theorem dX7_restAgree_32 : decode cX7_restAgree 32 = .ok (.getfield 116, 3) := by decide +kernel
theorem rX7_restAgree_32 {R : zP} {x0 x1 x2 x3 : Option zV} {st : List zV} {M : zM} {r : Nat} : uX7_restAgree R 32 [x0, x1, x2, x3] (.inr (.inr r) :: st) M ↔ zgetx fX7 116 r M (fun v => uX7_restAgree R 35 [x0, x1, x2, x3] (v :: st) M) := zU_step dX7_restAgree_32 (Or.inl rfl)
theorem dX7_restAgree_35 : decode cX7_restAgree 35 = .ok (.if_icmp .lt 5, 3) := by decide +kernel
theorem rX7_restAgree_35 {R : zP} {x0 x1 x2 x3 : Option zV} {st : List zV} {M : zM} {a b : Int} : uX7_restAgree R 35 [x0, x1, x2, x3] (.inl b :: .inl a :: st) M ↔ ((zIR a ∧ zIR b) ∧ (a < b → uX7_restAgree R 40 [x0, x1, x2, x3] st M) ∧ (¬ a < b → uX7_restAgree R 38 [x0, x1, x2, x3] st M)) := Iff.trans (zU_step dX7_restAgree_35 (Or.inl rfl)) ⟨fun h => ⟨⟨h.1.1, h.1.2.1⟩, h.2⟩, fun h => ⟨⟨h.1.1, h.1.2, by decide⟩, h.2⟩⟩
theorem dX7_restAgree_38 : decode cX7_restAgree 38 = .ok (.iconst 0, 1) := by decide +kernel
theorem rX7_restAgree_38 {R : zP} {x0 x1 x2 x3 : Option zV} {st : List zV} {M : zM} : uX7_restAgree R 38 [x0, x1, x2, x3] st M ↔ uX7_restAgree R 39 [x0, x1, x2, x3] (.inl (0) :: st) M := zU_step dX7_restAgree_38 (Or.inl rfl)
theorem dX7_restAgree_39 : decode cX7_restAgree 39 = .ok (.ireturn, 1) := by decide +kernel
theorem rX7_restAgree_39 {R : zP} {x0 x1 x2 x3 : Option zV} {M : zM} {a : Int} : uX7_restAgree R 39 [x0, x1, x2, x3] [.inl a] M ↔ ((a = 0 ∨ a = 1) ∧ R (some (.inl a)) M) := Iff.trans (zU_step dX7_restAgree_39 (Or.inl rfl)) ⟨fun h => ⟨zret2 rfl h.2.1, h.2.2⟩, fun h => ⟨rfl, Or.inr (Or.inl ⟨rfl, h.1⟩), h.2⟩⟩
theorem dX7_restAgree_40 : decode cX7_restAgree 40 = .ok (.aload_n 0, 1) := by decide +kernel
theorem rX7_restAgree_40 {R : zP} {x1 x2 x3 : Option zV} {st : List zV} {M : zM} {a : Nat} : uX7_restAgree R 40 [some (.inr (.inr a)), x1, x2, x3] st M ↔ uX7_restAgree R 41 [some (.inr (.inr a)), x1, x2, x3] (.inr (.inr a) :: st) M := zU_step dX7_restAgree_40 (Or.inl rfl)
theorem dX7_restAgree_41 : decode cX7_restAgree 41 = .ok (.getfield 55, 3) := by decide +kernel
theorem rX7_restAgree_41 {R : zP} {x0 x1 x2 x3 : Option zV} {st : List zV} {M : zM} {r : Nat} : uX7_restAgree R 41 [x0, x1, x2, x3] (.inr (.inr r) :: st) M ↔ zgetx fX7 55 r M (fun v => uX7_restAgree R 44 [x0, x1, x2, x3] (v :: st) M) := zU_step dX7_restAgree_41 (Or.inl rfl)
theorem dX7_restAgree_44 : decode cX7_restAgree 44 = .ok (.aload_n 0, 1) := by decide +kernel
theorem rX7_restAgree_44 {R : zP} {x1 x2 x3 : Option zV} {st : List zV} {M : zM} {a : Nat} : uX7_restAgree R 44 [some (.inr (.inr a)), x1, x2, x3] st M ↔ uX7_restAgree R 45 [some (.inr (.inr a)), x1, x2, x3] (.inr (.inr a) :: st) M := zU_step dX7_restAgree_44 (Or.inl rfl)
theorem dX7_restAgree_45 : decode cX7_restAgree 45 = .ok (.getfield 14, 3) := by decide +kernel
theorem rX7_restAgree_45 {R : zP} {x0 x1 x2 x3 : Option zV} {st : List zV} {M : zM} {r : Nat} : uX7_restAgree R 45 [x0, x1, x2, x3] (.inr (.inr r) :: st) M ↔ zgetx fX7 14 r M (fun v => uX7_restAgree R 48 [x0, x1, x2, x3] (v :: st) M) := zU_step dX7_restAgree_45 (Or.inl rfl)
theorem dX7_restAgree_48 : decode cX7_restAgree 48 = .ok (.iload_n 3, 1) := by decide +kernel
theorem rX7_restAgree_48 {R : zP} {x0 x1 x2 : Option zV} {st : List zV} {M : zM} {a : Int} : uX7_restAgree R 48 [x0, x1, x2, some (.inl a)] st M ↔ uX7_restAgree R 49 [x0, x1, x2, some (.inl a)] (.inl a :: st) M := zU_step dX7_restAgree_48 (Or.inl rfl)
theorem dX7_restAgree_49 : decode cX7_restAgree 49 = .ok (.invokevirtual 238, 3) := by decide +kernel
theorem rX7_restAgree_49 {R : zP} {x0 x1 x2 x3 : Option zV} {st : List zV} {M : zM} {a0 a1 a2 : zV} : uX7_restAgree R 49 [x0, x1, x2, x3] (a2 :: a1 :: a0 :: st) M ↔ (st.length ≤ 4 ∧ zcn (zv 3 tX3_enter) [a0, a1, a2] M (fun M => uX7_restAgree R 52 [x0, x1, x2, x3] st M)) := Iff.trans (zU_step dX7_restAgree_49 (Or.inl rfl)) ⟨fun h => ⟨h.2.1, zcn_of h.2.2⟩, fun h => ⟨rfl, h.1, zcn_to h.2⟩⟩
theorem dX7_restAgree_52 : decode cX7_restAgree 52 = .ok (.aload_n 0, 1) := by decide +kernel
theorem rX7_restAgree_52 {R : zP} {x1 x2 x3 : Option zV} {st : List zV} {M : zM} {a : Nat} : uX7_restAgree R 52 [some (.inr (.inr a)), x1, x2, x3] st M ↔ uX7_restAgree R 53 [some (.inr (.inr a)), x1, x2, x3] (.inr (.inr a) :: st) M := zU_step dX7_restAgree_52 (Or.inl rfl)
theorem dX7_restAgree_53 : decode cX7_restAgree 53 = .ok (.iload_n 3, 1) := by decide +kernel
theorem rX7_restAgree_53 {R : zP} {x0 x1 x2 : Option zV} {st : List zV} {M : zM} {a : Int} : uX7_restAgree R 53 [x0, x1, x2, some (.inl a)] st M ↔ uX7_restAgree R 54 [x0, x1, x2, some (.inl a)] (.inl a :: st) M := zU_step dX7_restAgree_53 (Or.inl rfl)
theorem dX7_restAgree_54 : decode cX7_restAgree 54 = .ok (.iload_n 2, 1) := by decide +kernel
theorem rX7_restAgree_54 {R : zP} {x0 x1 x3 : Option zV} {st : List zV} {M : zM} {a : Int} : uX7_restAgree R 54 [x0, x1, some (.inl a), x3] st M ↔ uX7_restAgree R 55 [x0, x1, some (.inl a), x3] (.inl a :: st) M := zU_step dX7_restAgree_54 (Or.inl rfl)
theorem dX7_restAgree_55 : decode cX7_restAgree 55 = .ok (.invokevirtual 245, 3) := by decide +kernel
theorem rX7_restAgree_55 {R : zP} {x0 x1 x2 x3 : Option zV} {st : List zV} {M : zM} {a0 a1 a2 : zV} : uX7_restAgree R 55 [x0, x1, x2, x3] (a2 :: a1 :: a0 :: st) M ↔ (st.length ≤ 4 ∧ zcn (zv 7 tX7_trace) [a0, a1, a2] M (fun M => uX7_restAgree R 58 [x0, x1, x2, x3] st M)) := Iff.trans (zU_step dX7_restAgree_55 (Or.inl rfl)) ⟨fun h => ⟨h.2.1, zcn_of h.2.2⟩, fun h => ⟨rfl, h.1, zcn_to h.2⟩⟩
theorem dX7_restAgree_58 : decode cX7_restAgree 58 = .ok (.aload_n 0, 1) := by decide +kernel
theorem rX7_restAgree_58 {R : zP} {x1 x2 x3 : Option zV} {st : List zV} {M : zM} {a : Nat} : uX7_restAgree R 58 [some (.inr (.inr a)), x1, x2, x3] st M ↔ uX7_restAgree R 59 [some (.inr (.inr a)), x1, x2, x3] (.inr (.inr a) :: st) M := zU_step dX7_restAgree_58 (Or.inl rfl)
theorem dX7_restAgree_59 : decode cX7_restAgree 59 = .ok (.getfield 38, 3) := by decide +kernel
theorem rX7_restAgree_59 {R : zP} {x0 x1 x2 x3 : Option zV} {st : List zV} {M : zM} {r : Nat} : uX7_restAgree R 59 [x0, x1, x2, x3] (.inr (.inr r) :: st) M ↔ zgetx fX7 38 r M (fun v => uX7_restAgree R 62 [x0, x1, x2, x3] (v :: st) M) := zU_step dX7_restAgree_59 (Or.inl rfl)
theorem dX7_restAgree_62 : decode cX7_restAgree 62 = .ok (.iload_n 3, 1) := by decide +kernel
theorem rX7_restAgree_62 {R : zP} {x0 x1 x2 : Option zV} {st : List zV} {M : zM} {a : Int} : uX7_restAgree R 62 [x0, x1, x2, some (.inl a)] st M ↔ uX7_restAgree R 63 [x0, x1, x2, some (.inl a)] (.inl a :: st) M := zU_step dX7_restAgree_62 (Or.inl rfl)
theorem dX7_restAgree_63 : decode cX7_restAgree 63 = .ok (.aload_n 0, 1) := by decide +kernel
theorem rX7_restAgree_63 {R : zP} {x1 x2 x3 : Option zV} {st : List zV} {M : zM} {a : Nat} : uX7_restAgree R 63 [some (.inr (.inr a)), x1, x2, x3] st M ↔ uX7_restAgree R 64 [some (.inr (.inr a)), x1, x2, x3] (.inr (.inr a) :: st) M := zU_step dX7_restAgree_63 (Or.inl rfl)
theorem dX7_restAgree_64 : decode cX7_restAgree 64 = .ok (.getfield 76, 3) := by decide +kernel
theorem rX7_restAgree_64 {R : zP} {x0 x1 x2 x3 : Option zV} {st : List zV} {M : zM} {r : Nat} : uX7_restAgree R 64 [x0, x1, x2, x3] (.inr (.inr r) :: st) M ↔ zgetx fX7 76 r M (fun v => uX7_restAgree R 67 [x0, x1, x2, x3] (v :: st) M) := zU_step dX7_restAgree_64 (Or.inl rfl)
theorem dX7_restAgree_67 : decode cX7_restAgree 67 = .ok (.invokevirtual 249, 3) := by decide +kernel
theorem rX7_restAgree_67 {R : zP} {x0 x1 x2 x3 : Option zV} {st : List zV} {M : zM} {a0 a1 a2 : zV} : uX7_restAgree R 67 [x0, x1, x2, x3] (a2 :: a1 :: a0 :: st) M ↔ (st.length ≤ 4 ∧ zcv (zv 6 tX6_agree) [a0, a1, a2] M (fun v M => uX7_restAgree R 70 [x0, x1, x2, x3] (v :: st) M)) := Iff.trans (zU_step dX7_restAgree_67 (Or.inl rfl)) ⟨fun h => ⟨h.2.1, zcv_of h.2.2⟩, fun h => ⟨rfl, h.1, zcv_to h.2⟩⟩
theorem dX7_restAgree_70 : decode cX7_restAgree 70 = .ok (.ifCond .ne 5, 3) := by decide +kernel
theorem rX7_restAgree_70 {R : zP} {x0 x1 x2 x3 : Option zV} {st : List zV} {M : zM} {a : Int} : uX7_restAgree R 70 [x0, x1, x2, x3] (.inl a :: st) M ↔ (zIR a ∧ (a ≠ 0 → uX7_restAgree R 75 [x0, x1, x2, x3] st M) ∧ (¬ a ≠ 0 → uX7_restAgree R 73 [x0, x1, x2, x3] st M)) := Iff.trans (zU_step dX7_restAgree_70 (Or.inl rfl)) ⟨fun h => ⟨h.1.1, h.2⟩, fun h => ⟨⟨h.1, by decide⟩, h.2⟩⟩
theorem dX7_restAgree_73 : decode cX7_restAgree 73 = .ok (.iconst 0, 1) := by decide +kernel
theorem rX7_restAgree_73 {R : zP} {x0 x1 x2 x3 : Option zV} {st : List zV} {M : zM} : uX7_restAgree R 73 [x0, x1, x2, x3] st M ↔ uX7_restAgree R 74 [x0, x1, x2, x3] (.inl (0) :: st) M := zU_step dX7_restAgree_73 (Or.inl rfl)
theorem dX7_restAgree_74 : decode cX7_restAgree 74 = .ok (.ireturn, 1) := by decide +kernel
theorem rX7_restAgree_74 {R : zP} {x0 x1 x2 x3 : Option zV} {M : zM} {a : Int} : uX7_restAgree R 74 [x0, x1, x2, x3] [.inl a] M ↔ ((a = 0 ∨ a = 1) ∧ R (some (.inl a)) M) := Iff.trans (zU_step dX7_restAgree_74 (Or.inl rfl)) ⟨fun h => ⟨zret2 rfl h.2.1, h.2.2⟩, fun h => ⟨rfl, Or.inr (Or.inl ⟨rfl, h.1⟩), h.2⟩⟩
theorem dX7_restAgree_75 : decode cX7_restAgree 75 = .ok (.iinc 3 1, 3) := by decide +kernel
theorem rX7_restAgree_75 {R : zP} {x0 x1 x2 : Option zV} {st : List zV} {M : zM} {a : Int} : uX7_restAgree R 75 [x0, x1, x2, some (.inl a)] st M ↔ uX7_restAgree R 78 [x0, x1, zkeep x2, some (.inl (a + (1)))] st M := Iff.trans (zU_step dX7_restAgree_75 (Or.inl rfl)) ⟨fun h => h.2, fun h => ⟨show 3 < 4 by decide, h⟩⟩
theorem dX7_restAgree_78 : decode cX7_restAgree 78 = .ok (.goto (-76), 3) := by decide +kernel
theorem rX7_restAgree_78 {R : zP} {x0 x1 x2 x3 : Option zV} {st : List zV} {M : zM} : uX7_restAgree R 78 [x0, x1, x2, x3] st M ↔ uX7_restAgree R 2 [x0, x1, x2, x3] st M := Iff.trans (zU_step dX7_restAgree_78 (Or.inl rfl)) ⟨fun h => h.2, fun h => ⟨by decide, h⟩⟩
theorem dX7_restAgree_81 : decode cX7_restAgree 81 = .ok (.iconst 1, 1) := by decide +kernel
theorem rX7_restAgree_81 {R : zP} {x0 x1 x2 x3 : Option zV} {st : List zV} {M : zM} : uX7_restAgree R 81 [x0, x1, x2, x3] st M ↔ uX7_restAgree R 82 [x0, x1, x2, x3] (.inl (1) :: st) M := zU_step dX7_restAgree_81 (Or.inl rfl)
theorem dX7_restAgree_82 : decode cX7_restAgree 82 = .ok (.ireturn, 1) := by decide +kernel
theorem rX7_restAgree_82 {R : zP} {x0 x1 x2 x3 : Option zV} {M : zM} {a : Int} : uX7_restAgree R 82 [x0, x1, x2, x3] [.inl a] M ↔ ((a = 0 ∨ a = 1) ∧ R (some (.inl a)) M) := Iff.trans (zU_step dX7_restAgree_82 (Or.inl rfl)) ⟨fun h => ⟨zret2 rfl h.2.1, h.2.2⟩, fun h => ⟨rfl, Or.inr (Or.inl ⟨rfl, h.1⟩), h.2⟩⟩
theorem eX7_restAgree {R : zP} {M : zM} {a0 : Nat} {p0 : Int} {p1 : Int} : tX7_restAgree [.inr (.inr a0), .inl p0, .inl p1] M R ↔ uX7_restAgree R 0 [some (.inr (.inr a0)), some (.inl p0), some (.inl p1), none] [] M := ⟨fun h => h.2, fun h => ⟨show 3 ≤ 4 by decide, h⟩⟩
def uX7_never (R : zP) : zK := zU fX7 vX7_never cX7_never R
theorem dX7_never_0 : decode cX7_never 0 = .ok (.iconst 0, 1) := by decide +kernel
theorem rX7_never_0 {R : zP} {x0 x1 x2 : Option zV} {st : List zV} {M : zM} : uX7_never R 0 [x0, x1, x2] st M ↔ uX7_never R 1 [x0, x1, x2] (.inl (0) :: st) M := zU_step dX7_never_0 (Or.inl rfl)
theorem dX7_never_1 : decode cX7_never 1 = .ok (.istore_n 1, 1) := by decide +kernel
theorem rX7_never_1 {R : zP} {x0 x1 x2 : Option zV} {st : List zV} {M : zM} {a : Int} : uX7_never R 1 [x0, x1, x2] (.inl a :: st) M ↔ uX7_never R 2 [zkeep x0, some (.inl a), x2] st M := Iff.trans (zU_step dX7_never_1 (Or.inl rfl)) ⟨fun h => h.2, fun h => ⟨show 1 < 3 by decide, h⟩⟩
theorem dX7_never_2 : decode cX7_never 2 = .ok (.iconst 0, 1) := by decide +kernel
theorem rX7_never_2 {R : zP} {x0 x1 x2 : Option zV} {st : List zV} {M : zM} : uX7_never R 2 [x0, x1, x2] st M ↔ uX7_never R 3 [x0, x1, x2] (.inl (0) :: st) M := zU_step dX7_never_2 (Or.inl rfl)
theorem dX7_never_3 : decode cX7_never 3 = .ok (.istore_n 2, 1) := by decide +kernel
theorem rX7_never_3 {R : zP} {x0 x1 x2 : Option zV} {st : List zV} {M : zM} {a : Int} : uX7_never R 3 [x0, x1, x2] (.inl a :: st) M ↔ uX7_never R 4 [x0, zkeep x1, some (.inl a)] st M := Iff.trans (zU_step dX7_never_3 (Or.inl rfl)) ⟨fun h => h.2, fun h => ⟨show 2 < 3 by decide, h⟩⟩
theorem dX7_never_4 : decode cX7_never 4 = .ok (.iload_n 2, 1) := by decide +kernel
theorem rX7_never_4 {R : zP} {x0 x1 : Option zV} {st : List zV} {M : zM} {a : Int} : uX7_never R 4 [x0, x1, some (.inl a)] st M ↔ uX7_never R 5 [x0, x1, some (.inl a)] (.inl a :: st) M := zU_step dX7_never_4 (Or.inl rfl)
theorem dX7_never_5 : decode cX7_never 5 = .ok (.aload_n 0, 1) := by decide +kernel
theorem rX7_never_5 {R : zP} {x1 x2 : Option zV} {st : List zV} {M : zM} {a : Nat} : uX7_never R 5 [some (.inr (.inr a)), x1, x2] st M ↔ uX7_never R 6 [some (.inr (.inr a)), x1, x2] (.inr (.inr a) :: st) M := zU_step dX7_never_5 (Or.inl rfl)
theorem dX7_never_6 : decode cX7_never 6 = .ok (.getfield 28, 3) := by decide +kernel
theorem rX7_never_6 {R : zP} {x0 x1 x2 : Option zV} {st : List zV} {M : zM} {r : Nat} : uX7_never R 6 [x0, x1, x2] (.inr (.inr r) :: st) M ↔ zgetx fX7 28 r M (fun v => uX7_never R 9 [x0, x1, x2] (v :: st) M) := zU_step dX7_never_6 (Or.inl rfl)
theorem dX7_never_9 : decode cX7_never 9 = .ok (.getfield 234, 3) := by decide +kernel
theorem rX7_never_9 {R : zP} {x0 x1 x2 : Option zV} {st : List zV} {M : zM} {r : Nat} : uX7_never R 9 [x0, x1, x2] (.inr (.inr r) :: st) M ↔ zgetx fX7 234 r M (fun v => uX7_never R 12 [x0, x1, x2] (v :: st) M) := zU_step dX7_never_9 (Or.inl rfl)
theorem dX7_never_12 : decode cX7_never 12 = .ok (.if_icmp .ge 32, 3) := by decide +kernel
theorem rX7_never_12 {R : zP} {x0 x1 x2 : Option zV} {st : List zV} {M : zM} {a b : Int} : uX7_never R 12 [x0, x1, x2] (.inl b :: .inl a :: st) M ↔ ((zIR a ∧ zIR b) ∧ (b ≤ a → uX7_never R 44 [x0, x1, x2] st M) ∧ (¬ b ≤ a → uX7_never R 15 [x0, x1, x2] st M)) := Iff.trans (zU_step dX7_never_12 (Or.inl rfl)) ⟨fun h => ⟨⟨h.1.1, h.1.2.1⟩, h.2⟩, fun h => ⟨⟨h.1.1, h.1.2, by decide⟩, h.2⟩⟩
theorem dX7_never_15 : decode cX7_never 15 = .ok (.aload_n 0, 1) := by decide +kernel
theorem rX7_never_15 {R : zP} {x1 x2 : Option zV} {st : List zV} {M : zM} {a : Nat} : uX7_never R 15 [some (.inr (.inr a)), x1, x2] st M ↔ uX7_never R 16 [some (.inr (.inr a)), x1, x2] (.inr (.inr a) :: st) M := zU_step dX7_never_15 (Or.inl rfl)
theorem dX7_never_16 : decode cX7_never 16 = .ok (.iconst (-1), 1) := by decide +kernel
theorem rX7_never_16 {R : zP} {x0 x1 x2 : Option zV} {st : List zV} {M : zM} : uX7_never R 16 [x0, x1, x2] st M ↔ uX7_never R 17 [x0, x1, x2] (.inl (-1) :: st) M := zU_step dX7_never_16 (Or.inl rfl)
theorem dX7_never_17 : decode cX7_never 17 = .ok (.sipush 255, 3) := by decide +kernel
theorem rX7_never_17 {R : zP} {x0 x1 x2 : Option zV} {st : List zV} {M : zM} : uX7_never R 17 [x0, x1, x2] st M ↔ uX7_never R 20 [x0, x1, x2] (.inl (255) :: st) M := Iff.trans (zU_step dX7_never_17 (Or.inl rfl)) ⟨fun h => h.2, fun h => ⟨by decide, h⟩⟩
theorem dX7_never_20 : decode cX7_never 20 = .ok (.iconst 1, 1) := by decide +kernel
theorem rX7_never_20 {R : zP} {x0 x1 x2 : Option zV} {st : List zV} {M : zM} : uX7_never R 20 [x0, x1, x2] st M ↔ uX7_never R 21 [x0, x1, x2] (.inl (1) :: st) M := zU_step dX7_never_20 (Or.inl rfl)
theorem dX7_never_21 : decode cX7_never 21 = .ok (.iload_n 2, 1) := by decide +kernel
theorem rX7_never_21 {R : zP} {x0 x1 : Option zV} {st : List zV} {M : zM} {a : Int} : uX7_never R 21 [x0, x1, some (.inl a)] st M ↔ uX7_never R 22 [x0, x1, some (.inl a)] (.inl a :: st) M := zU_step dX7_never_21 (Or.inl rfl)
theorem dX7_never_22 : decode cX7_never 22 = .ok (.ishl, 1) := by decide +kernel
theorem rX7_never_22 {R : zP} {x0 x1 x2 : Option zV} {st : List zV} {M : zM} {a b : Int} : uX7_never R 22 [x0, x1, x2] (.inl b :: .inl a :: st) M ↔ uX7_never R 23 [x0, x1, x2] (.inl (zshl a b) :: st) M := zU_step dX7_never_22 (Or.inl rfl)
theorem dX7_never_23 : decode cX7_never 23 = .ok (.iconst (-1), 1) := by decide +kernel
theorem rX7_never_23 {R : zP} {x0 x1 x2 : Option zV} {st : List zV} {M : zM} : uX7_never R 23 [x0, x1, x2] st M ↔ uX7_never R 24 [x0, x1, x2] (.inl (-1) :: st) M := zU_step dX7_never_23 (Or.inl rfl)
theorem dX7_never_24 : decode cX7_never 24 = .ok (.ixor, 1) := by decide +kernel
theorem rX7_never_24 {R : zP} {x0 x1 x2 : Option zV} {st : List zV} {M : zM} {a b : Int} : uX7_never R 24 [x0, x1, x2] (.inl b :: .inl a :: st) M ↔ uX7_never R 25 [x0, x1, x2] (.inl (zxor a b) :: st) M := zU_step dX7_never_24 (Or.inl rfl)
theorem dX7_never_25 : decode cX7_never 25 = .ok (.iand, 1) := by decide +kernel
theorem rX7_never_25 {R : zP} {x0 x1 x2 : Option zV} {st : List zV} {M : zM} {a b : Int} : uX7_never R 25 [x0, x1, x2] (.inl b :: .inl a :: st) M ↔ uX7_never R 26 [x0, x1, x2] (.inl (zand a b) :: st) M := zU_step dX7_never_25 (Or.inl rfl)
theorem dX7_never_26 : decode cX7_never 26 = .ok (.invokevirtual 235, 3) := by decide +kernel
theorem rX7_never_26 {R : zP} {x0 x1 x2 : Option zV} {st : List zV} {M : zM} {a0 a1 a2 : zV} : uX7_never R 26 [x0, x1, x2] (a2 :: a1 :: a0 :: st) M ↔ (st.length ≤ 4 ∧ zcv (zv 7 tX7_restAgree) [a0, a1, a2] M (fun v M => uX7_never R 29 [x0, x1, x2] (v :: st) M)) := Iff.trans (zU_step dX7_never_26 (Or.inl rfl)) ⟨fun h => ⟨h.2.1, zcv_of h.2.2⟩, fun h => ⟨rfl, h.1, zcv_to h.2⟩⟩
theorem dX7_never_29 : decode cX7_never 29 = .ok (.ifCond .eq 9, 3) := by decide +kernel
theorem rX7_never_29 {R : zP} {x0 x1 x2 : Option zV} {st : List zV} {M : zM} {a : Int} : uX7_never R 29 [x0, x1, x2] (.inl a :: st) M ↔ (zIR a ∧ (a = 0 → uX7_never R 38 [x0, x1, x2] st M) ∧ (¬ a = 0 → uX7_never R 32 [x0, x1, x2] st M)) := Iff.trans (zU_step dX7_never_29 (Or.inl rfl)) ⟨fun h => ⟨h.1.1, h.2⟩, fun h => ⟨⟨h.1, by decide⟩, h.2⟩⟩
theorem dX7_never_32 : decode cX7_never 32 = .ok (.iload_n 1, 1) := by decide +kernel
theorem rX7_never_32 {R : zP} {x0 x2 : Option zV} {st : List zV} {M : zM} {a : Int} : uX7_never R 32 [x0, some (.inl a), x2] st M ↔ uX7_never R 33 [x0, some (.inl a), x2] (.inl a :: st) M := zU_step dX7_never_32 (Or.inl rfl)
theorem dX7_never_33 : decode cX7_never 33 = .ok (.iconst 1, 1) := by decide +kernel
theorem rX7_never_33 {R : zP} {x0 x1 x2 : Option zV} {st : List zV} {M : zM} : uX7_never R 33 [x0, x1, x2] st M ↔ uX7_never R 34 [x0, x1, x2] (.inl (1) :: st) M := zU_step dX7_never_33 (Or.inl rfl)
theorem dX7_never_34 : decode cX7_never 34 = .ok (.iload_n 2, 1) := by decide +kernel
theorem rX7_never_34 {R : zP} {x0 x1 : Option zV} {st : List zV} {M : zM} {a : Int} : uX7_never R 34 [x0, x1, some (.inl a)] st M ↔ uX7_never R 35 [x0, x1, some (.inl a)] (.inl a :: st) M := zU_step dX7_never_34 (Or.inl rfl)
theorem dX7_never_35 : decode cX7_never 35 = .ok (.ishl, 1) := by decide +kernel
theorem rX7_never_35 {R : zP} {x0 x1 x2 : Option zV} {st : List zV} {M : zM} {a b : Int} : uX7_never R 35 [x0, x1, x2] (.inl b :: .inl a :: st) M ↔ uX7_never R 36 [x0, x1, x2] (.inl (zshl a b) :: st) M := zU_step dX7_never_35 (Or.inl rfl)
theorem dX7_never_36 : decode cX7_never 36 = .ok (.ior, 1) := by decide +kernel
theorem rX7_never_36 {R : zP} {x0 x1 x2 : Option zV} {st : List zV} {M : zM} {a b : Int} : uX7_never R 36 [x0, x1, x2] (.inl b :: .inl a :: st) M ↔ uX7_never R 37 [x0, x1, x2] (.inl (zor a b) :: st) M := zU_step dX7_never_36 (Or.inl rfl)
theorem dX7_never_37 : decode cX7_never 37 = .ok (.istore_n 1, 1) := by decide +kernel
theorem rX7_never_37 {R : zP} {x0 x1 x2 : Option zV} {st : List zV} {M : zM} {a : Int} : uX7_never R 37 [x0, x1, x2] (.inl a :: st) M ↔ uX7_never R 38 [zkeep x0, some (.inl a), x2] st M := Iff.trans (zU_step dX7_never_37 (Or.inl rfl)) ⟨fun h => h.2, fun h => ⟨show 1 < 3 by decide, h⟩⟩
theorem dX7_never_38 : decode cX7_never 38 = .ok (.iinc 2 1, 3) := by decide +kernel
theorem rX7_never_38 {R : zP} {x0 x1 : Option zV} {st : List zV} {M : zM} {a : Int} : uX7_never R 38 [x0, x1, some (.inl a)] st M ↔ uX7_never R 41 [x0, zkeep x1, some (.inl (a + (1)))] st M := Iff.trans (zU_step dX7_never_38 (Or.inl rfl)) ⟨fun h => h.2, fun h => ⟨show 2 < 3 by decide, h⟩⟩
theorem dX7_never_41 : decode cX7_never 41 = .ok (.goto (-37), 3) := by decide +kernel
theorem rX7_never_41 {R : zP} {x0 x1 x2 : Option zV} {st : List zV} {M : zM} : uX7_never R 41 [x0, x1, x2] st M ↔ uX7_never R 4 [x0, x1, x2] st M := Iff.trans (zU_step dX7_never_41 (Or.inl rfl)) ⟨fun h => h.2, fun h => ⟨by decide, h⟩⟩
theorem dX7_never_44 : decode cX7_never 44 = .ok (.iload_n 1, 1) := by decide +kernel
theorem rX7_never_44 {R : zP} {x0 x2 : Option zV} {st : List zV} {M : zM} {a : Int} : uX7_never R 44 [x0, some (.inl a), x2] st M ↔ uX7_never R 45 [x0, some (.inl a), x2] (.inl a :: st) M := zU_step dX7_never_44 (Or.inl rfl)
theorem dX7_never_45 : decode cX7_never 45 = .ok (.ireturn, 1) := by decide +kernel
theorem rX7_never_45 {R : zP} {x0 x1 x2 : Option zV} {M : zM} {a : Int} : uX7_never R 45 [x0, x1, x2] [.inl a] M ↔ R (some (.inl a)) M := Iff.trans (zU_step dX7_never_45 (Or.inl rfl)) ⟨fun h => h.2.2, fun h => ⟨rfl, Or.inl rfl, h⟩⟩
theorem eX7_never {R : zP} {M : zM} {a0 : Nat} : tX7_never [.inr (.inr a0)] M R ↔ uX7_never R 0 [some (.inr (.inr a0)), none, none] [] M := ⟨fun h => h.2, fun h => ⟨show 1 ≤ 3 by decide, h⟩⟩
def uX7_sort (R : zP) : zK := zU fX7 vX7_sort cX7_sort R
theorem dX7_sort_0 : decode cX7_sort 0 = .ok (.iload_n 1, 1) := by decide +kernel
theorem rX7_sort_0 {R : zP} {x0 x2 x3 : Option zV} {st : List zV} {M : zM} {a : Int} : uX7_sort R 0 [x0, some (.inl a), x2, x3] st M ↔ uX7_sort R 1 [x0, some (.inl a), x2, x3] (.inl a :: st) M := zU_step dX7_sort_0 (Or.inl rfl)
theorem dX7_sort_1 : decode cX7_sort 1 = .ok (.aload_n 0, 1) := by decide +kernel
theorem rX7_sort_1 {R : zP} {x1 x2 x3 : Option zV} {st : List zV} {M : zM} {a : Nat} : uX7_sort R 1 [some (.inr (.inr a)), x1, x2, x3] st M ↔ uX7_sort R 2 [some (.inr (.inr a)), x1, x2, x3] (.inr (.inr a) :: st) M := zU_step dX7_sort_1 (Or.inl rfl)
theorem dX7_sort_2 : decode cX7_sort 2 = .ok (.getfield 14, 3) := by decide +kernel
theorem rX7_sort_2 {R : zP} {x0 x1 x2 x3 : Option zV} {st : List zV} {M : zM} {r : Nat} : uX7_sort R 2 [x0, x1, x2, x3] (.inr (.inr r) :: st) M ↔ zgetx fX7 14 r M (fun v => uX7_sort R 5 [x0, x1, x2, x3] (v :: st) M) := zU_step dX7_sort_2 (Or.inl rfl)
theorem dX7_sort_5 : decode cX7_sort 5 = .ok (.getfield 116, 3) := by decide +kernel
theorem rX7_sort_5 {R : zP} {x0 x1 x2 x3 : Option zV} {st : List zV} {M : zM} {r : Nat} : uX7_sort R 5 [x0, x1, x2, x3] (.inr (.inr r) :: st) M ↔ zgetx fX7 116 r M (fun v => uX7_sort R 8 [x0, x1, x2, x3] (v :: st) M) := zU_step dX7_sort_5 (Or.inl rfl)
theorem dX7_sort_8 : decode cX7_sort 8 = .ok (.invokestatic 94, 3) := by decide +kernel
theorem rX7_sort_8 {R : zP} {x0 x1 x2 x3 : Option zV} {st : List zV} {M : zM} {a0 a1 : zV} : uX7_sort R 8 [x0, x1, x2, x3] (a1 :: a0 :: st) M ↔ (st.length ≤ 4 ∧ zcv tX7_outside [a0, a1] M (fun v M => uX7_sort R 11 [x0, x1, x2, x3] (v :: st) M)) := Iff.trans (zU_step dX7_sort_8 (Or.inl rfl)) ⟨fun h => ⟨h.2.1, zcv_of h.2.2⟩, fun h => ⟨rfl, h.1, zcv_to h.2⟩⟩
theorem dX7_sort_11 : decode cX7_sort 11 = .ok (.ifCond .eq 6, 3) := by decide +kernel
theorem rX7_sort_11 {R : zP} {x0 x1 x2 x3 : Option zV} {st : List zV} {M : zM} {a : Int} : uX7_sort R 11 [x0, x1, x2, x3] (.inl a :: st) M ↔ (zIR a ∧ (a = 0 → uX7_sort R 17 [x0, x1, x2, x3] st M) ∧ (¬ a = 0 → uX7_sort R 14 [x0, x1, x2, x3] st M)) := Iff.trans (zU_step dX7_sort_11 (Or.inl rfl)) ⟨fun h => ⟨h.1.1, h.2⟩, fun h => ⟨⟨h.1, by decide⟩, h.2⟩⟩
theorem dX7_sort_14 : decode cX7_sort 14 = .ok (.bipush (-2), 2) := by decide +kernel
theorem rX7_sort_14 {R : zP} {x0 x1 x2 x3 : Option zV} {st : List zV} {M : zM} : uX7_sort R 14 [x0, x1, x2, x3] st M ↔ uX7_sort R 16 [x0, x1, x2, x3] (.inl (-2) :: st) M := Iff.trans (zU_step dX7_sort_14 (Or.inl rfl)) ⟨fun h => h.2, fun h => ⟨by decide, h⟩⟩
theorem dX7_sort_16 : decode cX7_sort 16 = .ok (.ireturn, 1) := by decide +kernel
theorem rX7_sort_16 {R : zP} {x0 x1 x2 x3 : Option zV} {M : zM} {a : Int} : uX7_sort R 16 [x0, x1, x2, x3] [.inl a] M ↔ R (some (.inl a)) M := Iff.trans (zU_step dX7_sort_16 (Or.inl rfl)) ⟨fun h => h.2.2, fun h => ⟨rfl, Or.inl rfl, h⟩⟩
theorem dX7_sort_17 : decode cX7_sort 17 = .ok (.iconst 0, 1) := by decide +kernel
theorem rX7_sort_17 {R : zP} {x0 x1 x2 x3 : Option zV} {st : List zV} {M : zM} : uX7_sort R 17 [x0, x1, x2, x3] st M ↔ uX7_sort R 18 [x0, x1, x2, x3] (.inl (0) :: st) M := zU_step dX7_sort_17 (Or.inl rfl)
theorem dX7_sort_18 : decode cX7_sort 18 = .ok (.istore_n 2, 1) := by decide +kernel
theorem rX7_sort_18 {R : zP} {x0 x1 x2 x3 : Option zV} {st : List zV} {M : zM} {a : Int} : uX7_sort R 18 [x0, x1, x2, x3] (.inl a :: st) M ↔ uX7_sort R 19 [x0, zkeep x1, some (.inl a), x3] st M := Iff.trans (zU_step dX7_sort_18 (Or.inl rfl)) ⟨fun h => h.2, fun h => ⟨show 2 < 4 by decide, h⟩⟩
theorem dX7_sort_19 : decode cX7_sort 19 = .ok (.aload_n 0, 1) := by decide +kernel
theorem rX7_sort_19 {R : zP} {x1 x2 x3 : Option zV} {st : List zV} {M : zM} {a : Nat} : uX7_sort R 19 [some (.inr (.inr a)), x1, x2, x3] st M ↔ uX7_sort R 20 [some (.inr (.inr a)), x1, x2, x3] (.inr (.inr a) :: st) M := zU_step dX7_sort_19 (Or.inl rfl)
theorem dX7_sort_20 : decode cX7_sort 20 = .ok (.iload_n 1, 1) := by decide +kernel
theorem rX7_sort_20 {R : zP} {x0 x2 x3 : Option zV} {st : List zV} {M : zM} {a : Int} : uX7_sort R 20 [x0, some (.inl a), x2, x3] st M ↔ uX7_sort R 21 [x0, some (.inl a), x2, x3] (.inl a :: st) M := zU_step dX7_sort_20 (Or.inl rfl)
theorem dX7_sort_21 : decode cX7_sort 21 = .ok (.sipush 255, 3) := by decide +kernel
theorem rX7_sort_21 {R : zP} {x0 x1 x2 x3 : Option zV} {st : List zV} {M : zM} : uX7_sort R 21 [x0, x1, x2, x3] st M ↔ uX7_sort R 24 [x0, x1, x2, x3] (.inl (255) :: st) M := Iff.trans (zU_step dX7_sort_21 (Or.inl rfl)) ⟨fun h => h.2, fun h => ⟨by decide, h⟩⟩
theorem dX7_sort_24 : decode cX7_sort 24 = .ok (.invokevirtual 235, 3) := by decide +kernel
theorem rX7_sort_24 {R : zP} {x0 x1 x2 x3 : Option zV} {st : List zV} {M : zM} {a0 a1 a2 : zV} : uX7_sort R 24 [x0, x1, x2, x3] (a2 :: a1 :: a0 :: st) M ↔ (st.length ≤ 4 ∧ zcv (zv 7 tX7_restAgree) [a0, a1, a2] M (fun v M => uX7_sort R 27 [x0, x1, x2, x3] (v :: st) M)) := Iff.trans (zU_step dX7_sort_24 (Or.inl rfl)) ⟨fun h => ⟨h.2.1, zcv_of h.2.2⟩, fun h => ⟨rfl, h.1, zcv_to h.2⟩⟩
theorem dX7_sort_27 : decode cX7_sort 27 = .ok (.ifCond .eq 64, 3) := by decide +kernel
theorem rX7_sort_27 {R : zP} {x0 x1 x2 x3 : Option zV} {st : List zV} {M : zM} {a : Int} : uX7_sort R 27 [x0, x1, x2, x3] (.inl a :: st) M ↔ (zIR a ∧ (a = 0 → uX7_sort R 91 [x0, x1, x2, x3] st M) ∧ (¬ a = 0 → uX7_sort R 30 [x0, x1, x2, x3] st M)) := Iff.trans (zU_step dX7_sort_27 (Or.inl rfl)) ⟨fun h => ⟨h.1.1, h.2⟩, fun h => ⟨⟨h.1, by decide⟩, h.2⟩⟩
theorem dX7_sort_30 : decode cX7_sort 30 = .ok (.iconst 0, 1) := by decide +kernel
theorem rX7_sort_30 {R : zP} {x0 x1 x2 x3 : Option zV} {st : List zV} {M : zM} : uX7_sort R 30 [x0, x1, x2, x3] st M ↔ uX7_sort R 31 [x0, x1, x2, x3] (.inl (0) :: st) M := zU_step dX7_sort_30 (Or.inl rfl)
theorem dX7_sort_31 : decode cX7_sort 31 = .ok (.istore_n 3, 1) := by decide +kernel
theorem rX7_sort_31 {R : zP} {x0 x1 x2 x3 : Option zV} {st : List zV} {M : zM} {a : Int} : uX7_sort R 31 [x0, x1, x2, x3] (.inl a :: st) M ↔ uX7_sort R 32 [x0, x1, zkeep x2, some (.inl a)] st M := Iff.trans (zU_step dX7_sort_31 (Or.inl rfl)) ⟨fun h => h.2, fun h => ⟨show 3 < 4 by decide, h⟩⟩
theorem dX7_sort_32 : decode cX7_sort 32 = .ok (.iload_n 3, 1) := by decide +kernel
theorem rX7_sort_32 {R : zP} {x0 x1 x2 : Option zV} {st : List zV} {M : zM} {a : Int} : uX7_sort R 32 [x0, x1, x2, some (.inl a)] st M ↔ uX7_sort R 33 [x0, x1, x2, some (.inl a)] (.inl a :: st) M := zU_step dX7_sort_32 (Or.inl rfl)
theorem dX7_sort_33 : decode cX7_sort 33 = .ok (.iconst 3, 1) := by decide +kernel
theorem rX7_sort_33 {R : zP} {x0 x1 x2 x3 : Option zV} {st : List zV} {M : zM} : uX7_sort R 33 [x0, x1, x2, x3] st M ↔ uX7_sort R 34 [x0, x1, x2, x3] (.inl (3) :: st) M := zU_step dX7_sort_33 (Or.inl rfl)
theorem dX7_sort_34 : decode cX7_sort 34 = .ok (.if_icmp .ge 57, 3) := by decide +kernel
theorem rX7_sort_34 {R : zP} {x0 x1 x2 x3 : Option zV} {st : List zV} {M : zM} {a b : Int} : uX7_sort R 34 [x0, x1, x2, x3] (.inl b :: .inl a :: st) M ↔ ((zIR a ∧ zIR b) ∧ (b ≤ a → uX7_sort R 91 [x0, x1, x2, x3] st M) ∧ (¬ b ≤ a → uX7_sort R 37 [x0, x1, x2, x3] st M)) := Iff.trans (zU_step dX7_sort_34 (Or.inl rfl)) ⟨fun h => ⟨⟨h.1.1, h.1.2.1⟩, h.2⟩, fun h => ⟨⟨h.1.1, h.1.2, by decide⟩, h.2⟩⟩
theorem dX7_sort_37 : decode cX7_sort 37 = .ok (.aload_n 0, 1) := by decide +kernel
theorem rX7_sort_37 {R : zP} {x1 x2 x3 : Option zV} {st : List zV} {M : zM} {a : Nat} : uX7_sort R 37 [some (.inr (.inr a)), x1, x2, x3] st M ↔ uX7_sort R 38 [some (.inr (.inr a)), x1, x2, x3] (.inr (.inr a) :: st) M := zU_step dX7_sort_37 (Or.inl rfl)
theorem dX7_sort_38 : decode cX7_sort 38 = .ok (.getfield 55, 3) := by decide +kernel
theorem rX7_sort_38 {R : zP} {x0 x1 x2 x3 : Option zV} {st : List zV} {M : zM} {r : Nat} : uX7_sort R 38 [x0, x1, x2, x3] (.inr (.inr r) :: st) M ↔ zgetx fX7 55 r M (fun v => uX7_sort R 41 [x0, x1, x2, x3] (v :: st) M) := zU_step dX7_sort_38 (Or.inl rfl)
theorem dX7_sort_41 : decode cX7_sort 41 = .ok (.aload_n 0, 1) := by decide +kernel
theorem rX7_sort_41 {R : zP} {x1 x2 x3 : Option zV} {st : List zV} {M : zM} {a : Nat} : uX7_sort R 41 [some (.inr (.inr a)), x1, x2, x3] st M ↔ uX7_sort R 42 [some (.inr (.inr a)), x1, x2, x3] (.inr (.inr a) :: st) M := zU_step dX7_sort_41 (Or.inl rfl)
theorem dX7_sort_42 : decode cX7_sort 42 = .ok (.getfield 14, 3) := by decide +kernel
theorem rX7_sort_42 {R : zP} {x0 x1 x2 x3 : Option zV} {st : List zV} {M : zM} {r : Nat} : uX7_sort R 42 [x0, x1, x2, x3] (.inr (.inr r) :: st) M ↔ zgetx fX7 14 r M (fun v => uX7_sort R 45 [x0, x1, x2, x3] (v :: st) M) := zU_step dX7_sort_42 (Or.inl rfl)
theorem dX7_sort_45 : decode cX7_sort 45 = .ok (.iload_n 1, 1) := by decide +kernel
theorem rX7_sort_45 {R : zP} {x0 x2 x3 : Option zV} {st : List zV} {M : zM} {a : Int} : uX7_sort R 45 [x0, some (.inl a), x2, x3] st M ↔ uX7_sort R 46 [x0, some (.inl a), x2, x3] (.inl a :: st) M := zU_step dX7_sort_45 (Or.inl rfl)
theorem dX7_sort_46 : decode cX7_sort 46 = .ok (.invokevirtual 238, 3) := by decide +kernel
theorem rX7_sort_46 {R : zP} {x0 x1 x2 x3 : Option zV} {st : List zV} {M : zM} {a0 a1 a2 : zV} : uX7_sort R 46 [x0, x1, x2, x3] (a2 :: a1 :: a0 :: st) M ↔ (st.length ≤ 4 ∧ zcn (zv 3 tX3_enter) [a0, a1, a2] M (fun M => uX7_sort R 49 [x0, x1, x2, x3] st M)) := Iff.trans (zU_step dX7_sort_46 (Or.inl rfl)) ⟨fun h => ⟨h.2.1, zcn_of h.2.2⟩, fun h => ⟨rfl, h.1, zcn_to h.2⟩⟩
theorem dX7_sort_49 : decode cX7_sort 49 = .ok (.aload_n 0, 1) := by decide +kernel
theorem rX7_sort_49 {R : zP} {x1 x2 x3 : Option zV} {st : List zV} {M : zM} {a : Nat} : uX7_sort R 49 [some (.inr (.inr a)), x1, x2, x3] st M ↔ uX7_sort R 50 [some (.inr (.inr a)), x1, x2, x3] (.inr (.inr a) :: st) M := zU_step dX7_sort_49 (Or.inl rfl)
theorem dX7_sort_50 : decode cX7_sort 50 = .ok (.getfield 55, 3) := by decide +kernel
theorem rX7_sort_50 {R : zP} {x0 x1 x2 x3 : Option zV} {st : List zV} {M : zM} {r : Nat} : uX7_sort R 50 [x0, x1, x2, x3] (.inr (.inr r) :: st) M ↔ zgetx fX7 55 r M (fun v => uX7_sort R 53 [x0, x1, x2, x3] (v :: st) M) := zU_step dX7_sort_50 (Or.inl rfl)
theorem dX7_sort_53 : decode cX7_sort 53 = .ok (.iload_n 3, 1) := by decide +kernel
theorem rX7_sort_53 {R : zP} {x0 x1 x2 : Option zV} {st : List zV} {M : zM} {a : Int} : uX7_sort R 53 [x0, x1, x2, some (.inl a)] st M ↔ uX7_sort R 54 [x0, x1, x2, some (.inl a)] (.inl a :: st) M := zU_step dX7_sort_53 (Or.inl rfl)
theorem dX7_sort_54 : decode cX7_sort 54 = .ok (.invokevirtual 242, 3) := by decide +kernel
theorem rX7_sort_54 {R : zP} {x0 x1 x2 x3 : Option zV} {st : List zV} {M : zM} {a0 a1 : zV} : uX7_sort R 54 [x0, x1, x2, x3] (a1 :: a0 :: st) M ↔ (st.length ≤ 4 ∧ zcn (zv 3 tX3_become) [a0, a1] M (fun M => uX7_sort R 57 [x0, x1, x2, x3] st M)) := Iff.trans (zU_step dX7_sort_54 (Or.inl rfl)) ⟨fun h => ⟨h.2.1, zcn_of h.2.2⟩, fun h => ⟨rfl, h.1, zcn_to h.2⟩⟩
theorem dX7_sort_57 : decode cX7_sort 57 = .ok (.aload_n 0, 1) := by decide +kernel
theorem rX7_sort_57 {R : zP} {x1 x2 x3 : Option zV} {st : List zV} {M : zM} {a : Nat} : uX7_sort R 57 [some (.inr (.inr a)), x1, x2, x3] st M ↔ uX7_sort R 58 [some (.inr (.inr a)), x1, x2, x3] (.inr (.inr a) :: st) M := zU_step dX7_sort_57 (Or.inl rfl)
theorem dX7_sort_58 : decode cX7_sort 58 = .ok (.iload_n 1, 1) := by decide +kernel
theorem rX7_sort_58 {R : zP} {x0 x2 x3 : Option zV} {st : List zV} {M : zM} {a : Int} : uX7_sort R 58 [x0, some (.inl a), x2, x3] st M ↔ uX7_sort R 59 [x0, some (.inl a), x2, x3] (.inl a :: st) M := zU_step dX7_sort_58 (Or.inl rfl)
theorem dX7_sort_59 : decode cX7_sort 59 = .ok (.sipush 255, 3) := by decide +kernel
theorem rX7_sort_59 {R : zP} {x0 x1 x2 x3 : Option zV} {st : List zV} {M : zM} : uX7_sort R 59 [x0, x1, x2, x3] st M ↔ uX7_sort R 62 [x0, x1, x2, x3] (.inl (255) :: st) M := Iff.trans (zU_step dX7_sort_59 (Or.inl rfl)) ⟨fun h => h.2, fun h => ⟨by decide, h⟩⟩
theorem dX7_sort_62 : decode cX7_sort 62 = .ok (.invokevirtual 245, 3) := by decide +kernel
theorem rX7_sort_62 {R : zP} {x0 x1 x2 x3 : Option zV} {st : List zV} {M : zM} {a0 a1 a2 : zV} : uX7_sort R 62 [x0, x1, x2, x3] (a2 :: a1 :: a0 :: st) M ↔ (st.length ≤ 4 ∧ zcn (zv 7 tX7_trace) [a0, a1, a2] M (fun M => uX7_sort R 65 [x0, x1, x2, x3] st M)) := Iff.trans (zU_step dX7_sort_62 (Or.inl rfl)) ⟨fun h => ⟨h.2.1, zcn_of h.2.2⟩, fun h => ⟨rfl, h.1, zcn_to h.2⟩⟩
theorem dX7_sort_65 : decode cX7_sort 65 = .ok (.iload_n 2, 1) := by decide +kernel
theorem rX7_sort_65 {R : zP} {x0 x1 x3 : Option zV} {st : List zV} {M : zM} {a : Int} : uX7_sort R 65 [x0, x1, some (.inl a), x3] st M ↔ uX7_sort R 66 [x0, x1, some (.inl a), x3] (.inl a :: st) M := zU_step dX7_sort_65 (Or.inl rfl)
theorem dX7_sort_66 : decode cX7_sort 66 = .ok (.aload_n 0, 1) := by decide +kernel
theorem rX7_sort_66 {R : zP} {x1 x2 x3 : Option zV} {st : List zV} {M : zM} {a : Nat} : uX7_sort R 66 [some (.inr (.inr a)), x1, x2, x3] st M ↔ uX7_sort R 67 [some (.inr (.inr a)), x1, x2, x3] (.inr (.inr a) :: st) M := zU_step dX7_sort_66 (Or.inl rfl)
theorem dX7_sort_67 : decode cX7_sort 67 = .ok (.getfield 38, 3) := by decide +kernel
theorem rX7_sort_67 {R : zP} {x0 x1 x2 x3 : Option zV} {st : List zV} {M : zM} {r : Nat} : uX7_sort R 67 [x0, x1, x2, x3] (.inr (.inr r) :: st) M ↔ zgetx fX7 38 r M (fun v => uX7_sort R 70 [x0, x1, x2, x3] (v :: st) M) := zU_step dX7_sort_67 (Or.inl rfl)
theorem dX7_sort_70 : decode cX7_sort 70 = .ok (.iload_n 1, 1) := by decide +kernel
theorem rX7_sort_70 {R : zP} {x0 x2 x3 : Option zV} {st : List zV} {M : zM} {a : Int} : uX7_sort R 70 [x0, some (.inl a), x2, x3] st M ↔ uX7_sort R 71 [x0, some (.inl a), x2, x3] (.inl a :: st) M := zU_step dX7_sort_70 (Or.inl rfl)
theorem dX7_sort_71 : decode cX7_sort 71 = .ok (.aload_n 0, 1) := by decide +kernel
theorem rX7_sort_71 {R : zP} {x1 x2 x3 : Option zV} {st : List zV} {M : zM} {a : Nat} : uX7_sort R 71 [some (.inr (.inr a)), x1, x2, x3] st M ↔ uX7_sort R 72 [some (.inr (.inr a)), x1, x2, x3] (.inr (.inr a) :: st) M := zU_step dX7_sort_71 (Or.inl rfl)
theorem dX7_sort_72 : decode cX7_sort 72 = .ok (.getfield 76, 3) := by decide +kernel
theorem rX7_sort_72 {R : zP} {x0 x1 x2 x3 : Option zV} {st : List zV} {M : zM} {r : Nat} : uX7_sort R 72 [x0, x1, x2, x3] (.inr (.inr r) :: st) M ↔ zgetx fX7 76 r M (fun v => uX7_sort R 75 [x0, x1, x2, x3] (v :: st) M) := zU_step dX7_sort_72 (Or.inl rfl)
theorem dX7_sort_75 : decode cX7_sort 75 = .ok (.invokevirtual 249, 3) := by decide +kernel
theorem rX7_sort_75 {R : zP} {x0 x1 x2 x3 : Option zV} {st : List zV} {M : zM} {a0 a1 a2 : zV} : uX7_sort R 75 [x0, x1, x2, x3] (a2 :: a1 :: a0 :: st) M ↔ (st.length ≤ 4 ∧ zcv (zv 6 tX6_agree) [a0, a1, a2] M (fun v M => uX7_sort R 78 [x0, x1, x2, x3] (v :: st) M)) := Iff.trans (zU_step dX7_sort_75 (Or.inl rfl)) ⟨fun h => ⟨h.2.1, zcv_of h.2.2⟩, fun h => ⟨rfl, h.1, zcv_to h.2⟩⟩
theorem dX7_sort_78 : decode cX7_sort 78 = .ok (.invokestatic 155, 3) := by decide +kernel
theorem rX7_sort_78 {R : zP} {x0 x1 x2 x3 : Option zV} {st : List zV} {M : zM} {a0 : zV} : uX7_sort R 78 [x0, x1, x2, x3] (a0 :: st) M ↔ (st.length ≤ 4 ∧ zcv tX7_bit [a0] M (fun v M => uX7_sort R 81 [x0, x1, x2, x3] (v :: st) M)) := Iff.trans (zU_step dX7_sort_78 (Or.inl rfl)) ⟨fun h => ⟨h.2.1, zcv_of h.2.2⟩, fun h => ⟨rfl, h.1, zcv_to h.2⟩⟩
theorem dX7_sort_81 : decode cX7_sort 81 = .ok (.iload_n 3, 1) := by decide +kernel
theorem rX7_sort_81 {R : zP} {x0 x1 x2 : Option zV} {st : List zV} {M : zM} {a : Int} : uX7_sort R 81 [x0, x1, x2, some (.inl a)] st M ↔ uX7_sort R 82 [x0, x1, x2, some (.inl a)] (.inl a :: st) M := zU_step dX7_sort_81 (Or.inl rfl)
theorem dX7_sort_82 : decode cX7_sort 82 = .ok (.ishl, 1) := by decide +kernel
theorem rX7_sort_82 {R : zP} {x0 x1 x2 x3 : Option zV} {st : List zV} {M : zM} {a b : Int} : uX7_sort R 82 [x0, x1, x2, x3] (.inl b :: .inl a :: st) M ↔ uX7_sort R 83 [x0, x1, x2, x3] (.inl (zshl a b) :: st) M := zU_step dX7_sort_82 (Or.inl rfl)
theorem dX7_sort_83 : decode cX7_sort 83 = .ok (.ior, 1) := by decide +kernel
theorem rX7_sort_83 {R : zP} {x0 x1 x2 x3 : Option zV} {st : List zV} {M : zM} {a b : Int} : uX7_sort R 83 [x0, x1, x2, x3] (.inl b :: .inl a :: st) M ↔ uX7_sort R 84 [x0, x1, x2, x3] (.inl (zor a b) :: st) M := zU_step dX7_sort_83 (Or.inl rfl)
theorem dX7_sort_84 : decode cX7_sort 84 = .ok (.istore_n 2, 1) := by decide +kernel
theorem rX7_sort_84 {R : zP} {x0 x1 x2 x3 : Option zV} {st : List zV} {M : zM} {a : Int} : uX7_sort R 84 [x0, x1, x2, x3] (.inl a :: st) M ↔ uX7_sort R 85 [x0, zkeep x1, some (.inl a), x3] st M := Iff.trans (zU_step dX7_sort_84 (Or.inl rfl)) ⟨fun h => h.2, fun h => ⟨show 2 < 4 by decide, h⟩⟩
theorem dX7_sort_85 : decode cX7_sort 85 = .ok (.iinc 3 1, 3) := by decide +kernel
theorem rX7_sort_85 {R : zP} {x0 x1 x2 : Option zV} {st : List zV} {M : zM} {a : Int} : uX7_sort R 85 [x0, x1, x2, some (.inl a)] st M ↔ uX7_sort R 88 [x0, x1, zkeep x2, some (.inl (a + (1)))] st M := Iff.trans (zU_step dX7_sort_85 (Or.inl rfl)) ⟨fun h => h.2, fun h => ⟨show 3 < 4 by decide, h⟩⟩
theorem dX7_sort_88 : decode cX7_sort 88 = .ok (.goto (-56), 3) := by decide +kernel
theorem rX7_sort_88 {R : zP} {x0 x1 x2 x3 : Option zV} {st : List zV} {M : zM} : uX7_sort R 88 [x0, x1, x2, x3] st M ↔ uX7_sort R 32 [x0, x1, x2, x3] st M := Iff.trans (zU_step dX7_sort_88 (Or.inl rfl)) ⟨fun h => h.2, fun h => ⟨by decide, h⟩⟩
theorem dX7_sort_91 : decode cX7_sort 91 = .ok (.iload_n 2, 1) := by decide +kernel
theorem rX7_sort_91 {R : zP} {x0 x1 x3 : Option zV} {st : List zV} {M : zM} {a : Int} : uX7_sort R 91 [x0, x1, some (.inl a), x3] st M ↔ uX7_sort R 92 [x0, x1, some (.inl a), x3] (.inl a :: st) M := zU_step dX7_sort_91 (Or.inl rfl)
theorem dX7_sort_92 : decode cX7_sort 92 = .ok (.ireturn, 1) := by decide +kernel
theorem rX7_sort_92 {R : zP} {x0 x1 x2 x3 : Option zV} {M : zM} {a : Int} : uX7_sort R 92 [x0, x1, x2, x3] [.inl a] M ↔ R (some (.inl a)) M := Iff.trans (zU_step dX7_sort_92 (Or.inl rfl)) ⟨fun h => h.2.2, fun h => ⟨rfl, Or.inl rfl, h⟩⟩
theorem eX7_sort {R : zP} {M : zM} {a0 : Nat} {p0 : Int} : tX7_sort [.inr (.inr a0), .inl p0] M R ↔ uX7_sort R 0 [some (.inr (.inr a0)), some (.inl p0), none, none] [] M := ⟨fun h => h.2, fun h => ⟨show 2 ≤ 4 by decide, h⟩⟩
def uX7_guessFirst (R : zP) : zK := zU fX7 vX7_guessFirst cX7_guessFirst R
theorem dX7_guessFirst_0 : decode cX7_guessFirst 0 = .ok (.iconst 0, 1) := by decide +kernel
theorem rX7_guessFirst_0 {R : zP} {x0 x1 x2 x3 x4 x5 : Option zV} {st : List zV} {M : zM} : uX7_guessFirst R 0 [x0, x1, x2, x3, x4, x5] st M ↔ uX7_guessFirst R 1 [x0, x1, x2, x3, x4, x5] (.inl (0) :: st) M := zU_step dX7_guessFirst_0 (Or.inl rfl)
theorem dX7_guessFirst_1 : decode cX7_guessFirst 1 = .ok (.istore_n 3, 1) := by decide +kernel
theorem rX7_guessFirst_1 {R : zP} {x0 x1 x2 x3 x4 x5 : Option zV} {st : List zV} {M : zM} {a : Int} : uX7_guessFirst R 1 [x0, x1, x2, x3, x4, x5] (.inl a :: st) M ↔ uX7_guessFirst R 2 [x0, x1, zkeep x2, some (.inl a), x4, x5] st M := Iff.trans (zU_step dX7_guessFirst_1 (Or.inl rfl)) ⟨fun h => h.2, fun h => ⟨show 3 < 6 by decide, h⟩⟩
theorem dX7_guessFirst_2 : decode cX7_guessFirst 2 = .ok (.iconst 0, 1) := by decide +kernel
theorem rX7_guessFirst_2 {R : zP} {x0 x1 x2 x3 x4 x5 : Option zV} {st : List zV} {M : zM} : uX7_guessFirst R 2 [x0, x1, x2, x3, x4, x5] st M ↔ uX7_guessFirst R 3 [x0, x1, x2, x3, x4, x5] (.inl (0) :: st) M := zU_step dX7_guessFirst_2 (Or.inl rfl)
theorem dX7_guessFirst_3 : decode cX7_guessFirst 3 = .ok (.istore 4, 2) := by decide +kernel
theorem rX7_guessFirst_3 {R : zP} {x0 x1 x2 x3 x4 x5 : Option zV} {st : List zV} {M : zM} {a : Int} : uX7_guessFirst R 3 [x0, x1, x2, x3, x4, x5] (.inl a :: st) M ↔ uX7_guessFirst R 5 [x0, x1, x2, zkeep x3, some (.inl a), x5] st M := Iff.trans (zU_step dX7_guessFirst_3 (Or.inl rfl)) ⟨fun h => h.2, fun h => ⟨show 4 < 6 by decide, h⟩⟩
theorem dX7_guessFirst_5 : decode cX7_guessFirst 5 = .ok (.iload 4, 2) := by decide +kernel
theorem rX7_guessFirst_5 {R : zP} {x0 x1 x2 x3 x5 : Option zV} {st : List zV} {M : zM} {a : Int} : uX7_guessFirst R 5 [x0, x1, x2, x3, some (.inl a), x5] st M ↔ uX7_guessFirst R 7 [x0, x1, x2, x3, some (.inl a), x5] (.inl a :: st) M := zU_step dX7_guessFirst_5 (Or.inl rfl)
theorem dX7_guessFirst_7 : decode cX7_guessFirst 7 = .ok (.bipush 10, 2) := by decide +kernel
theorem rX7_guessFirst_7 {R : zP} {x0 x1 x2 x3 x4 x5 : Option zV} {st : List zV} {M : zM} : uX7_guessFirst R 7 [x0, x1, x2, x3, x4, x5] st M ↔ uX7_guessFirst R 9 [x0, x1, x2, x3, x4, x5] (.inl (10) :: st) M := Iff.trans (zU_step dX7_guessFirst_7 (Or.inl rfl)) ⟨fun h => h.2, fun h => ⟨by decide, h⟩⟩
theorem dX7_guessFirst_9 : decode cX7_guessFirst 9 = .ok (.if_icmp .ge 100, 3) := by decide +kernel
theorem rX7_guessFirst_9 {R : zP} {x0 x1 x2 x3 x4 x5 : Option zV} {st : List zV} {M : zM} {a b : Int} : uX7_guessFirst R 9 [x0, x1, x2, x3, x4, x5] (.inl b :: .inl a :: st) M ↔ ((zIR a ∧ zIR b) ∧ (b ≤ a → uX7_guessFirst R 109 [x0, x1, x2, x3, x4, x5] st M) ∧ (¬ b ≤ a → uX7_guessFirst R 12 [x0, x1, x2, x3, x4, x5] st M)) := Iff.trans (zU_step dX7_guessFirst_9 (Or.inl rfl)) ⟨fun h => ⟨⟨h.1.1, h.1.2.1⟩, h.2⟩, fun h => ⟨⟨h.1.1, h.1.2, by decide⟩, h.2⟩⟩
theorem dX7_guessFirst_12 : decode cX7_guessFirst 12 = .ok (.aload_n 0, 1) := by decide +kernel
theorem rX7_guessFirst_12 {R : zP} {x1 x2 x3 x4 x5 : Option zV} {st : List zV} {M : zM} {a : Nat} : uX7_guessFirst R 12 [some (.inr (.inr a)), x1, x2, x3, x4, x5] st M ↔ uX7_guessFirst R 13 [some (.inr (.inr a)), x1, x2, x3, x4, x5] (.inr (.inr a) :: st) M := zU_step dX7_guessFirst_12 (Or.inl rfl)
theorem dX7_guessFirst_13 : decode cX7_guessFirst 13 = .ok (.getfield 55, 3) := by decide +kernel
theorem rX7_guessFirst_13 {R : zP} {x0 x1 x2 x3 x4 x5 : Option zV} {st : List zV} {M : zM} {r : Nat} : uX7_guessFirst R 13 [x0, x1, x2, x3, x4, x5] (.inr (.inr r) :: st) M ↔ zgetx fX7 55 r M (fun v => uX7_guessFirst R 16 [x0, x1, x2, x3, x4, x5] (v :: st) M) := zU_step dX7_guessFirst_13 (Or.inl rfl)
theorem dX7_guessFirst_16 : decode cX7_guessFirst 16 = .ok (.aload_n 0, 1) := by decide +kernel
theorem rX7_guessFirst_16 {R : zP} {x1 x2 x3 x4 x5 : Option zV} {st : List zV} {M : zM} {a : Nat} : uX7_guessFirst R 16 [some (.inr (.inr a)), x1, x2, x3, x4, x5] st M ↔ uX7_guessFirst R 17 [some (.inr (.inr a)), x1, x2, x3, x4, x5] (.inr (.inr a) :: st) M := zU_step dX7_guessFirst_16 (Or.inl rfl)
theorem dX7_guessFirst_17 : decode cX7_guessFirst 17 = .ok (.getfield 14, 3) := by decide +kernel
theorem rX7_guessFirst_17 {R : zP} {x0 x1 x2 x3 x4 x5 : Option zV} {st : List zV} {M : zM} {r : Nat} : uX7_guessFirst R 17 [x0, x1, x2, x3, x4, x5] (.inr (.inr r) :: st) M ↔ zgetx fX7 14 r M (fun v => uX7_guessFirst R 20 [x0, x1, x2, x3, x4, x5] (v :: st) M) := zU_step dX7_guessFirst_17 (Or.inl rfl)
theorem dX7_guessFirst_20 : decode cX7_guessFirst 20 = .ok (.iload_n 1, 1) := by decide +kernel
theorem rX7_guessFirst_20 {R : zP} {x0 x2 x3 x4 x5 : Option zV} {st : List zV} {M : zM} {a : Int} : uX7_guessFirst R 20 [x0, some (.inl a), x2, x3, x4, x5] st M ↔ uX7_guessFirst R 21 [x0, some (.inl a), x2, x3, x4, x5] (.inl a :: st) M := zU_step dX7_guessFirst_20 (Or.inl rfl)
theorem dX7_guessFirst_21 : decode cX7_guessFirst 21 = .ok (.invokevirtual 238, 3) := by decide +kernel
theorem rX7_guessFirst_21 {R : zP} {x0 x1 x2 x3 x4 x5 : Option zV} {st : List zV} {M : zM} {a0 a1 a2 : zV} : uX7_guessFirst R 21 [x0, x1, x2, x3, x4, x5] (a2 :: a1 :: a0 :: st) M ↔ (st.length ≤ 4 ∧ zcn (zv 3 tX3_enter) [a0, a1, a2] M (fun M => uX7_guessFirst R 24 [x0, x1, x2, x3, x4, x5] st M)) := Iff.trans (zU_step dX7_guessFirst_21 (Or.inl rfl)) ⟨fun h => ⟨h.2.1, zcn_of h.2.2⟩, fun h => ⟨rfl, h.1, zcn_to h.2⟩⟩
theorem dX7_guessFirst_24 : decode cX7_guessFirst 24 = .ok (.aload_n 0, 1) := by decide +kernel
theorem rX7_guessFirst_24 {R : zP} {x1 x2 x3 x4 x5 : Option zV} {st : List zV} {M : zM} {a : Nat} : uX7_guessFirst R 24 [some (.inr (.inr a)), x1, x2, x3, x4, x5] st M ↔ uX7_guessFirst R 25 [some (.inr (.inr a)), x1, x2, x3, x4, x5] (.inr (.inr a) :: st) M := zU_step dX7_guessFirst_24 (Or.inl rfl)
theorem dX7_guessFirst_25 : decode cX7_guessFirst 25 = .ok (.getfield 55, 3) := by decide +kernel
theorem rX7_guessFirst_25 {R : zP} {x0 x1 x2 x3 x4 x5 : Option zV} {st : List zV} {M : zM} {r : Nat} : uX7_guessFirst R 25 [x0, x1, x2, x3, x4, x5] (.inr (.inr r) :: st) M ↔ zgetx fX7 55 r M (fun v => uX7_guessFirst R 28 [x0, x1, x2, x3, x4, x5] (v :: st) M) := zU_step dX7_guessFirst_25 (Or.inl rfl)
theorem dX7_guessFirst_28 : decode cX7_guessFirst 28 = .ok (.iload_n 2, 1) := by decide +kernel
theorem rX7_guessFirst_28 {R : zP} {x0 x1 x3 x4 x5 : Option zV} {st : List zV} {M : zM} {a : Int} : uX7_guessFirst R 28 [x0, x1, some (.inl a), x3, x4, x5] st M ↔ uX7_guessFirst R 29 [x0, x1, some (.inl a), x3, x4, x5] (.inl a :: st) M := zU_step dX7_guessFirst_28 (Or.inl rfl)
theorem dX7_guessFirst_29 : decode cX7_guessFirst 29 = .ok (.iload 4, 2) := by decide +kernel
theorem rX7_guessFirst_29 {R : zP} {x0 x1 x2 x3 x5 : Option zV} {st : List zV} {M : zM} {a : Int} : uX7_guessFirst R 29 [x0, x1, x2, x3, some (.inl a), x5] st M ↔ uX7_guessFirst R 31 [x0, x1, x2, x3, some (.inl a), x5] (.inl a :: st) M := zU_step dX7_guessFirst_29 (Or.inl rfl)
theorem dX7_guessFirst_31 : decode cX7_guessFirst 31 = .ok (.invokevirtual 387, 3) := by decide +kernel
theorem rX7_guessFirst_31 {R : zP} {x0 x1 x2 x3 x4 x5 : Option zV} {st : List zV} {M : zM} {a0 a1 a2 : zV} : uX7_guessFirst R 31 [x0, x1, x2, x3, x4, x5] (a2 :: a1 :: a0 :: st) M ↔ (st.length ≤ 4 ∧ zcn (zv 3 tX3_hold) [a0, a1, a2] M (fun M => uX7_guessFirst R 34 [x0, x1, x2, x3, x4, x5] st M)) := Iff.trans (zU_step dX7_guessFirst_31 (Or.inl rfl)) ⟨fun h => ⟨h.2.1, zcn_of h.2.2⟩, fun h => ⟨rfl, h.1, zcn_to h.2⟩⟩
theorem dX7_guessFirst_34 : decode cX7_guessFirst 34 = .ok (.aload_n 0, 1) := by decide +kernel
theorem rX7_guessFirst_34 {R : zP} {x1 x2 x3 x4 x5 : Option zV} {st : List zV} {M : zM} {a : Nat} : uX7_guessFirst R 34 [some (.inr (.inr a)), x1, x2, x3, x4, x5] st M ↔ uX7_guessFirst R 35 [some (.inr (.inr a)), x1, x2, x3, x4, x5] (.inr (.inr a) :: st) M := zU_step dX7_guessFirst_34 (Or.inl rfl)
theorem dX7_guessFirst_35 : decode cX7_guessFirst 35 = .ok (.iload_n 1, 1) := by decide +kernel
theorem rX7_guessFirst_35 {R : zP} {x0 x2 x3 x4 x5 : Option zV} {st : List zV} {M : zM} {a : Int} : uX7_guessFirst R 35 [x0, some (.inl a), x2, x3, x4, x5] st M ↔ uX7_guessFirst R 36 [x0, some (.inl a), x2, x3, x4, x5] (.inl a :: st) M := zU_step dX7_guessFirst_35 (Or.inl rfl)
theorem dX7_guessFirst_36 : decode cX7_guessFirst 36 = .ok (.sipush 255, 3) := by decide +kernel
theorem rX7_guessFirst_36 {R : zP} {x0 x1 x2 x3 x4 x5 : Option zV} {st : List zV} {M : zM} : uX7_guessFirst R 36 [x0, x1, x2, x3, x4, x5] st M ↔ uX7_guessFirst R 39 [x0, x1, x2, x3, x4, x5] (.inl (255) :: st) M := Iff.trans (zU_step dX7_guessFirst_36 (Or.inl rfl)) ⟨fun h => h.2, fun h => ⟨by decide, h⟩⟩
theorem dX7_guessFirst_39 : decode cX7_guessFirst 39 = .ok (.invokevirtual 245, 3) := by decide +kernel
theorem rX7_guessFirst_39 {R : zP} {x0 x1 x2 x3 x4 x5 : Option zV} {st : List zV} {M : zM} {a0 a1 a2 : zV} : uX7_guessFirst R 39 [x0, x1, x2, x3, x4, x5] (a2 :: a1 :: a0 :: st) M ↔ (st.length ≤ 4 ∧ zcn (zv 7 tX7_trace) [a0, a1, a2] M (fun M => uX7_guessFirst R 42 [x0, x1, x2, x3, x4, x5] st M)) := Iff.trans (zU_step dX7_guessFirst_39 (Or.inl rfl)) ⟨fun h => ⟨h.2.1, zcn_of h.2.2⟩, fun h => ⟨rfl, h.1, zcn_to h.2⟩⟩
theorem dX7_guessFirst_42 : decode cX7_guessFirst 42 = .ok (.iload_n 3, 1) := by decide +kernel
theorem rX7_guessFirst_42 {R : zP} {x0 x1 x2 x4 x5 : Option zV} {st : List zV} {M : zM} {a : Int} : uX7_guessFirst R 42 [x0, x1, x2, some (.inl a), x4, x5] st M ↔ uX7_guessFirst R 43 [x0, x1, x2, some (.inl a), x4, x5] (.inl a :: st) M := zU_step dX7_guessFirst_42 (Or.inl rfl)
theorem dX7_guessFirst_43 : decode cX7_guessFirst 43 = .ok (.aload_n 0, 1) := by decide +kernel
theorem rX7_guessFirst_43 {R : zP} {x1 x2 x3 x4 x5 : Option zV} {st : List zV} {M : zM} {a : Nat} : uX7_guessFirst R 43 [some (.inr (.inr a)), x1, x2, x3, x4, x5] st M ↔ uX7_guessFirst R 44 [some (.inr (.inr a)), x1, x2, x3, x4, x5] (.inr (.inr a) :: st) M := zU_step dX7_guessFirst_43 (Or.inl rfl)
theorem dX7_guessFirst_44 : decode cX7_guessFirst 44 = .ok (.getfield 38, 3) := by decide +kernel
theorem rX7_guessFirst_44 {R : zP} {x0 x1 x2 x3 x4 x5 : Option zV} {st : List zV} {M : zM} {r : Nat} : uX7_guessFirst R 44 [x0, x1, x2, x3, x4, x5] (.inr (.inr r) :: st) M ↔ zgetx fX7 38 r M (fun v => uX7_guessFirst R 47 [x0, x1, x2, x3, x4, x5] (v :: st) M) := zU_step dX7_guessFirst_44 (Or.inl rfl)
theorem dX7_guessFirst_47 : decode cX7_guessFirst 47 = .ok (.iload_n 1, 1) := by decide +kernel
theorem rX7_guessFirst_47 {R : zP} {x0 x2 x3 x4 x5 : Option zV} {st : List zV} {M : zM} {a : Int} : uX7_guessFirst R 47 [x0, some (.inl a), x2, x3, x4, x5] st M ↔ uX7_guessFirst R 48 [x0, some (.inl a), x2, x3, x4, x5] (.inl a :: st) M := zU_step dX7_guessFirst_47 (Or.inl rfl)
theorem dX7_guessFirst_48 : decode cX7_guessFirst 48 = .ok (.aload_n 0, 1) := by decide +kernel
theorem rX7_guessFirst_48 {R : zP} {x1 x2 x3 x4 x5 : Option zV} {st : List zV} {M : zM} {a : Nat} : uX7_guessFirst R 48 [some (.inr (.inr a)), x1, x2, x3, x4, x5] st M ↔ uX7_guessFirst R 49 [some (.inr (.inr a)), x1, x2, x3, x4, x5] (.inr (.inr a) :: st) M := zU_step dX7_guessFirst_48 (Or.inl rfl)
theorem dX7_guessFirst_49 : decode cX7_guessFirst 49 = .ok (.getfield 76, 3) := by decide +kernel
theorem rX7_guessFirst_49 {R : zP} {x0 x1 x2 x3 x4 x5 : Option zV} {st : List zV} {M : zM} {r : Nat} : uX7_guessFirst R 49 [x0, x1, x2, x3, x4, x5] (.inr (.inr r) :: st) M ↔ zgetx fX7 76 r M (fun v => uX7_guessFirst R 52 [x0, x1, x2, x3, x4, x5] (v :: st) M) := zU_step dX7_guessFirst_49 (Or.inl rfl)
theorem dX7_guessFirst_52 : decode cX7_guessFirst 52 = .ok (.invokevirtual 249, 3) := by decide +kernel
theorem rX7_guessFirst_52 {R : zP} {x0 x1 x2 x3 x4 x5 : Option zV} {st : List zV} {M : zM} {a0 a1 a2 : zV} : uX7_guessFirst R 52 [x0, x1, x2, x3, x4, x5] (a2 :: a1 :: a0 :: st) M ↔ (st.length ≤ 4 ∧ zcv (zv 6 tX6_agree) [a0, a1, a2] M (fun v M => uX7_guessFirst R 55 [x0, x1, x2, x3, x4, x5] (v :: st) M)) := Iff.trans (zU_step dX7_guessFirst_52 (Or.inl rfl)) ⟨fun h => ⟨h.2.1, zcv_of h.2.2⟩, fun h => ⟨rfl, h.1, zcv_to h.2⟩⟩
theorem dX7_guessFirst_55 : decode cX7_guessFirst 55 = .ok (.invokestatic 155, 3) := by decide +kernel
theorem rX7_guessFirst_55 {R : zP} {x0 x1 x2 x3 x4 x5 : Option zV} {st : List zV} {M : zM} {a0 : zV} : uX7_guessFirst R 55 [x0, x1, x2, x3, x4, x5] (a0 :: st) M ↔ (st.length ≤ 4 ∧ zcv tX7_bit [a0] M (fun v M => uX7_guessFirst R 58 [x0, x1, x2, x3, x4, x5] (v :: st) M)) := Iff.trans (zU_step dX7_guessFirst_55 (Or.inl rfl)) ⟨fun h => ⟨h.2.1, zcv_of h.2.2⟩, fun h => ⟨rfl, h.1, zcv_to h.2⟩⟩
theorem dX7_guessFirst_58 : decode cX7_guessFirst 58 = .ok (.iload 4, 2) := by decide +kernel
theorem rX7_guessFirst_58 {R : zP} {x0 x1 x2 x3 x5 : Option zV} {st : List zV} {M : zM} {a : Int} : uX7_guessFirst R 58 [x0, x1, x2, x3, some (.inl a), x5] st M ↔ uX7_guessFirst R 60 [x0, x1, x2, x3, some (.inl a), x5] (.inl a :: st) M := zU_step dX7_guessFirst_58 (Or.inl rfl)
theorem dX7_guessFirst_60 : decode cX7_guessFirst 60 = .ok (.ishl, 1) := by decide +kernel
theorem rX7_guessFirst_60 {R : zP} {x0 x1 x2 x3 x4 x5 : Option zV} {st : List zV} {M : zM} {a b : Int} : uX7_guessFirst R 60 [x0, x1, x2, x3, x4, x5] (.inl b :: .inl a :: st) M ↔ uX7_guessFirst R 61 [x0, x1, x2, x3, x4, x5] (.inl (zshl a b) :: st) M := zU_step dX7_guessFirst_60 (Or.inl rfl)
theorem dX7_guessFirst_61 : decode cX7_guessFirst 61 = .ok (.ior, 1) := by decide +kernel
theorem rX7_guessFirst_61 {R : zP} {x0 x1 x2 x3 x4 x5 : Option zV} {st : List zV} {M : zM} {a b : Int} : uX7_guessFirst R 61 [x0, x1, x2, x3, x4, x5] (.inl b :: .inl a :: st) M ↔ uX7_guessFirst R 62 [x0, x1, x2, x3, x4, x5] (.inl (zor a b) :: st) M := zU_step dX7_guessFirst_61 (Or.inl rfl)
theorem dX7_guessFirst_62 : decode cX7_guessFirst 62 = .ok (.istore_n 3, 1) := by decide +kernel
theorem rX7_guessFirst_62 {R : zP} {x0 x1 x2 x3 x4 x5 : Option zV} {st : List zV} {M : zM} {a : Int} : uX7_guessFirst R 62 [x0, x1, x2, x3, x4, x5] (.inl a :: st) M ↔ uX7_guessFirst R 63 [x0, x1, zkeep x2, some (.inl a), x4, x5] st M := Iff.trans (zU_step dX7_guessFirst_62 (Or.inl rfl)) ⟨fun h => h.2, fun h => ⟨show 3 < 6 by decide, h⟩⟩
theorem dX7_guessFirst_63 : decode cX7_guessFirst 63 = .ok (.iconst 0, 1) := by decide +kernel
theorem rX7_guessFirst_63 {R : zP} {x0 x1 x2 x3 x4 x5 : Option zV} {st : List zV} {M : zM} : uX7_guessFirst R 63 [x0, x1, x2, x3, x4, x5] st M ↔ uX7_guessFirst R 64 [x0, x1, x2, x3, x4, x5] (.inl (0) :: st) M := zU_step dX7_guessFirst_63 (Or.inl rfl)
theorem dX7_guessFirst_64 : decode cX7_guessFirst 64 = .ok (.istore 5, 2) := by decide +kernel
theorem rX7_guessFirst_64 {R : zP} {x0 x1 x2 x3 x4 x5 : Option zV} {st : List zV} {M : zM} {a : Int} : uX7_guessFirst R 64 [x0, x1, x2, x3, x4, x5] (.inl a :: st) M ↔ uX7_guessFirst R 66 [x0, x1, x2, x3, zkeep x4, some (.inl a)] st M := Iff.trans (zU_step dX7_guessFirst_64 (Or.inl rfl)) ⟨fun h => h.2, fun h => ⟨show 5 < 6 by decide, h⟩⟩
theorem dX7_guessFirst_66 : decode cX7_guessFirst 66 = .ok (.iload 5, 2) := by decide +kernel
theorem rX7_guessFirst_66 {R : zP} {x0 x1 x2 x3 x4 : Option zV} {st : List zV} {M : zM} {a : Int} : uX7_guessFirst R 66 [x0, x1, x2, x3, x4, some (.inl a)] st M ↔ uX7_guessFirst R 68 [x0, x1, x2, x3, x4, some (.inl a)] (.inl a :: st) M := zU_step dX7_guessFirst_66 (Or.inl rfl)
theorem dX7_guessFirst_68 : decode cX7_guessFirst 68 = .ok (.bipush 20, 2) := by decide +kernel
theorem rX7_guessFirst_68 {R : zP} {x0 x1 x2 x3 x4 x5 : Option zV} {st : List zV} {M : zM} : uX7_guessFirst R 68 [x0, x1, x2, x3, x4, x5] st M ↔ uX7_guessFirst R 70 [x0, x1, x2, x3, x4, x5] (.inl (20) :: st) M := Iff.trans (zU_step dX7_guessFirst_68 (Or.inl rfl)) ⟨fun h => h.2, fun h => ⟨by decide, h⟩⟩
theorem dX7_guessFirst_70 : decode cX7_guessFirst 70 = .ok (.if_icmp .ge 33, 3) := by decide +kernel
theorem rX7_guessFirst_70 {R : zP} {x0 x1 x2 x3 x4 x5 : Option zV} {st : List zV} {M : zM} {a b : Int} : uX7_guessFirst R 70 [x0, x1, x2, x3, x4, x5] (.inl b :: .inl a :: st) M ↔ ((zIR a ∧ zIR b) ∧ (b ≤ a → uX7_guessFirst R 103 [x0, x1, x2, x3, x4, x5] st M) ∧ (¬ b ≤ a → uX7_guessFirst R 73 [x0, x1, x2, x3, x4, x5] st M)) := Iff.trans (zU_step dX7_guessFirst_70 (Or.inl rfl)) ⟨fun h => ⟨⟨h.1.1, h.1.2.1⟩, h.2⟩, fun h => ⟨⟨h.1.1, h.1.2, by decide⟩, h.2⟩⟩
theorem dX7_guessFirst_73 : decode cX7_guessFirst 73 = .ok (.aload_n 0, 1) := by decide +kernel
theorem rX7_guessFirst_73 {R : zP} {x1 x2 x3 x4 x5 : Option zV} {st : List zV} {M : zM} {a : Nat} : uX7_guessFirst R 73 [some (.inr (.inr a)), x1, x2, x3, x4, x5] st M ↔ uX7_guessFirst R 74 [some (.inr (.inr a)), x1, x2, x3, x4, x5] (.inr (.inr a) :: st) M := zU_step dX7_guessFirst_73 (Or.inl rfl)
theorem dX7_guessFirst_74 : decode cX7_guessFirst 74 = .ok (.getfield 80, 3) := by decide +kernel
theorem rX7_guessFirst_74 {R : zP} {x0 x1 x2 x3 x4 x5 : Option zV} {st : List zV} {M : zM} {r : Nat} : uX7_guessFirst R 74 [x0, x1, x2, x3, x4, x5] (.inr (.inr r) :: st) M ↔ zgetx fX7 80 r M (fun v => uX7_guessFirst R 77 [x0, x1, x2, x3, x4, x5] (v :: st) M) := zU_step dX7_guessFirst_74 (Or.inl rfl)
theorem dX7_guessFirst_77 : decode cX7_guessFirst 77 = .ok (.iload 4, 2) := by decide +kernel
theorem rX7_guessFirst_77 {R : zP} {x0 x1 x2 x3 x5 : Option zV} {st : List zV} {M : zM} {a : Int} : uX7_guessFirst R 77 [x0, x1, x2, x3, some (.inl a), x5] st M ↔ uX7_guessFirst R 79 [x0, x1, x2, x3, some (.inl a), x5] (.inl a :: st) M := zU_step dX7_guessFirst_77 (Or.inl rfl)
theorem dX7_guessFirst_79 : decode cX7_guessFirst 79 = .ok (.bipush 20, 2) := by decide +kernel
theorem rX7_guessFirst_79 {R : zP} {x0 x1 x2 x3 x4 x5 : Option zV} {st : List zV} {M : zM} : uX7_guessFirst R 79 [x0, x1, x2, x3, x4, x5] st M ↔ uX7_guessFirst R 81 [x0, x1, x2, x3, x4, x5] (.inl (20) :: st) M := Iff.trans (zU_step dX7_guessFirst_79 (Or.inl rfl)) ⟨fun h => h.2, fun h => ⟨by decide, h⟩⟩
theorem dX7_guessFirst_81 : decode cX7_guessFirst 81 = .ok (.imul, 1) := by decide +kernel
theorem rX7_guessFirst_81 {R : zP} {x0 x1 x2 x3 x4 x5 : Option zV} {st : List zV} {M : zM} {a b : Int} : uX7_guessFirst R 81 [x0, x1, x2, x3, x4, x5] (.inl b :: .inl a :: st) M ↔ uX7_guessFirst R 82 [x0, x1, x2, x3, x4, x5] (.inl (a * b) :: st) M := zU_step dX7_guessFirst_81 (Or.inl rfl)
theorem dX7_guessFirst_82 : decode cX7_guessFirst 82 = .ok (.iload 5, 2) := by decide +kernel
theorem rX7_guessFirst_82 {R : zP} {x0 x1 x2 x3 x4 : Option zV} {st : List zV} {M : zM} {a : Int} : uX7_guessFirst R 82 [x0, x1, x2, x3, x4, some (.inl a)] st M ↔ uX7_guessFirst R 84 [x0, x1, x2, x3, x4, some (.inl a)] (.inl a :: st) M := zU_step dX7_guessFirst_82 (Or.inl rfl)
theorem dX7_guessFirst_84 : decode cX7_guessFirst 84 = .ok (.iadd, 1) := by decide +kernel
theorem rX7_guessFirst_84 {R : zP} {x0 x1 x2 x3 x4 x5 : Option zV} {st : List zV} {M : zM} {a b : Int} : uX7_guessFirst R 84 [x0, x1, x2, x3, x4, x5] (.inl b :: .inl a :: st) M ↔ uX7_guessFirst R 85 [x0, x1, x2, x3, x4, x5] (.inl (a + b) :: st) M := zU_step dX7_guessFirst_84 (Or.inl rfl)
theorem dX7_guessFirst_85 : decode cX7_guessFirst 85 = .ok (.aload_n 0, 1) := by decide +kernel
theorem rX7_guessFirst_85 {R : zP} {x1 x2 x3 x4 x5 : Option zV} {st : List zV} {M : zM} {a : Nat} : uX7_guessFirst R 85 [some (.inr (.inr a)), x1, x2, x3, x4, x5] st M ↔ uX7_guessFirst R 86 [some (.inr (.inr a)), x1, x2, x3, x4, x5] (.inr (.inr a) :: st) M := zU_step dX7_guessFirst_85 (Or.inl rfl)
theorem dX7_guessFirst_86 : decode cX7_guessFirst 86 = .ok (.getfield 76, 3) := by decide +kernel
theorem rX7_guessFirst_86 {R : zP} {x0 x1 x2 x3 x4 x5 : Option zV} {st : List zV} {M : zM} {r : Nat} : uX7_guessFirst R 86 [x0, x1, x2, x3, x4, x5] (.inr (.inr r) :: st) M ↔ zgetx fX7 76 r M (fun v => uX7_guessFirst R 89 [x0, x1, x2, x3, x4, x5] (v :: st) M) := zU_step dX7_guessFirst_86 (Or.inl rfl)
theorem dX7_guessFirst_89 : decode cX7_guessFirst 89 = .ok (.iload 5, 2) := by decide +kernel
theorem rX7_guessFirst_89 {R : zP} {x0 x1 x2 x3 x4 : Option zV} {st : List zV} {M : zM} {a : Int} : uX7_guessFirst R 89 [x0, x1, x2, x3, x4, some (.inl a)] st M ↔ uX7_guessFirst R 91 [x0, x1, x2, x3, x4, some (.inl a)] (.inl a :: st) M := zU_step dX7_guessFirst_89 (Or.inl rfl)
theorem dX7_guessFirst_91 : decode cX7_guessFirst 91 = .ok (.iconst 4, 1) := by decide +kernel
theorem rX7_guessFirst_91 {R : zP} {x0 x1 x2 x3 x4 x5 : Option zV} {st : List zV} {M : zM} : uX7_guessFirst R 91 [x0, x1, x2, x3, x4, x5] st M ↔ uX7_guessFirst R 92 [x0, x1, x2, x3, x4, x5] (.inl (4) :: st) M := zU_step dX7_guessFirst_91 (Or.inl rfl)
theorem dX7_guessFirst_92 : decode cX7_guessFirst 92 = .ok (.imul, 1) := by decide +kernel
theorem rX7_guessFirst_92 {R : zP} {x0 x1 x2 x3 x4 x5 : Option zV} {st : List zV} {M : zM} {a b : Int} : uX7_guessFirst R 92 [x0, x1, x2, x3, x4, x5] (.inl b :: .inl a :: st) M ↔ uX7_guessFirst R 93 [x0, x1, x2, x3, x4, x5] (.inl (a * b) :: st) M := zU_step dX7_guessFirst_92 (Or.inl rfl)
theorem dX7_guessFirst_93 : decode cX7_guessFirst 93 = .ok (.iload_n 2, 1) := by decide +kernel
theorem rX7_guessFirst_93 {R : zP} {x0 x1 x3 x4 x5 : Option zV} {st : List zV} {M : zM} {a : Int} : uX7_guessFirst R 93 [x0, x1, some (.inl a), x3, x4, x5] st M ↔ uX7_guessFirst R 94 [x0, x1, some (.inl a), x3, x4, x5] (.inl a :: st) M := zU_step dX7_guessFirst_93 (Or.inl rfl)
theorem dX7_guessFirst_94 : decode cX7_guessFirst 94 = .ok (.iadd, 1) := by decide +kernel
theorem rX7_guessFirst_94 {R : zP} {x0 x1 x2 x3 x4 x5 : Option zV} {st : List zV} {M : zM} {a b : Int} : uX7_guessFirst R 94 [x0, x1, x2, x3, x4, x5] (.inl b :: .inl a :: st) M ↔ uX7_guessFirst R 95 [x0, x1, x2, x3, x4, x5] (.inl (a + b) :: st) M := zU_step dX7_guessFirst_94 (Or.inl rfl)
theorem dX7_guessFirst_95 : decode cX7_guessFirst 95 = .ok (.iaload, 1) := by decide +kernel
theorem rX7_guessFirst_95 {R : zP} {x0 x1 x2 x3 x4 x5 : Option zV} {st : List zV} {M : zM} {i : Int} {r : Nat} : uX7_guessFirst R 95 [x0, x1, x2, x3, x4, x5] (.inl i :: .inr (.inr r) :: st) M ↔ zread fX7 0 r M i (fun v => uX7_guessFirst R 96 [x0, x1, x2, x3, x4, x5] (.inl v :: st) M) := zU_step dX7_guessFirst_95 (Or.inl rfl)
theorem dX7_guessFirst_96 : decode cX7_guessFirst 96 = .ok (.iastore, 1) := by decide +kernel
theorem rX7_guessFirst_96 {R : zP} {x0 x1 x2 x3 x4 x5 : Option zV} {st : List zV} {M : zM} {i v : Int} {r : Nat} : uX7_guessFirst R 96 [x0, x1, x2, x3, x4, x5] (.inl v :: .inl i :: .inr (.inr r) :: st) M ↔ zwrite 0 r i (uX7_guessFirst R 97 [x0, x1, x2, x3, x4, x5] st (zup M r i v)) := zU_step dX7_guessFirst_96 (Or.inl rfl)
theorem dX7_guessFirst_97 : decode cX7_guessFirst 97 = .ok (.iinc 5 1, 3) := by decide +kernel
theorem rX7_guessFirst_97 {R : zP} {x0 x1 x2 x3 x4 : Option zV} {st : List zV} {M : zM} {a : Int} : uX7_guessFirst R 97 [x0, x1, x2, x3, x4, some (.inl a)] st M ↔ uX7_guessFirst R 100 [x0, x1, x2, x3, zkeep x4, some (.inl (a + (1)))] st M := Iff.trans (zU_step dX7_guessFirst_97 (Or.inl rfl)) ⟨fun h => h.2, fun h => ⟨show 5 < 6 by decide, h⟩⟩
theorem dX7_guessFirst_100 : decode cX7_guessFirst 100 = .ok (.goto (-34), 3) := by decide +kernel
theorem rX7_guessFirst_100 {R : zP} {x0 x1 x2 x3 x4 x5 : Option zV} {st : List zV} {M : zM} : uX7_guessFirst R 100 [x0, x1, x2, x3, x4, x5] st M ↔ uX7_guessFirst R 66 [x0, x1, x2, x3, x4, x5] st M := Iff.trans (zU_step dX7_guessFirst_100 (Or.inl rfl)) ⟨fun h => h.2, fun h => ⟨by decide, h⟩⟩
theorem dX7_guessFirst_103 : decode cX7_guessFirst 103 = .ok (.iinc 4 1, 3) := by decide +kernel
theorem rX7_guessFirst_103 {R : zP} {x0 x1 x2 x3 x5 : Option zV} {st : List zV} {M : zM} {a : Int} : uX7_guessFirst R 103 [x0, x1, x2, x3, some (.inl a), x5] st M ↔ uX7_guessFirst R 106 [x0, x1, x2, zkeep x3, some (.inl (a + (1))), x5] st M := Iff.trans (zU_step dX7_guessFirst_103 (Or.inl rfl)) ⟨fun h => h.2, fun h => ⟨show 4 < 6 by decide, h⟩⟩
theorem dX7_guessFirst_106 : decode cX7_guessFirst 106 = .ok (.goto (-101), 3) := by decide +kernel
theorem rX7_guessFirst_106 {R : zP} {x0 x1 x2 x3 x4 x5 : Option zV} {st : List zV} {M : zM} : uX7_guessFirst R 106 [x0, x1, x2, x3, x4, x5] st M ↔ uX7_guessFirst R 5 [x0, x1, x2, x3, x4, x5] st M := Iff.trans (zU_step dX7_guessFirst_106 (Or.inl rfl)) ⟨fun h => h.2, fun h => ⟨by decide, h⟩⟩
theorem dX7_guessFirst_109 : decode cX7_guessFirst 109 = .ok (.iload_n 3, 1) := by decide +kernel
theorem rX7_guessFirst_109 {R : zP} {x0 x1 x2 x4 x5 : Option zV} {st : List zV} {M : zM} {a : Int} : uX7_guessFirst R 109 [x0, x1, x2, some (.inl a), x4, x5] st M ↔ uX7_guessFirst R 110 [x0, x1, x2, some (.inl a), x4, x5] (.inl a :: st) M := zU_step dX7_guessFirst_109 (Or.inl rfl)
theorem dX7_guessFirst_110 : decode cX7_guessFirst 110 = .ok (.ireturn, 1) := by decide +kernel
theorem rX7_guessFirst_110 {R : zP} {x0 x1 x2 x3 x4 x5 : Option zV} {M : zM} {a : Int} : uX7_guessFirst R 110 [x0, x1, x2, x3, x4, x5] [.inl a] M ↔ R (some (.inl a)) M := Iff.trans (zU_step dX7_guessFirst_110 (Or.inl rfl)) ⟨fun h => h.2.2, fun h => ⟨rfl, Or.inl rfl, h⟩⟩
theorem eX7_guessFirst {R : zP} {M : zM} {a0 : Nat} {p0 : Int} {p1 : Int} : tX7_guessFirst [.inr (.inr a0), .inl p0, .inl p1] M R ↔ uX7_guessFirst R 0 [some (.inr (.inr a0)), some (.inl p0), some (.inl p1), none, none, none] [] M := ⟨fun h => h.2, fun h => ⟨show 3 ≤ 6 by decide, h⟩⟩
def uX7_first (R : zP) : zK := zU fX7 vX7_first cX7_first R
theorem dX7_first_0 : decode cX7_first 0 = .ok (.iload_n 1, 1) := by decide +kernel
theorem rX7_first_0 {R : zP} {x0 x2 : Option zV} {st : List zV} {M : zM} {a : Int} : uX7_first R 0 [x0, some (.inl a), x2] st M ↔ uX7_first R 1 [x0, some (.inl a), x2] (.inl a :: st) M := zU_step dX7_first_0 (Or.inl rfl)
theorem dX7_first_1 : decode cX7_first 1 = .ok (.aload_n 0, 1) := by decide +kernel
theorem rX7_first_1 {R : zP} {x1 x2 : Option zV} {st : List zV} {M : zM} {a : Nat} : uX7_first R 1 [some (.inr (.inr a)), x1, x2] st M ↔ uX7_first R 2 [some (.inr (.inr a)), x1, x2] (.inr (.inr a) :: st) M := zU_step dX7_first_1 (Or.inl rfl)
theorem dX7_first_2 : decode cX7_first 2 = .ok (.getfield 14, 3) := by decide +kernel
theorem rX7_first_2 {R : zP} {x0 x1 x2 : Option zV} {st : List zV} {M : zM} {r : Nat} : uX7_first R 2 [x0, x1, x2] (.inr (.inr r) :: st) M ↔ zgetx fX7 14 r M (fun v => uX7_first R 5 [x0, x1, x2] (v :: st) M) := zU_step dX7_first_2 (Or.inl rfl)
theorem dX7_first_5 : decode cX7_first 5 = .ok (.getfield 116, 3) := by decide +kernel
theorem rX7_first_5 {R : zP} {x0 x1 x2 : Option zV} {st : List zV} {M : zM} {r : Nat} : uX7_first R 5 [x0, x1, x2] (.inr (.inr r) :: st) M ↔ zgetx fX7 116 r M (fun v => uX7_first R 8 [x0, x1, x2] (v :: st) M) := zU_step dX7_first_5 (Or.inl rfl)
theorem dX7_first_8 : decode cX7_first 8 = .ok (.invokestatic 94, 3) := by decide +kernel
theorem rX7_first_8 {R : zP} {x0 x1 x2 : Option zV} {st : List zV} {M : zM} {a0 a1 : zV} : uX7_first R 8 [x0, x1, x2] (a1 :: a0 :: st) M ↔ (st.length ≤ 4 ∧ zcv tX7_outside [a0, a1] M (fun v M => uX7_first R 11 [x0, x1, x2] (v :: st) M)) := Iff.trans (zU_step dX7_first_8 (Or.inl rfl)) ⟨fun h => ⟨h.2.1, zcv_of h.2.2⟩, fun h => ⟨rfl, h.1, zcv_to h.2⟩⟩
theorem dX7_first_11 : decode cX7_first 11 = .ok (.ifCond .ne 11, 3) := by decide +kernel
theorem rX7_first_11 {R : zP} {x0 x1 x2 : Option zV} {st : List zV} {M : zM} {a : Int} : uX7_first R 11 [x0, x1, x2] (.inl a :: st) M ↔ (zIR a ∧ (a ≠ 0 → uX7_first R 22 [x0, x1, x2] st M) ∧ (¬ a ≠ 0 → uX7_first R 14 [x0, x1, x2] st M)) := Iff.trans (zU_step dX7_first_11 (Or.inl rfl)) ⟨fun h => ⟨h.1.1, h.2⟩, fun h => ⟨⟨h.1, by decide⟩, h.2⟩⟩
theorem dX7_first_14 : decode cX7_first 14 = .ok (.iload_n 2, 1) := by decide +kernel
theorem rX7_first_14 {R : zP} {x0 x1 : Option zV} {st : List zV} {M : zM} {a : Int} : uX7_first R 14 [x0, x1, some (.inl a)] st M ↔ uX7_first R 15 [x0, x1, some (.inl a)] (.inl a :: st) M := zU_step dX7_first_14 (Or.inl rfl)
theorem dX7_first_15 : decode cX7_first 15 = .ok (.iconst 4, 1) := by decide +kernel
theorem rX7_first_15 {R : zP} {x0 x1 x2 : Option zV} {st : List zV} {M : zM} : uX7_first R 15 [x0, x1, x2] st M ↔ uX7_first R 16 [x0, x1, x2] (.inl (4) :: st) M := zU_step dX7_first_15 (Or.inl rfl)
theorem dX7_first_16 : decode cX7_first 16 = .ok (.invokestatic 94, 3) := by decide +kernel
theorem rX7_first_16 {R : zP} {x0 x1 x2 : Option zV} {st : List zV} {M : zM} {a0 a1 : zV} : uX7_first R 16 [x0, x1, x2] (a1 :: a0 :: st) M ↔ (st.length ≤ 4 ∧ zcv tX7_outside [a0, a1] M (fun v M => uX7_first R 19 [x0, x1, x2] (v :: st) M)) := Iff.trans (zU_step dX7_first_16 (Or.inl rfl)) ⟨fun h => ⟨h.2.1, zcv_of h.2.2⟩, fun h => ⟨rfl, h.1, zcv_to h.2⟩⟩
theorem dX7_first_19 : decode cX7_first 19 = .ok (.ifCond .eq 6, 3) := by decide +kernel
theorem rX7_first_19 {R : zP} {x0 x1 x2 : Option zV} {st : List zV} {M : zM} {a : Int} : uX7_first R 19 [x0, x1, x2] (.inl a :: st) M ↔ (zIR a ∧ (a = 0 → uX7_first R 25 [x0, x1, x2] st M) ∧ (¬ a = 0 → uX7_first R 22 [x0, x1, x2] st M)) := Iff.trans (zU_step dX7_first_19 (Or.inl rfl)) ⟨fun h => ⟨h.1.1, h.2⟩, fun h => ⟨⟨h.1, by decide⟩, h.2⟩⟩
theorem dX7_first_22 : decode cX7_first 22 = .ok (.bipush (-2), 2) := by decide +kernel
theorem rX7_first_22 {R : zP} {x0 x1 x2 : Option zV} {st : List zV} {M : zM} : uX7_first R 22 [x0, x1, x2] st M ↔ uX7_first R 24 [x0, x1, x2] (.inl (-2) :: st) M := Iff.trans (zU_step dX7_first_22 (Or.inl rfl)) ⟨fun h => h.2, fun h => ⟨by decide, h⟩⟩
theorem dX7_first_24 : decode cX7_first 24 = .ok (.ireturn, 1) := by decide +kernel
theorem rX7_first_24 {R : zP} {x0 x1 x2 : Option zV} {M : zM} {a : Int} : uX7_first R 24 [x0, x1, x2] [.inl a] M ↔ R (some (.inl a)) M := Iff.trans (zU_step dX7_first_24 (Or.inl rfl)) ⟨fun h => h.2.2, fun h => ⟨rfl, Or.inl rfl, h⟩⟩
theorem dX7_first_25 : decode cX7_first 25 = .ok (.aload_n 0, 1) := by decide +kernel
theorem rX7_first_25 {R : zP} {x1 x2 : Option zV} {st : List zV} {M : zM} {a : Nat} : uX7_first R 25 [some (.inr (.inr a)), x1, x2] st M ↔ uX7_first R 26 [some (.inr (.inr a)), x1, x2] (.inr (.inr a) :: st) M := zU_step dX7_first_25 (Or.inl rfl)
theorem dX7_first_26 : decode cX7_first 26 = .ok (.iload_n 1, 1) := by decide +kernel
theorem rX7_first_26 {R : zP} {x0 x2 : Option zV} {st : List zV} {M : zM} {a : Int} : uX7_first R 26 [x0, some (.inl a), x2] st M ↔ uX7_first R 27 [x0, some (.inl a), x2] (.inl a :: st) M := zU_step dX7_first_26 (Or.inl rfl)
theorem dX7_first_27 : decode cX7_first 27 = .ok (.sipush 255, 3) := by decide +kernel
theorem rX7_first_27 {R : zP} {x0 x1 x2 : Option zV} {st : List zV} {M : zM} : uX7_first R 27 [x0, x1, x2] st M ↔ uX7_first R 30 [x0, x1, x2] (.inl (255) :: st) M := Iff.trans (zU_step dX7_first_27 (Or.inl rfl)) ⟨fun h => h.2, fun h => ⟨by decide, h⟩⟩
theorem dX7_first_30 : decode cX7_first 30 = .ok (.invokevirtual 235, 3) := by decide +kernel
theorem rX7_first_30 {R : zP} {x0 x1 x2 : Option zV} {st : List zV} {M : zM} {a0 a1 a2 : zV} : uX7_first R 30 [x0, x1, x2] (a2 :: a1 :: a0 :: st) M ↔ (st.length ≤ 4 ∧ zcv (zv 7 tX7_restAgree) [a0, a1, a2] M (fun v M => uX7_first R 33 [x0, x1, x2] (v :: st) M)) := Iff.trans (zU_step dX7_first_30 (Or.inl rfl)) ⟨fun h => ⟨h.2.1, zcv_of h.2.2⟩, fun h => ⟨rfl, h.1, zcv_to h.2⟩⟩
theorem dX7_first_33 : decode cX7_first 33 = .ok (.ifCond .eq 12, 3) := by decide +kernel
theorem rX7_first_33 {R : zP} {x0 x1 x2 : Option zV} {st : List zV} {M : zM} {a : Int} : uX7_first R 33 [x0, x1, x2] (.inl a :: st) M ↔ (zIR a ∧ (a = 0 → uX7_first R 45 [x0, x1, x2] st M) ∧ (¬ a = 0 → uX7_first R 36 [x0, x1, x2] st M)) := Iff.trans (zU_step dX7_first_33 (Or.inl rfl)) ⟨fun h => ⟨h.1.1, h.2⟩, fun h => ⟨⟨h.1, by decide⟩, h.2⟩⟩
theorem dX7_first_36 : decode cX7_first 36 = .ok (.aload_n 0, 1) := by decide +kernel
theorem rX7_first_36 {R : zP} {x1 x2 : Option zV} {st : List zV} {M : zM} {a : Nat} : uX7_first R 36 [some (.inr (.inr a)), x1, x2] st M ↔ uX7_first R 37 [some (.inr (.inr a)), x1, x2] (.inr (.inr a) :: st) M := zU_step dX7_first_36 (Or.inl rfl)
theorem dX7_first_37 : decode cX7_first 37 = .ok (.iload_n 1, 1) := by decide +kernel
theorem rX7_first_37 {R : zP} {x0 x2 : Option zV} {st : List zV} {M : zM} {a : Int} : uX7_first R 37 [x0, some (.inl a), x2] st M ↔ uX7_first R 38 [x0, some (.inl a), x2] (.inl a :: st) M := zU_step dX7_first_37 (Or.inl rfl)
theorem dX7_first_38 : decode cX7_first 38 = .ok (.iload_n 2, 1) := by decide +kernel
theorem rX7_first_38 {R : zP} {x0 x1 : Option zV} {st : List zV} {M : zM} {a : Int} : uX7_first R 38 [x0, x1, some (.inl a)] st M ↔ uX7_first R 39 [x0, x1, some (.inl a)] (.inl a :: st) M := zU_step dX7_first_38 (Or.inl rfl)
theorem dX7_first_39 : decode cX7_first 39 = .ok (.invokevirtual 253, 3) := by decide +kernel
theorem rX7_first_39 {R : zP} {x0 x1 x2 : Option zV} {st : List zV} {M : zM} {a0 a1 a2 : zV} : uX7_first R 39 [x0, x1, x2] (a2 :: a1 :: a0 :: st) M ↔ (st.length ≤ 4 ∧ zcv (zv 7 tX7_guessFirst) [a0, a1, a2] M (fun v M => uX7_first R 42 [x0, x1, x2] (v :: st) M)) := Iff.trans (zU_step dX7_first_39 (Or.inl rfl)) ⟨fun h => ⟨h.2.1, zcv_of h.2.2⟩, fun h => ⟨rfl, h.1, zcv_to h.2⟩⟩
theorem dX7_first_42 : decode cX7_first 42 = .ok (.goto 4, 3) := by decide +kernel
theorem rX7_first_42 {R : zP} {x0 x1 x2 : Option zV} {st : List zV} {M : zM} : uX7_first R 42 [x0, x1, x2] st M ↔ uX7_first R 46 [x0, x1, x2] st M := Iff.trans (zU_step dX7_first_42 (Or.inl rfl)) ⟨fun h => h.2, fun h => ⟨by decide, h⟩⟩
theorem dX7_first_45 : decode cX7_first 45 = .ok (.iconst 0, 1) := by decide +kernel
theorem rX7_first_45 {R : zP} {x0 x1 x2 : Option zV} {st : List zV} {M : zM} : uX7_first R 45 [x0, x1, x2] st M ↔ uX7_first R 46 [x0, x1, x2] (.inl (0) :: st) M := zU_step dX7_first_45 (Or.inl rfl)
theorem dX7_first_46 : decode cX7_first 46 = .ok (.ireturn, 1) := by decide +kernel
theorem rX7_first_46 {R : zP} {x0 x1 x2 : Option zV} {M : zM} {a : Int} : uX7_first R 46 [x0, x1, x2] [.inl a] M ↔ R (some (.inl a)) M := Iff.trans (zU_step dX7_first_46 (Or.inl rfl)) ⟨fun h => h.2.2, fun h => ⟨rfl, Or.inl rfl, h⟩⟩
theorem eX7_first {R : zP} {M : zM} {a0 : Nat} {p0 : Int} {p1 : Int} : tX7_first [.inr (.inr a0), .inl p0, .inl p1] M R ↔ uX7_first R 0 [some (.inr (.inr a0)), some (.inl p0), some (.inl p1)] [] M := ⟨fun h => h.2, fun h => ⟨show 3 ≤ 3 by decide, h⟩⟩
def uX7_mostAlike (R : zP) : zK := zU fX7 vX7_mostAlike cX7_mostAlike R
theorem dX7_mostAlike_0 : decode cX7_mostAlike 0 = .ok (.aload_n 0, 1) := by decide +kernel
theorem rX7_mostAlike_0 {R : zP} {x1 x2 x3 x4 x5 : Option zV} {st : List zV} {M : zM} {a : Nat} : uX7_mostAlike R 0 [some (.inr (.inr a)), x1, x2, x3, x4, x5] st M ↔ uX7_mostAlike R 1 [some (.inr (.inr a)), x1, x2, x3, x4, x5] (.inr (.inr a) :: st) M := zU_step dX7_mostAlike_0 (Or.inl rfl)
theorem dX7_mostAlike_1 : decode cX7_mostAlike 1 = .ok (.getfield 83, 3) := by decide +kernel
theorem rX7_mostAlike_1 {R : zP} {x0 x1 x2 x3 x4 x5 : Option zV} {st : List zV} {M : zM} {r : Nat} : uX7_mostAlike R 1 [x0, x1, x2, x3, x4, x5] (.inr (.inr r) :: st) M ↔ zgetx fX7 83 r M (fun v => uX7_mostAlike R 4 [x0, x1, x2, x3, x4, x5] (v :: st) M) := zU_step dX7_mostAlike_1 (Or.inl rfl)
theorem dX7_mostAlike_4 : decode cX7_mostAlike 4 = .ok (.iconst 0, 1) := by decide +kernel
theorem rX7_mostAlike_4 {R : zP} {x0 x1 x2 x3 x4 x5 : Option zV} {st : List zV} {M : zM} : uX7_mostAlike R 4 [x0, x1, x2, x3, x4, x5] st M ↔ uX7_mostAlike R 5 [x0, x1, x2, x3, x4, x5] (.inl (0) :: st) M := zU_step dX7_mostAlike_4 (Or.inl rfl)
theorem dX7_mostAlike_5 : decode cX7_mostAlike 5 = .ok (.invokestatic 390, 3) := by decide +kernel
theorem rX7_mostAlike_5 {R : zP} {x0 x1 x2 x3 x4 x5 : Option zV} {st : List zV} {M : zM} {a0 a1 : zV} : uX7_mostAlike R 5 [x0, x1, x2, x3, x4, x5] (a1 :: a0 :: st) M ↔ (st.length ≤ 4 ∧ zcn tJ7_fill_53178 [a0, a1] M (fun M => uX7_mostAlike R 8 [x0, x1, x2, x3, x4, x5] st M)) := Iff.trans (zU_step dX7_mostAlike_5 (Or.inl rfl)) ⟨fun h => ⟨h.2.1, zcn_of h.2.2⟩, fun h => ⟨rfl, h.1, zcn_to h.2⟩⟩
theorem dX7_mostAlike_8 : decode cX7_mostAlike 8 = .ok (.iconst 0, 1) := by decide +kernel
theorem rX7_mostAlike_8 {R : zP} {x0 x1 x2 x3 x4 x5 : Option zV} {st : List zV} {M : zM} : uX7_mostAlike R 8 [x0, x1, x2, x3, x4, x5] st M ↔ uX7_mostAlike R 9 [x0, x1, x2, x3, x4, x5] (.inl (0) :: st) M := zU_step dX7_mostAlike_8 (Or.inl rfl)
theorem dX7_mostAlike_9 : decode cX7_mostAlike 9 = .ok (.istore_n 3, 1) := by decide +kernel
theorem rX7_mostAlike_9 {R : zP} {x0 x1 x2 x3 x4 x5 : Option zV} {st : List zV} {M : zM} {a : Int} : uX7_mostAlike R 9 [x0, x1, x2, x3, x4, x5] (.inl a :: st) M ↔ uX7_mostAlike R 10 [x0, x1, zkeep x2, some (.inl a), x4, x5] st M := Iff.trans (zU_step dX7_mostAlike_9 (Or.inl rfl)) ⟨fun h => h.2, fun h => ⟨show 3 < 6 by decide, h⟩⟩
theorem dX7_mostAlike_10 : decode cX7_mostAlike 10 = .ok (.iconst 0, 1) := by decide +kernel
theorem rX7_mostAlike_10 {R : zP} {x0 x1 x2 x3 x4 x5 : Option zV} {st : List zV} {M : zM} : uX7_mostAlike R 10 [x0, x1, x2, x3, x4, x5] st M ↔ uX7_mostAlike R 11 [x0, x1, x2, x3, x4, x5] (.inl (0) :: st) M := zU_step dX7_mostAlike_10 (Or.inl rfl)
theorem dX7_mostAlike_11 : decode cX7_mostAlike 11 = .ok (.istore 4, 2) := by decide +kernel
theorem rX7_mostAlike_11 {R : zP} {x0 x1 x2 x3 x4 x5 : Option zV} {st : List zV} {M : zM} {a : Int} : uX7_mostAlike R 11 [x0, x1, x2, x3, x4, x5] (.inl a :: st) M ↔ uX7_mostAlike R 13 [x0, x1, x2, zkeep x3, some (.inl a), x5] st M := Iff.trans (zU_step dX7_mostAlike_11 (Or.inl rfl)) ⟨fun h => h.2, fun h => ⟨show 4 < 6 by decide, h⟩⟩
theorem dX7_mostAlike_13 : decode cX7_mostAlike 13 = .ok (.iload 4, 2) := by decide +kernel
theorem rX7_mostAlike_13 {R : zP} {x0 x1 x2 x3 x5 : Option zV} {st : List zV} {M : zM} {a : Int} : uX7_mostAlike R 13 [x0, x1, x2, x3, some (.inl a), x5] st M ↔ uX7_mostAlike R 15 [x0, x1, x2, x3, some (.inl a), x5] (.inl a :: st) M := zU_step dX7_mostAlike_13 (Or.inl rfl)
theorem dX7_mostAlike_15 : decode cX7_mostAlike 15 = .ok (.bipush 10, 2) := by decide +kernel
theorem rX7_mostAlike_15 {R : zP} {x0 x1 x2 x3 x4 x5 : Option zV} {st : List zV} {M : zM} : uX7_mostAlike R 15 [x0, x1, x2, x3, x4, x5] st M ↔ uX7_mostAlike R 17 [x0, x1, x2, x3, x4, x5] (.inl (10) :: st) M := Iff.trans (zU_step dX7_mostAlike_15 (Or.inl rfl)) ⟨fun h => h.2, fun h => ⟨by decide, h⟩⟩
theorem dX7_mostAlike_17 : decode cX7_mostAlike 17 = .ok (.if_icmp .ge 55, 3) := by decide +kernel
theorem rX7_mostAlike_17 {R : zP} {x0 x1 x2 x3 x4 x5 : Option zV} {st : List zV} {M : zM} {a b : Int} : uX7_mostAlike R 17 [x0, x1, x2, x3, x4, x5] (.inl b :: .inl a :: st) M ↔ ((zIR a ∧ zIR b) ∧ (b ≤ a → uX7_mostAlike R 72 [x0, x1, x2, x3, x4, x5] st M) ∧ (¬ b ≤ a → uX7_mostAlike R 20 [x0, x1, x2, x3, x4, x5] st M)) := Iff.trans (zU_step dX7_mostAlike_17 (Or.inl rfl)) ⟨fun h => ⟨⟨h.1.1, h.1.2.1⟩, h.2⟩, fun h => ⟨⟨h.1.1, h.1.2, by decide⟩, h.2⟩⟩
theorem dX7_mostAlike_20 : decode cX7_mostAlike 20 = .ok (.iload_n 1, 1) := by decide +kernel
theorem rX7_mostAlike_20 {R : zP} {x0 x2 x3 x4 x5 : Option zV} {st : List zV} {M : zM} {a : Int} : uX7_mostAlike R 20 [x0, some (.inl a), x2, x3, x4, x5] st M ↔ uX7_mostAlike R 21 [x0, some (.inl a), x2, x3, x4, x5] (.inl a :: st) M := zU_step dX7_mostAlike_20 (Or.inl rfl)
theorem dX7_mostAlike_21 : decode cX7_mostAlike 21 = .ok (.iload 4, 2) := by decide +kernel
theorem rX7_mostAlike_21 {R : zP} {x0 x1 x2 x3 x5 : Option zV} {st : List zV} {M : zM} {a : Int} : uX7_mostAlike R 21 [x0, x1, x2, x3, some (.inl a), x5] st M ↔ uX7_mostAlike R 23 [x0, x1, x2, x3, some (.inl a), x5] (.inl a :: st) M := zU_step dX7_mostAlike_21 (Or.inl rfl)
theorem dX7_mostAlike_23 : decode cX7_mostAlike 23 = .ok (.ishr, 1) := by decide +kernel
theorem rX7_mostAlike_23 {R : zP} {x0 x1 x2 x3 x4 x5 : Option zV} {st : List zV} {M : zM} {a b : Int} : uX7_mostAlike R 23 [x0, x1, x2, x3, x4, x5] (.inl b :: .inl a :: st) M ↔ uX7_mostAlike R 24 [x0, x1, x2, x3, x4, x5] (.inl (zshr a b) :: st) M := zU_step dX7_mostAlike_23 (Or.inl rfl)
theorem dX7_mostAlike_24 : decode cX7_mostAlike 24 = .ok (.iconst 1, 1) := by decide +kernel
theorem rX7_mostAlike_24 {R : zP} {x0 x1 x2 x3 x4 x5 : Option zV} {st : List zV} {M : zM} : uX7_mostAlike R 24 [x0, x1, x2, x3, x4, x5] st M ↔ uX7_mostAlike R 25 [x0, x1, x2, x3, x4, x5] (.inl (1) :: st) M := zU_step dX7_mostAlike_24 (Or.inl rfl)
theorem dX7_mostAlike_25 : decode cX7_mostAlike 25 = .ok (.iand, 1) := by decide +kernel
theorem rX7_mostAlike_25 {R : zP} {x0 x1 x2 x3 x4 x5 : Option zV} {st : List zV} {M : zM} {a b : Int} : uX7_mostAlike R 25 [x0, x1, x2, x3, x4, x5] (.inl b :: .inl a :: st) M ↔ uX7_mostAlike R 26 [x0, x1, x2, x3, x4, x5] (.inl (zand a b) :: st) M := zU_step dX7_mostAlike_25 (Or.inl rfl)
theorem dX7_mostAlike_26 : decode cX7_mostAlike 26 = .ok (.ifCond .eq 40, 3) := by decide +kernel
theorem rX7_mostAlike_26 {R : zP} {x0 x1 x2 x3 x4 x5 : Option zV} {st : List zV} {M : zM} {a : Int} : uX7_mostAlike R 26 [x0, x1, x2, x3, x4, x5] (.inl a :: st) M ↔ (zIR a ∧ (a = 0 → uX7_mostAlike R 66 [x0, x1, x2, x3, x4, x5] st M) ∧ (¬ a = 0 → uX7_mostAlike R 29 [x0, x1, x2, x3, x4, x5] st M)) := Iff.trans (zU_step dX7_mostAlike_26 (Or.inl rfl)) ⟨fun h => ⟨h.1.1, h.2⟩, fun h => ⟨⟨h.1, by decide⟩, h.2⟩⟩
theorem dX7_mostAlike_29 : decode cX7_mostAlike 29 = .ok (.aload_n 0, 1) := by decide +kernel
theorem rX7_mostAlike_29 {R : zP} {x1 x2 x3 x4 x5 : Option zV} {st : List zV} {M : zM} {a : Nat} : uX7_mostAlike R 29 [some (.inr (.inr a)), x1, x2, x3, x4, x5] st M ↔ uX7_mostAlike R 30 [some (.inr (.inr a)), x1, x2, x3, x4, x5] (.inr (.inr a) :: st) M := zU_step dX7_mostAlike_29 (Or.inl rfl)
theorem dX7_mostAlike_30 : decode cX7_mostAlike 30 = .ok (.getfield 80, 3) := by decide +kernel
theorem rX7_mostAlike_30 {R : zP} {x0 x1 x2 x3 x4 x5 : Option zV} {st : List zV} {M : zM} {r : Nat} : uX7_mostAlike R 30 [x0, x1, x2, x3, x4, x5] (.inr (.inr r) :: st) M ↔ zgetx fX7 80 r M (fun v => uX7_mostAlike R 33 [x0, x1, x2, x3, x4, x5] (v :: st) M) := zU_step dX7_mostAlike_30 (Or.inl rfl)
theorem dX7_mostAlike_33 : decode cX7_mostAlike 33 = .ok (.iload 4, 2) := by decide +kernel
theorem rX7_mostAlike_33 {R : zP} {x0 x1 x2 x3 x5 : Option zV} {st : List zV} {M : zM} {a : Int} : uX7_mostAlike R 33 [x0, x1, x2, x3, some (.inl a), x5] st M ↔ uX7_mostAlike R 35 [x0, x1, x2, x3, some (.inl a), x5] (.inl a :: st) M := zU_step dX7_mostAlike_33 (Or.inl rfl)
theorem dX7_mostAlike_35 : decode cX7_mostAlike 35 = .ok (.bipush 20, 2) := by decide +kernel
theorem rX7_mostAlike_35 {R : zP} {x0 x1 x2 x3 x4 x5 : Option zV} {st : List zV} {M : zM} : uX7_mostAlike R 35 [x0, x1, x2, x3, x4, x5] st M ↔ uX7_mostAlike R 37 [x0, x1, x2, x3, x4, x5] (.inl (20) :: st) M := Iff.trans (zU_step dX7_mostAlike_35 (Or.inl rfl)) ⟨fun h => h.2, fun h => ⟨by decide, h⟩⟩
theorem dX7_mostAlike_37 : decode cX7_mostAlike 37 = .ok (.imul, 1) := by decide +kernel
theorem rX7_mostAlike_37 {R : zP} {x0 x1 x2 x3 x4 x5 : Option zV} {st : List zV} {M : zM} {a b : Int} : uX7_mostAlike R 37 [x0, x1, x2, x3, x4, x5] (.inl b :: .inl a :: st) M ↔ uX7_mostAlike R 38 [x0, x1, x2, x3, x4, x5] (.inl (a * b) :: st) M := zU_step dX7_mostAlike_37 (Or.inl rfl)
theorem dX7_mostAlike_38 : decode cX7_mostAlike 38 = .ok (.iload_n 2, 1) := by decide +kernel
theorem rX7_mostAlike_38 {R : zP} {x0 x1 x3 x4 x5 : Option zV} {st : List zV} {M : zM} {a : Int} : uX7_mostAlike R 38 [x0, x1, some (.inl a), x3, x4, x5] st M ↔ uX7_mostAlike R 39 [x0, x1, some (.inl a), x3, x4, x5] (.inl a :: st) M := zU_step dX7_mostAlike_38 (Or.inl rfl)
theorem dX7_mostAlike_39 : decode cX7_mostAlike 39 = .ok (.iadd, 1) := by decide +kernel
theorem rX7_mostAlike_39 {R : zP} {x0 x1 x2 x3 x4 x5 : Option zV} {st : List zV} {M : zM} {a b : Int} : uX7_mostAlike R 39 [x0, x1, x2, x3, x4, x5] (.inl b :: .inl a :: st) M ↔ uX7_mostAlike R 40 [x0, x1, x2, x3, x4, x5] (.inl (a + b) :: st) M := zU_step dX7_mostAlike_39 (Or.inl rfl)
theorem dX7_mostAlike_40 : decode cX7_mostAlike 40 = .ok (.iaload, 1) := by decide +kernel
theorem rX7_mostAlike_40 {R : zP} {x0 x1 x2 x3 x4 x5 : Option zV} {st : List zV} {M : zM} {i : Int} {r : Nat} : uX7_mostAlike R 40 [x0, x1, x2, x3, x4, x5] (.inl i :: .inr (.inr r) :: st) M ↔ zread fX7 0 r M i (fun v => uX7_mostAlike R 41 [x0, x1, x2, x3, x4, x5] (.inl v :: st) M) := zU_step dX7_mostAlike_40 (Or.inl rfl)
theorem dX7_mostAlike_41 : decode cX7_mostAlike 41 = .ok (.istore 5, 2) := by decide +kernel
theorem rX7_mostAlike_41 {R : zP} {x0 x1 x2 x3 x4 x5 : Option zV} {st : List zV} {M : zM} {a : Int} : uX7_mostAlike R 41 [x0, x1, x2, x3, x4, x5] (.inl a :: st) M ↔ uX7_mostAlike R 43 [x0, x1, x2, x3, zkeep x4, some (.inl a)] st M := Iff.trans (zU_step dX7_mostAlike_41 (Or.inl rfl)) ⟨fun h => h.2, fun h => ⟨show 5 < 6 by decide, h⟩⟩
theorem dX7_mostAlike_43 : decode cX7_mostAlike 43 = .ok (.aload_n 0, 1) := by decide +kernel
theorem rX7_mostAlike_43 {R : zP} {x1 x2 x3 x4 x5 : Option zV} {st : List zV} {M : zM} {a : Nat} : uX7_mostAlike R 43 [some (.inr (.inr a)), x1, x2, x3, x4, x5] st M ↔ uX7_mostAlike R 44 [some (.inr (.inr a)), x1, x2, x3, x4, x5] (.inr (.inr a) :: st) M := zU_step dX7_mostAlike_43 (Or.inl rfl)
theorem dX7_mostAlike_44 : decode cX7_mostAlike 44 = .ok (.getfield 83, 3) := by decide +kernel
theorem rX7_mostAlike_44 {R : zP} {x0 x1 x2 x3 x4 x5 : Option zV} {st : List zV} {M : zM} {r : Nat} : uX7_mostAlike R 44 [x0, x1, x2, x3, x4, x5] (.inr (.inr r) :: st) M ↔ zgetx fX7 83 r M (fun v => uX7_mostAlike R 47 [x0, x1, x2, x3, x4, x5] (v :: st) M) := zU_step dX7_mostAlike_44 (Or.inl rfl)
theorem dX7_mostAlike_47 : decode cX7_mostAlike 47 = .ok (.iload 5, 2) := by decide +kernel
theorem rX7_mostAlike_47 {R : zP} {x0 x1 x2 x3 x4 : Option zV} {st : List zV} {M : zM} {a : Int} : uX7_mostAlike R 47 [x0, x1, x2, x3, x4, some (.inl a)] st M ↔ uX7_mostAlike R 49 [x0, x1, x2, x3, x4, some (.inl a)] (.inl a :: st) M := zU_step dX7_mostAlike_47 (Or.inl rfl)
theorem dX7_mostAlike_49 : decode cX7_mostAlike 49 = .ok (.dup2, 1) := by decide +kernel
theorem rX7_mostAlike_49 {R : zP} {x0 x1 x2 x3 x4 x5 : Option zV} {st : List zV} {M : zM} {a : Int} {b : Nat} : uX7_mostAlike R 49 [x0, x1, x2, x3, x4, x5] (.inl a :: .inr (.inr b) :: st) M ↔ uX7_mostAlike R 50 [x0, x1, x2, x3, x4, x5] (.inl a :: .inr (.inr b) :: .inl a :: .inr (.inr b) :: st) M := zU_step dX7_mostAlike_49 (Or.inl rfl)
theorem dX7_mostAlike_50 : decode cX7_mostAlike 50 = .ok (.iaload, 1) := by decide +kernel
theorem rX7_mostAlike_50 {R : zP} {x0 x1 x2 x3 x4 x5 : Option zV} {st : List zV} {M : zM} {i : Int} {r : Nat} : uX7_mostAlike R 50 [x0, x1, x2, x3, x4, x5] (.inl i :: .inr (.inr r) :: st) M ↔ zread fX7 0 r M i (fun v => uX7_mostAlike R 51 [x0, x1, x2, x3, x4, x5] (.inl v :: st) M) := zU_step dX7_mostAlike_50 (Or.inl rfl)
theorem dX7_mostAlike_51 : decode cX7_mostAlike 51 = .ok (.iconst 1, 1) := by decide +kernel
theorem rX7_mostAlike_51 {R : zP} {x0 x1 x2 x3 x4 x5 : Option zV} {st : List zV} {M : zM} : uX7_mostAlike R 51 [x0, x1, x2, x3, x4, x5] st M ↔ uX7_mostAlike R 52 [x0, x1, x2, x3, x4, x5] (.inl (1) :: st) M := zU_step dX7_mostAlike_51 (Or.inl rfl)
theorem dX7_mostAlike_52 : decode cX7_mostAlike 52 = .ok (.iadd, 1) := by decide +kernel
theorem rX7_mostAlike_52 {R : zP} {x0 x1 x2 x3 x4 x5 : Option zV} {st : List zV} {M : zM} {a b : Int} : uX7_mostAlike R 52 [x0, x1, x2, x3, x4, x5] (.inl b :: .inl a :: st) M ↔ uX7_mostAlike R 53 [x0, x1, x2, x3, x4, x5] (.inl (a + b) :: st) M := zU_step dX7_mostAlike_52 (Or.inl rfl)
theorem dX7_mostAlike_53 : decode cX7_mostAlike 53 = .ok (.iastore, 1) := by decide +kernel
theorem rX7_mostAlike_53 {R : zP} {x0 x1 x2 x3 x4 x5 : Option zV} {st : List zV} {M : zM} {i v : Int} {r : Nat} : uX7_mostAlike R 53 [x0, x1, x2, x3, x4, x5] (.inl v :: .inl i :: .inr (.inr r) :: st) M ↔ zwrite 0 r i (uX7_mostAlike R 54 [x0, x1, x2, x3, x4, x5] st (zup M r i v)) := zU_step dX7_mostAlike_53 (Or.inl rfl)
theorem dX7_mostAlike_54 : decode cX7_mostAlike 54 = .ok (.iload_n 3, 1) := by decide +kernel
theorem rX7_mostAlike_54 {R : zP} {x0 x1 x2 x4 x5 : Option zV} {st : List zV} {M : zM} {a : Int} : uX7_mostAlike R 54 [x0, x1, x2, some (.inl a), x4, x5] st M ↔ uX7_mostAlike R 55 [x0, x1, x2, some (.inl a), x4, x5] (.inl a :: st) M := zU_step dX7_mostAlike_54 (Or.inl rfl)
theorem dX7_mostAlike_55 : decode cX7_mostAlike 55 = .ok (.aload_n 0, 1) := by decide +kernel
theorem rX7_mostAlike_55 {R : zP} {x1 x2 x3 x4 x5 : Option zV} {st : List zV} {M : zM} {a : Nat} : uX7_mostAlike R 55 [some (.inr (.inr a)), x1, x2, x3, x4, x5] st M ↔ uX7_mostAlike R 56 [some (.inr (.inr a)), x1, x2, x3, x4, x5] (.inr (.inr a) :: st) M := zU_step dX7_mostAlike_55 (Or.inl rfl)
theorem dX7_mostAlike_56 : decode cX7_mostAlike 56 = .ok (.getfield 83, 3) := by decide +kernel
theorem rX7_mostAlike_56 {R : zP} {x0 x1 x2 x3 x4 x5 : Option zV} {st : List zV} {M : zM} {r : Nat} : uX7_mostAlike R 56 [x0, x1, x2, x3, x4, x5] (.inr (.inr r) :: st) M ↔ zgetx fX7 83 r M (fun v => uX7_mostAlike R 59 [x0, x1, x2, x3, x4, x5] (v :: st) M) := zU_step dX7_mostAlike_56 (Or.inl rfl)
theorem dX7_mostAlike_59 : decode cX7_mostAlike 59 = .ok (.iload 5, 2) := by decide +kernel
theorem rX7_mostAlike_59 {R : zP} {x0 x1 x2 x3 x4 : Option zV} {st : List zV} {M : zM} {a : Int} : uX7_mostAlike R 59 [x0, x1, x2, x3, x4, some (.inl a)] st M ↔ uX7_mostAlike R 61 [x0, x1, x2, x3, x4, some (.inl a)] (.inl a :: st) M := zU_step dX7_mostAlike_59 (Or.inl rfl)
theorem dX7_mostAlike_61 : decode cX7_mostAlike 61 = .ok (.iaload, 1) := by decide +kernel
theorem rX7_mostAlike_61 {R : zP} {x0 x1 x2 x3 x4 x5 : Option zV} {st : List zV} {M : zM} {i : Int} {r : Nat} : uX7_mostAlike R 61 [x0, x1, x2, x3, x4, x5] (.inl i :: .inr (.inr r) :: st) M ↔ zread fX7 0 r M i (fun v => uX7_mostAlike R 62 [x0, x1, x2, x3, x4, x5] (.inl v :: st) M) := zU_step dX7_mostAlike_61 (Or.inl rfl)
theorem dX7_mostAlike_62 : decode cX7_mostAlike 62 = .ok (.invokestatic 393, 3) := by decide +kernel
theorem rX7_mostAlike_62 {R : zP} {x0 x1 x2 x3 x4 x5 : Option zV} {st : List zV} {M : zM} {a0 a1 : zV} : uX7_mostAlike R 62 [x0, x1, x2, x3, x4, x5] (a1 :: a0 :: st) M ↔ (st.length ≤ 4 ∧ zcv zmaxT [a0, a1] M (fun v M => uX7_mostAlike R 65 [x0, x1, x2, x3, x4, x5] (v :: st) M)) := Iff.trans (zU_step dX7_mostAlike_62 (Or.inl rfl)) ⟨fun h => ⟨h.2.1, zcv_of h.2.2⟩, fun h => ⟨rfl, h.1, zcv_to h.2⟩⟩
theorem dX7_mostAlike_65 : decode cX7_mostAlike 65 = .ok (.istore_n 3, 1) := by decide +kernel
theorem rX7_mostAlike_65 {R : zP} {x0 x1 x2 x3 x4 x5 : Option zV} {st : List zV} {M : zM} {a : Int} : uX7_mostAlike R 65 [x0, x1, x2, x3, x4, x5] (.inl a :: st) M ↔ uX7_mostAlike R 66 [x0, x1, zkeep x2, some (.inl a), x4, x5] st M := Iff.trans (zU_step dX7_mostAlike_65 (Or.inl rfl)) ⟨fun h => h.2, fun h => ⟨show 3 < 6 by decide, h⟩⟩
theorem dX7_mostAlike_66 : decode cX7_mostAlike 66 = .ok (.iinc 4 1, 3) := by decide +kernel
theorem rX7_mostAlike_66 {R : zP} {x0 x1 x2 x3 x5 : Option zV} {st : List zV} {M : zM} {a : Int} : uX7_mostAlike R 66 [x0, x1, x2, x3, some (.inl a), x5] st M ↔ uX7_mostAlike R 69 [x0, x1, x2, zkeep x3, some (.inl (a + (1))), x5] st M := Iff.trans (zU_step dX7_mostAlike_66 (Or.inl rfl)) ⟨fun h => h.2, fun h => ⟨show 4 < 6 by decide, h⟩⟩
theorem dX7_mostAlike_69 : decode cX7_mostAlike 69 = .ok (.goto (-56), 3) := by decide +kernel
theorem rX7_mostAlike_69 {R : zP} {x0 x1 x2 x3 x4 x5 : Option zV} {st : List zV} {M : zM} : uX7_mostAlike R 69 [x0, x1, x2, x3, x4, x5] st M ↔ uX7_mostAlike R 13 [x0, x1, x2, x3, x4, x5] st M := Iff.trans (zU_step dX7_mostAlike_69 (Or.inl rfl)) ⟨fun h => h.2, fun h => ⟨by decide, h⟩⟩
theorem dX7_mostAlike_72 : decode cX7_mostAlike 72 = .ok (.iload_n 3, 1) := by decide +kernel
theorem rX7_mostAlike_72 {R : zP} {x0 x1 x2 x4 x5 : Option zV} {st : List zV} {M : zM} {a : Int} : uX7_mostAlike R 72 [x0, x1, x2, some (.inl a), x4, x5] st M ↔ uX7_mostAlike R 73 [x0, x1, x2, some (.inl a), x4, x5] (.inl a :: st) M := zU_step dX7_mostAlike_72 (Or.inl rfl)
theorem dX7_mostAlike_73 : decode cX7_mostAlike 73 = .ok (.ireturn, 1) := by decide +kernel
theorem rX7_mostAlike_73 {R : zP} {x0 x1 x2 x3 x4 x5 : Option zV} {M : zM} {a : Int} : uX7_mostAlike R 73 [x0, x1, x2, x3, x4, x5] [.inl a] M ↔ R (some (.inl a)) M := Iff.trans (zU_step dX7_mostAlike_73 (Or.inl rfl)) ⟨fun h => h.2.2, fun h => ⟨rfl, Or.inl rfl, h⟩⟩
theorem eX7_mostAlike {R : zP} {M : zM} {a0 : Nat} {p0 : Int} {p1 : Int} : tX7_mostAlike [.inr (.inr a0), .inl p0, .inl p1] M R ↔ uX7_mostAlike R 0 [some (.inr (.inr a0)), some (.inl p0), some (.inl p1), none, none, none] [] M := ⟨fun h => h.2, fun h => ⟨show 3 ≤ 6 by decide, h⟩⟩
def uX7_ask (R : zP) : zK := zU fX7 vX7_ask cX7_ask R
theorem dX7_ask_0 : decode cX7_ask 0 = .ok (.iload_n 1, 1) := by decide +kernel
theorem rX7_ask_0 {R : zP} {x0 x2 x3 x4 x5 x6 x7 : Option zV} {st : List zV} {M : zM} {a : Int} : uX7_ask R 0 [x0, some (.inl a), x2, x3, x4, x5, x6, x7] st M ↔ uX7_ask R 1 [x0, some (.inl a), x2, x3, x4, x5, x6, x7] (.inl a :: st) M := zU_step dX7_ask_0 (Or.inl rfl)
theorem dX7_ask_1 : decode cX7_ask 1 = .ok (.aload_n 0, 1) := by decide +kernel
theorem rX7_ask_1 {R : zP} {x1 x2 x3 x4 x5 x6 x7 : Option zV} {st : List zV} {M : zM} {a : Nat} : uX7_ask R 1 [some (.inr (.inr a)), x1, x2, x3, x4, x5, x6, x7] st M ↔ uX7_ask R 2 [some (.inr (.inr a)), x1, x2, x3, x4, x5, x6, x7] (.inr (.inr a) :: st) M := zU_step dX7_ask_1 (Or.inl rfl)
theorem dX7_ask_2 : decode cX7_ask 2 = .ok (.getfield 14, 3) := by decide +kernel
theorem rX7_ask_2 {R : zP} {x0 x1 x2 x3 x4 x5 x6 x7 : Option zV} {st : List zV} {M : zM} {r : Nat} : uX7_ask R 2 [x0, x1, x2, x3, x4, x5, x6, x7] (.inr (.inr r) :: st) M ↔ zgetx fX7 14 r M (fun v => uX7_ask R 5 [x0, x1, x2, x3, x4, x5, x6, x7] (v :: st) M) := zU_step dX7_ask_2 (Or.inl rfl)
theorem dX7_ask_5 : decode cX7_ask 5 = .ok (.getfield 116, 3) := by decide +kernel
theorem rX7_ask_5 {R : zP} {x0 x1 x2 x3 x4 x5 x6 x7 : Option zV} {st : List zV} {M : zM} {r : Nat} : uX7_ask R 5 [x0, x1, x2, x3, x4, x5, x6, x7] (.inr (.inr r) :: st) M ↔ zgetx fX7 116 r M (fun v => uX7_ask R 8 [x0, x1, x2, x3, x4, x5, x6, x7] (v :: st) M) := zU_step dX7_ask_5 (Or.inl rfl)
theorem dX7_ask_8 : decode cX7_ask 8 = .ok (.invokestatic 94, 3) := by decide +kernel
theorem rX7_ask_8 {R : zP} {x0 x1 x2 x3 x4 x5 x6 x7 : Option zV} {st : List zV} {M : zM} {a0 a1 : zV} : uX7_ask R 8 [x0, x1, x2, x3, x4, x5, x6, x7] (a1 :: a0 :: st) M ↔ (st.length ≤ 4 ∧ zcv tX7_outside [a0, a1] M (fun v M => uX7_ask R 11 [x0, x1, x2, x3, x4, x5, x6, x7] (v :: st) M)) := Iff.trans (zU_step dX7_ask_8 (Or.inl rfl)) ⟨fun h => ⟨h.2.1, zcv_of h.2.2⟩, fun h => ⟨rfl, h.1, zcv_to h.2⟩⟩
theorem dX7_ask_11 : decode cX7_ask 11 = .ok (.ifCond .ne 11, 3) := by decide +kernel
theorem rX7_ask_11 {R : zP} {x0 x1 x2 x3 x4 x5 x6 x7 : Option zV} {st : List zV} {M : zM} {a : Int} : uX7_ask R 11 [x0, x1, x2, x3, x4, x5, x6, x7] (.inl a :: st) M ↔ (zIR a ∧ (a ≠ 0 → uX7_ask R 22 [x0, x1, x2, x3, x4, x5, x6, x7] st M) ∧ (¬ a ≠ 0 → uX7_ask R 14 [x0, x1, x2, x3, x4, x5, x6, x7] st M)) := Iff.trans (zU_step dX7_ask_11 (Or.inl rfl)) ⟨fun h => ⟨h.1.1, h.2⟩, fun h => ⟨⟨h.1, by decide⟩, h.2⟩⟩
theorem dX7_ask_14 : decode cX7_ask 14 = .ok (.iload_n 2, 1) := by decide +kernel
theorem rX7_ask_14 {R : zP} {x0 x1 x3 x4 x5 x6 x7 : Option zV} {st : List zV} {M : zM} {a : Int} : uX7_ask R 14 [x0, x1, some (.inl a), x3, x4, x5, x6, x7] st M ↔ uX7_ask R 15 [x0, x1, some (.inl a), x3, x4, x5, x6, x7] (.inl a :: st) M := zU_step dX7_ask_14 (Or.inl rfl)
theorem dX7_ask_15 : decode cX7_ask 15 = .ok (.iconst 4, 1) := by decide +kernel
theorem rX7_ask_15 {R : zP} {x0 x1 x2 x3 x4 x5 x6 x7 : Option zV} {st : List zV} {M : zM} : uX7_ask R 15 [x0, x1, x2, x3, x4, x5, x6, x7] st M ↔ uX7_ask R 16 [x0, x1, x2, x3, x4, x5, x6, x7] (.inl (4) :: st) M := zU_step dX7_ask_15 (Or.inl rfl)
theorem dX7_ask_16 : decode cX7_ask 16 = .ok (.invokestatic 94, 3) := by decide +kernel
theorem rX7_ask_16 {R : zP} {x0 x1 x2 x3 x4 x5 x6 x7 : Option zV} {st : List zV} {M : zM} {a0 a1 : zV} : uX7_ask R 16 [x0, x1, x2, x3, x4, x5, x6, x7] (a1 :: a0 :: st) M ↔ (st.length ≤ 4 ∧ zcv tX7_outside [a0, a1] M (fun v M => uX7_ask R 19 [x0, x1, x2, x3, x4, x5, x6, x7] (v :: st) M)) := Iff.trans (zU_step dX7_ask_16 (Or.inl rfl)) ⟨fun h => ⟨h.2.1, zcv_of h.2.2⟩, fun h => ⟨rfl, h.1, zcv_to h.2⟩⟩
theorem dX7_ask_19 : decode cX7_ask 19 = .ok (.ifCond .eq 6, 3) := by decide +kernel
theorem rX7_ask_19 {R : zP} {x0 x1 x2 x3 x4 x5 x6 x7 : Option zV} {st : List zV} {M : zM} {a : Int} : uX7_ask R 19 [x0, x1, x2, x3, x4, x5, x6, x7] (.inl a :: st) M ↔ (zIR a ∧ (a = 0 → uX7_ask R 25 [x0, x1, x2, x3, x4, x5, x6, x7] st M) ∧ (¬ a = 0 → uX7_ask R 22 [x0, x1, x2, x3, x4, x5, x6, x7] st M)) := Iff.trans (zU_step dX7_ask_19 (Or.inl rfl)) ⟨fun h => ⟨h.1.1, h.2⟩, fun h => ⟨⟨h.1, by decide⟩, h.2⟩⟩
theorem dX7_ask_22 : decode cX7_ask 22 = .ok (.bipush (-2), 2) := by decide +kernel
theorem rX7_ask_22 {R : zP} {x0 x1 x2 x3 x4 x5 x6 x7 : Option zV} {st : List zV} {M : zM} : uX7_ask R 22 [x0, x1, x2, x3, x4, x5, x6, x7] st M ↔ uX7_ask R 24 [x0, x1, x2, x3, x4, x5, x6, x7] (.inl (-2) :: st) M := Iff.trans (zU_step dX7_ask_22 (Or.inl rfl)) ⟨fun h => h.2, fun h => ⟨by decide, h⟩⟩
theorem dX7_ask_24 : decode cX7_ask 24 = .ok (.ireturn, 1) := by decide +kernel
theorem rX7_ask_24 {R : zP} {x0 x1 x2 x3 x4 x5 x6 x7 : Option zV} {M : zM} {a : Int} : uX7_ask R 24 [x0, x1, x2, x3, x4, x5, x6, x7] [.inl a] M ↔ R (some (.inl a)) M := Iff.trans (zU_step dX7_ask_24 (Or.inl rfl)) ⟨fun h => h.2.2, fun h => ⟨rfl, Or.inl rfl, h⟩⟩
theorem dX7_ask_25 : decode cX7_ask 25 = .ok (.aload_n 0, 1) := by decide +kernel
theorem rX7_ask_25 {R : zP} {x1 x2 x3 x4 x5 x6 x7 : Option zV} {st : List zV} {M : zM} {a : Nat} : uX7_ask R 25 [some (.inr (.inr a)), x1, x2, x3, x4, x5, x6, x7] st M ↔ uX7_ask R 26 [some (.inr (.inr a)), x1, x2, x3, x4, x5, x6, x7] (.inr (.inr a) :: st) M := zU_step dX7_ask_25 (Or.inl rfl)
theorem dX7_ask_26 : decode cX7_ask 26 = .ok (.iload_n 1, 1) := by decide +kernel
theorem rX7_ask_26 {R : zP} {x0 x2 x3 x4 x5 x6 x7 : Option zV} {st : List zV} {M : zM} {a : Int} : uX7_ask R 26 [x0, some (.inl a), x2, x3, x4, x5, x6, x7] st M ↔ uX7_ask R 27 [x0, some (.inl a), x2, x3, x4, x5, x6, x7] (.inl a :: st) M := zU_step dX7_ask_26 (Or.inl rfl)
theorem dX7_ask_27 : decode cX7_ask 27 = .ok (.sipush 255, 3) := by decide +kernel
theorem rX7_ask_27 {R : zP} {x0 x1 x2 x3 x4 x5 x6 x7 : Option zV} {st : List zV} {M : zM} : uX7_ask R 27 [x0, x1, x2, x3, x4, x5, x6, x7] st M ↔ uX7_ask R 30 [x0, x1, x2, x3, x4, x5, x6, x7] (.inl (255) :: st) M := Iff.trans (zU_step dX7_ask_27 (Or.inl rfl)) ⟨fun h => h.2, fun h => ⟨by decide, h⟩⟩
theorem dX7_ask_30 : decode cX7_ask 30 = .ok (.invokevirtual 235, 3) := by decide +kernel
theorem rX7_ask_30 {R : zP} {x0 x1 x2 x3 x4 x5 x6 x7 : Option zV} {st : List zV} {M : zM} {a0 a1 a2 : zV} : uX7_ask R 30 [x0, x1, x2, x3, x4, x5, x6, x7] (a2 :: a1 :: a0 :: st) M ↔ (st.length ≤ 4 ∧ zcv (zv 7 tX7_restAgree) [a0, a1, a2] M (fun v M => uX7_ask R 33 [x0, x1, x2, x3, x4, x5, x6, x7] (v :: st) M)) := Iff.trans (zU_step dX7_ask_30 (Or.inl rfl)) ⟨fun h => ⟨h.2.1, zcv_of h.2.2⟩, fun h => ⟨rfl, h.1, zcv_to h.2⟩⟩
theorem dX7_ask_33 : decode cX7_ask 33 = .ok (.ifCond .eq 12, 3) := by decide +kernel
theorem rX7_ask_33 {R : zP} {x0 x1 x2 x3 x4 x5 x6 x7 : Option zV} {st : List zV} {M : zM} {a : Int} : uX7_ask R 33 [x0, x1, x2, x3, x4, x5, x6, x7] (.inl a :: st) M ↔ (zIR a ∧ (a = 0 → uX7_ask R 45 [x0, x1, x2, x3, x4, x5, x6, x7] st M) ∧ (¬ a = 0 → uX7_ask R 36 [x0, x1, x2, x3, x4, x5, x6, x7] st M)) := Iff.trans (zU_step dX7_ask_33 (Or.inl rfl)) ⟨fun h => ⟨h.1.1, h.2⟩, fun h => ⟨⟨h.1, by decide⟩, h.2⟩⟩
theorem dX7_ask_36 : decode cX7_ask 36 = .ok (.aload_n 0, 1) := by decide +kernel
theorem rX7_ask_36 {R : zP} {x1 x2 x3 x4 x5 x6 x7 : Option zV} {st : List zV} {M : zM} {a : Nat} : uX7_ask R 36 [some (.inr (.inr a)), x1, x2, x3, x4, x5, x6, x7] st M ↔ uX7_ask R 37 [some (.inr (.inr a)), x1, x2, x3, x4, x5, x6, x7] (.inr (.inr a) :: st) M := zU_step dX7_ask_36 (Or.inl rfl)
theorem dX7_ask_37 : decode cX7_ask 37 = .ok (.iload_n 1, 1) := by decide +kernel
theorem rX7_ask_37 {R : zP} {x0 x2 x3 x4 x5 x6 x7 : Option zV} {st : List zV} {M : zM} {a : Int} : uX7_ask R 37 [x0, some (.inl a), x2, x3, x4, x5, x6, x7] st M ↔ uX7_ask R 38 [x0, some (.inl a), x2, x3, x4, x5, x6, x7] (.inl a :: st) M := zU_step dX7_ask_37 (Or.inl rfl)
theorem dX7_ask_38 : decode cX7_ask 38 = .ok (.iload_n 2, 1) := by decide +kernel
theorem rX7_ask_38 {R : zP} {x0 x1 x3 x4 x5 x6 x7 : Option zV} {st : List zV} {M : zM} {a : Int} : uX7_ask R 38 [x0, x1, some (.inl a), x3, x4, x5, x6, x7] st M ↔ uX7_ask R 39 [x0, x1, some (.inl a), x3, x4, x5, x6, x7] (.inl a :: st) M := zU_step dX7_ask_38 (Or.inl rfl)
theorem dX7_ask_39 : decode cX7_ask 39 = .ok (.invokevirtual 253, 3) := by decide +kernel
theorem rX7_ask_39 {R : zP} {x0 x1 x2 x3 x4 x5 x6 x7 : Option zV} {st : List zV} {M : zM} {a0 a1 a2 : zV} : uX7_ask R 39 [x0, x1, x2, x3, x4, x5, x6, x7] (a2 :: a1 :: a0 :: st) M ↔ (st.length ≤ 4 ∧ zcv (zv 7 tX7_guessFirst) [a0, a1, a2] M (fun v M => uX7_ask R 42 [x0, x1, x2, x3, x4, x5, x6, x7] (v :: st) M)) := Iff.trans (zU_step dX7_ask_39 (Or.inl rfl)) ⟨fun h => ⟨h.2.1, zcv_of h.2.2⟩, fun h => ⟨rfl, h.1, zcv_to h.2⟩⟩
theorem dX7_ask_42 : decode cX7_ask 42 = .ok (.goto 4, 3) := by decide +kernel
theorem rX7_ask_42 {R : zP} {x0 x1 x2 x3 x4 x5 x6 x7 : Option zV} {st : List zV} {M : zM} : uX7_ask R 42 [x0, x1, x2, x3, x4, x5, x6, x7] st M ↔ uX7_ask R 46 [x0, x1, x2, x3, x4, x5, x6, x7] st M := Iff.trans (zU_step dX7_ask_42 (Or.inl rfl)) ⟨fun h => h.2, fun h => ⟨by decide, h⟩⟩
theorem dX7_ask_45 : decode cX7_ask 45 = .ok (.iconst 0, 1) := by decide +kernel
theorem rX7_ask_45 {R : zP} {x0 x1 x2 x3 x4 x5 x6 x7 : Option zV} {st : List zV} {M : zM} : uX7_ask R 45 [x0, x1, x2, x3, x4, x5, x6, x7] st M ↔ uX7_ask R 46 [x0, x1, x2, x3, x4, x5, x6, x7] (.inl (0) :: st) M := zU_step dX7_ask_45 (Or.inl rfl)
theorem dX7_ask_46 : decode cX7_ask 46 = .ok (.istore_n 3, 1) := by decide +kernel
theorem rX7_ask_46 {R : zP} {x0 x1 x2 x3 x4 x5 x6 x7 : Option zV} {st : List zV} {M : zM} {a : Int} : uX7_ask R 46 [x0, x1, x2, x3, x4, x5, x6, x7] (.inl a :: st) M ↔ uX7_ask R 47 [x0, x1, zkeep x2, some (.inl a), x4, x5, x6, x7] st M := Iff.trans (zU_step dX7_ask_46 (Or.inl rfl)) ⟨fun h => h.2, fun h => ⟨show 3 < 8 by decide, h⟩⟩
theorem dX7_ask_47 : decode cX7_ask 47 = .ok (.bipush 11, 2) := by decide +kernel
theorem rX7_ask_47 {R : zP} {x0 x1 x2 x3 x4 x5 x6 x7 : Option zV} {st : List zV} {M : zM} : uX7_ask R 47 [x0, x1, x2, x3, x4, x5, x6, x7] st M ↔ uX7_ask R 49 [x0, x1, x2, x3, x4, x5, x6, x7] (.inl (11) :: st) M := Iff.trans (zU_step dX7_ask_47 (Or.inl rfl)) ⟨fun h => h.2, fun h => ⟨by decide, h⟩⟩
theorem dX7_ask_49 : decode cX7_ask 49 = .ok (.istore 4, 2) := by decide +kernel
theorem rX7_ask_49 {R : zP} {x0 x1 x2 x3 x4 x5 x6 x7 : Option zV} {st : List zV} {M : zM} {a : Int} : uX7_ask R 49 [x0, x1, x2, x3, x4, x5, x6, x7] (.inl a :: st) M ↔ uX7_ask R 51 [x0, x1, x2, zkeep x3, some (.inl a), x5, x6, x7] st M := Iff.trans (zU_step dX7_ask_49 (Or.inl rfl)) ⟨fun h => h.2, fun h => ⟨show 4 < 8 by decide, h⟩⟩
theorem dX7_ask_51 : decode cX7_ask 51 = .ok (.iconst 0, 1) := by decide +kernel
theorem rX7_ask_51 {R : zP} {x0 x1 x2 x3 x4 x5 x6 x7 : Option zV} {st : List zV} {M : zM} : uX7_ask R 51 [x0, x1, x2, x3, x4, x5, x6, x7] st M ↔ uX7_ask R 52 [x0, x1, x2, x3, x4, x5, x6, x7] (.inl (0) :: st) M := zU_step dX7_ask_51 (Or.inl rfl)
theorem dX7_ask_52 : decode cX7_ask 52 = .ok (.istore 5, 2) := by decide +kernel
theorem rX7_ask_52 {R : zP} {x0 x1 x2 x3 x4 x5 x6 x7 : Option zV} {st : List zV} {M : zM} {a : Int} : uX7_ask R 52 [x0, x1, x2, x3, x4, x5, x6, x7] (.inl a :: st) M ↔ uX7_ask R 54 [x0, x1, x2, x3, zkeep x4, some (.inl a), x6, x7] st M := Iff.trans (zU_step dX7_ask_52 (Or.inl rfl)) ⟨fun h => h.2, fun h => ⟨show 5 < 8 by decide, h⟩⟩
theorem dX7_ask_54 : decode cX7_ask 54 = .ok (.iconst 0, 1) := by decide +kernel
theorem rX7_ask_54 {R : zP} {x0 x1 x2 x3 x4 x5 x6 x7 : Option zV} {st : List zV} {M : zM} : uX7_ask R 54 [x0, x1, x2, x3, x4, x5, x6, x7] st M ↔ uX7_ask R 55 [x0, x1, x2, x3, x4, x5, x6, x7] (.inl (0) :: st) M := zU_step dX7_ask_54 (Or.inl rfl)
theorem dX7_ask_55 : decode cX7_ask 55 = .ok (.istore 6, 2) := by decide +kernel
theorem rX7_ask_55 {R : zP} {x0 x1 x2 x3 x4 x5 x6 x7 : Option zV} {st : List zV} {M : zM} {a : Int} : uX7_ask R 55 [x0, x1, x2, x3, x4, x5, x6, x7] (.inl a :: st) M ↔ uX7_ask R 57 [x0, x1, x2, x3, x4, zkeep x5, some (.inl a), x7] st M := Iff.trans (zU_step dX7_ask_55 (Or.inl rfl)) ⟨fun h => h.2, fun h => ⟨show 6 < 8 by decide, h⟩⟩
theorem dX7_ask_57 : decode cX7_ask 57 = .ok (.iload 6, 2) := by decide +kernel
theorem rX7_ask_57 {R : zP} {x0 x1 x2 x3 x4 x5 x7 : Option zV} {st : List zV} {M : zM} {a : Int} : uX7_ask R 57 [x0, x1, x2, x3, x4, x5, some (.inl a), x7] st M ↔ uX7_ask R 59 [x0, x1, x2, x3, x4, x5, some (.inl a), x7] (.inl a :: st) M := zU_step dX7_ask_57 (Or.inl rfl)
theorem dX7_ask_59 : decode cX7_ask 59 = .ok (.bipush 20, 2) := by decide +kernel
theorem rX7_ask_59 {R : zP} {x0 x1 x2 x3 x4 x5 x6 x7 : Option zV} {st : List zV} {M : zM} : uX7_ask R 59 [x0, x1, x2, x3, x4, x5, x6, x7] st M ↔ uX7_ask R 61 [x0, x1, x2, x3, x4, x5, x6, x7] (.inl (20) :: st) M := Iff.trans (zU_step dX7_ask_59 (Or.inl rfl)) ⟨fun h => h.2, fun h => ⟨by decide, h⟩⟩
theorem dX7_ask_61 : decode cX7_ask 61 = .ok (.if_icmp .ge 33, 3) := by decide +kernel
theorem rX7_ask_61 {R : zP} {x0 x1 x2 x3 x4 x5 x6 x7 : Option zV} {st : List zV} {M : zM} {a b : Int} : uX7_ask R 61 [x0, x1, x2, x3, x4, x5, x6, x7] (.inl b :: .inl a :: st) M ↔ ((zIR a ∧ zIR b) ∧ (b ≤ a → uX7_ask R 94 [x0, x1, x2, x3, x4, x5, x6, x7] st M) ∧ (¬ b ≤ a → uX7_ask R 64 [x0, x1, x2, x3, x4, x5, x6, x7] st M)) := Iff.trans (zU_step dX7_ask_61 (Or.inl rfl)) ⟨fun h => ⟨⟨h.1.1, h.1.2.1⟩, h.2⟩, fun h => ⟨⟨h.1.1, h.1.2, by decide⟩, h.2⟩⟩
theorem dX7_ask_64 : decode cX7_ask 64 = .ok (.aload_n 0, 1) := by decide +kernel
theorem rX7_ask_64 {R : zP} {x1 x2 x3 x4 x5 x6 x7 : Option zV} {st : List zV} {M : zM} {a : Nat} : uX7_ask R 64 [some (.inr (.inr a)), x1, x2, x3, x4, x5, x6, x7] st M ↔ uX7_ask R 65 [some (.inr (.inr a)), x1, x2, x3, x4, x5, x6, x7] (.inr (.inr a) :: st) M := zU_step dX7_ask_64 (Or.inl rfl)
theorem dX7_ask_65 : decode cX7_ask 65 = .ok (.iload_n 3, 1) := by decide +kernel
theorem rX7_ask_65 {R : zP} {x0 x1 x2 x4 x5 x6 x7 : Option zV} {st : List zV} {M : zM} {a : Int} : uX7_ask R 65 [x0, x1, x2, some (.inl a), x4, x5, x6, x7] st M ↔ uX7_ask R 66 [x0, x1, x2, some (.inl a), x4, x5, x6, x7] (.inl a :: st) M := zU_step dX7_ask_65 (Or.inl rfl)
theorem dX7_ask_66 : decode cX7_ask 66 = .ok (.iload 6, 2) := by decide +kernel
theorem rX7_ask_66 {R : zP} {x0 x1 x2 x3 x4 x5 x7 : Option zV} {st : List zV} {M : zM} {a : Int} : uX7_ask R 66 [x0, x1, x2, x3, x4, x5, some (.inl a), x7] st M ↔ uX7_ask R 68 [x0, x1, x2, x3, x4, x5, some (.inl a), x7] (.inl a :: st) M := zU_step dX7_ask_66 (Or.inl rfl)
theorem dX7_ask_68 : decode cX7_ask 68 = .ok (.invokevirtual 256, 3) := by decide +kernel
theorem rX7_ask_68 {R : zP} {x0 x1 x2 x3 x4 x5 x6 x7 : Option zV} {st : List zV} {M : zM} {a0 a1 a2 : zV} : uX7_ask R 68 [x0, x1, x2, x3, x4, x5, x6, x7] (a2 :: a1 :: a0 :: st) M ↔ (st.length ≤ 4 ∧ zcv (zv 7 tX7_mostAlike) [a0, a1, a2] M (fun v M => uX7_ask R 71 [x0, x1, x2, x3, x4, x5, x6, x7] (v :: st) M)) := Iff.trans (zU_step dX7_ask_68 (Or.inl rfl)) ⟨fun h => ⟨h.2.1, zcv_of h.2.2⟩, fun h => ⟨rfl, h.1, zcv_to h.2⟩⟩
theorem dX7_ask_71 : decode cX7_ask 71 = .ok (.istore 7, 2) := by decide +kernel
theorem rX7_ask_71 {R : zP} {x0 x1 x2 x3 x4 x5 x6 x7 : Option zV} {st : List zV} {M : zM} {a : Int} : uX7_ask R 71 [x0, x1, x2, x3, x4, x5, x6, x7] (.inl a :: st) M ↔ uX7_ask R 73 [x0, x1, x2, x3, x4, x5, zkeep x6, some (.inl a)] st M := Iff.trans (zU_step dX7_ask_71 (Or.inl rfl)) ⟨fun h => h.2, fun h => ⟨show 7 < 8 by decide, h⟩⟩
theorem dX7_ask_73 : decode cX7_ask 73 = .ok (.iload 7, 2) := by decide +kernel
theorem rX7_ask_73 {R : zP} {x0 x1 x2 x3 x4 x5 x6 : Option zV} {st : List zV} {M : zM} {a : Int} : uX7_ask R 73 [x0, x1, x2, x3, x4, x5, x6, some (.inl a)] st M ↔ uX7_ask R 75 [x0, x1, x2, x3, x4, x5, x6, some (.inl a)] (.inl a :: st) M := zU_step dX7_ask_73 (Or.inl rfl)
theorem dX7_ask_75 : decode cX7_ask 75 = .ok (.iload 4, 2) := by decide +kernel
theorem rX7_ask_75 {R : zP} {x0 x1 x2 x3 x5 x6 x7 : Option zV} {st : List zV} {M : zM} {a : Int} : uX7_ask R 75 [x0, x1, x2, x3, some (.inl a), x5, x6, x7] st M ↔ uX7_ask R 77 [x0, x1, x2, x3, some (.inl a), x5, x6, x7] (.inl a :: st) M := zU_step dX7_ask_75 (Or.inl rfl)
theorem dX7_ask_77 : decode cX7_ask 77 = .ok (.if_icmp .ge 11, 3) := by decide +kernel
theorem rX7_ask_77 {R : zP} {x0 x1 x2 x3 x4 x5 x6 x7 : Option zV} {st : List zV} {M : zM} {a b : Int} : uX7_ask R 77 [x0, x1, x2, x3, x4, x5, x6, x7] (.inl b :: .inl a :: st) M ↔ ((zIR a ∧ zIR b) ∧ (b ≤ a → uX7_ask R 88 [x0, x1, x2, x3, x4, x5, x6, x7] st M) ∧ (¬ b ≤ a → uX7_ask R 80 [x0, x1, x2, x3, x4, x5, x6, x7] st M)) := Iff.trans (zU_step dX7_ask_77 (Or.inl rfl)) ⟨fun h => ⟨⟨h.1.1, h.1.2.1⟩, h.2⟩, fun h => ⟨⟨h.1.1, h.1.2, by decide⟩, h.2⟩⟩
theorem dX7_ask_80 : decode cX7_ask 80 = .ok (.iload 7, 2) := by decide +kernel
theorem rX7_ask_80 {R : zP} {x0 x1 x2 x3 x4 x5 x6 : Option zV} {st : List zV} {M : zM} {a : Int} : uX7_ask R 80 [x0, x1, x2, x3, x4, x5, x6, some (.inl a)] st M ↔ uX7_ask R 82 [x0, x1, x2, x3, x4, x5, x6, some (.inl a)] (.inl a :: st) M := zU_step dX7_ask_80 (Or.inl rfl)
theorem dX7_ask_82 : decode cX7_ask 82 = .ok (.istore 4, 2) := by decide +kernel
theorem rX7_ask_82 {R : zP} {x0 x1 x2 x3 x4 x5 x6 x7 : Option zV} {st : List zV} {M : zM} {a : Int} : uX7_ask R 82 [x0, x1, x2, x3, x4, x5, x6, x7] (.inl a :: st) M ↔ uX7_ask R 84 [x0, x1, x2, zkeep x3, some (.inl a), x5, x6, x7] st M := Iff.trans (zU_step dX7_ask_82 (Or.inl rfl)) ⟨fun h => h.2, fun h => ⟨show 4 < 8 by decide, h⟩⟩
theorem dX7_ask_84 : decode cX7_ask 84 = .ok (.iload 6, 2) := by decide +kernel
theorem rX7_ask_84 {R : zP} {x0 x1 x2 x3 x4 x5 x7 : Option zV} {st : List zV} {M : zM} {a : Int} : uX7_ask R 84 [x0, x1, x2, x3, x4, x5, some (.inl a), x7] st M ↔ uX7_ask R 86 [x0, x1, x2, x3, x4, x5, some (.inl a), x7] (.inl a :: st) M := zU_step dX7_ask_84 (Or.inl rfl)
theorem dX7_ask_86 : decode cX7_ask 86 = .ok (.istore 5, 2) := by decide +kernel
theorem rX7_ask_86 {R : zP} {x0 x1 x2 x3 x4 x5 x6 x7 : Option zV} {st : List zV} {M : zM} {a : Int} : uX7_ask R 86 [x0, x1, x2, x3, x4, x5, x6, x7] (.inl a :: st) M ↔ uX7_ask R 88 [x0, x1, x2, x3, zkeep x4, some (.inl a), x6, x7] st M := Iff.trans (zU_step dX7_ask_86 (Or.inl rfl)) ⟨fun h => h.2, fun h => ⟨show 5 < 8 by decide, h⟩⟩
theorem dX7_ask_88 : decode cX7_ask 88 = .ok (.iinc 6 1, 3) := by decide +kernel
theorem rX7_ask_88 {R : zP} {x0 x1 x2 x3 x4 x5 x7 : Option zV} {st : List zV} {M : zM} {a : Int} : uX7_ask R 88 [x0, x1, x2, x3, x4, x5, some (.inl a), x7] st M ↔ uX7_ask R 91 [x0, x1, x2, x3, x4, zkeep x5, some (.inl (a + (1))), x7] st M := Iff.trans (zU_step dX7_ask_88 (Or.inl rfl)) ⟨fun h => h.2, fun h => ⟨show 6 < 8 by decide, h⟩⟩
theorem dX7_ask_91 : decode cX7_ask 91 = .ok (.goto (-34), 3) := by decide +kernel
theorem rX7_ask_91 {R : zP} {x0 x1 x2 x3 x4 x5 x6 x7 : Option zV} {st : List zV} {M : zM} : uX7_ask R 91 [x0, x1, x2, x3, x4, x5, x6, x7] st M ↔ uX7_ask R 57 [x0, x1, x2, x3, x4, x5, x6, x7] st M := Iff.trans (zU_step dX7_ask_91 (Or.inl rfl)) ⟨fun h => h.2, fun h => ⟨by decide, h⟩⟩
theorem dX7_ask_94 : decode cX7_ask 94 = .ok (.iload 5, 2) := by decide +kernel
theorem rX7_ask_94 {R : zP} {x0 x1 x2 x3 x4 x6 x7 : Option zV} {st : List zV} {M : zM} {a : Int} : uX7_ask R 94 [x0, x1, x2, x3, x4, some (.inl a), x6, x7] st M ↔ uX7_ask R 96 [x0, x1, x2, x3, x4, some (.inl a), x6, x7] (.inl a :: st) M := zU_step dX7_ask_94 (Or.inl rfl)
theorem dX7_ask_96 : decode cX7_ask 96 = .ok (.ireturn, 1) := by decide +kernel
theorem rX7_ask_96 {R : zP} {x0 x1 x2 x3 x4 x5 x6 x7 : Option zV} {M : zM} {a : Int} : uX7_ask R 96 [x0, x1, x2, x3, x4, x5, x6, x7] [.inl a] M ↔ R (some (.inl a)) M := Iff.trans (zU_step dX7_ask_96 (Or.inl rfl)) ⟨fun h => h.2.2, fun h => ⟨rfl, Or.inl rfl, h⟩⟩
theorem eX7_ask {R : zP} {M : zM} {a0 : Nat} {p0 : Int} {p1 : Int} : tX7_ask [.inr (.inr a0), .inl p0, .inl p1] M R ↔ uX7_ask R 0 [some (.inr (.inr a0)), some (.inl p0), some (.inl p1), none, none, none, none, none] [] M := ⟨fun h => h.2, fun h => ⟨show 3 ≤ 8 by decide, h⟩⟩
def uJ7_fill_d0a16 (R : zP) : zK := zU fJ7 vJ7_fill_d0a16 cJ7_fill_d0a16 R
theorem dJ7_fill_d0a16_0 : decode cJ7_fill_d0a16 0 = .ok (.iconst 0, 1) := by decide +kernel
theorem rJ7_fill_d0a16_0 {R : zP} {x0 x1 x2 x3 x4 : Option zV} {st : List zV} {M : zM} : uJ7_fill_d0a16 R 0 [x0, x1, x2, x3, x4] st M ↔ uJ7_fill_d0a16 R 1 [x0, x1, x2, x3, x4] (.inl (0) :: st) M := zU_step dJ7_fill_d0a16_0 (Or.inl rfl)
theorem dJ7_fill_d0a16_1 : decode cJ7_fill_d0a16 1 = .ok (.istore_n 3, 1) := by decide +kernel
theorem rJ7_fill_d0a16_1 {R : zP} {x0 x1 x2 x3 x4 : Option zV} {st : List zV} {M : zM} {a : Int} : uJ7_fill_d0a16 R 1 [x0, x1, x2, x3, x4] (.inl a :: st) M ↔ uJ7_fill_d0a16 R 2 [x0, x1, zkeep x2, some (.inl a), x4] st M := Iff.trans (zU_step dJ7_fill_d0a16_1 (Or.inl rfl)) ⟨fun h => h.2, fun h => ⟨show 3 < 5 by decide, h⟩⟩
theorem dJ7_fill_d0a16_2 : decode cJ7_fill_d0a16 2 = .ok (.aload_n 0, 1) := by decide +kernel
theorem rJ7_fill_d0a16_2 {R : zP} {x1 x2 x3 x4 : Option zV} {st : List zV} {M : zM} {a : Nat} : uJ7_fill_d0a16 R 2 [some (.inr (.inr a)), x1, x2, x3, x4] st M ↔ uJ7_fill_d0a16 R 3 [some (.inr (.inr a)), x1, x2, x3, x4] (.inr (.inr a) :: st) M := zU_step dJ7_fill_d0a16_2 (Or.inl rfl)
theorem dJ7_fill_d0a16_3 : decode cJ7_fill_d0a16 3 = .ok (.arraylength, 1) := by decide +kernel
theorem rJ7_fill_d0a16_3 {R : zP} {x0 x1 x2 x3 x4 : Option zV} {st : List zV} {M : zM} {r : Nat} : uJ7_fill_d0a16 R 3 [x0, x1, x2, x3, x4] (.inr (.inr r) :: st) M ↔ zlenof fJ7 r (fun v => uJ7_fill_d0a16 R 4 [x0, x1, x2, x3, x4] (.inl v :: st) M) := zU_step dJ7_fill_d0a16_3 (Or.inl rfl)
theorem dJ7_fill_d0a16_4 : decode cJ7_fill_d0a16 4 = .ok (.istore 4, 2) := by decide +kernel
theorem rJ7_fill_d0a16_4 {R : zP} {x0 x1 x2 x3 x4 : Option zV} {st : List zV} {M : zM} {a : Int} : uJ7_fill_d0a16 R 4 [x0, x1, x2, x3, x4] (.inl a :: st) M ↔ uJ7_fill_d0a16 R 6 [x0, x1, x2, zkeep x3, some (.inl a)] st M := Iff.trans (zU_step dJ7_fill_d0a16_4 (Or.inl rfl)) ⟨fun h => h.2, fun h => ⟨show 4 < 5 by decide, h⟩⟩
theorem dJ7_fill_d0a16_6 : decode cJ7_fill_d0a16 6 = .ok (.iload_n 3, 1) := by decide +kernel
theorem rJ7_fill_d0a16_6 {R : zP} {x0 x1 x2 x4 : Option zV} {st : List zV} {M : zM} {a : Int} : uJ7_fill_d0a16 R 6 [x0, x1, x2, some (.inl a), x4] st M ↔ uJ7_fill_d0a16 R 7 [x0, x1, x2, some (.inl a), x4] (.inl a :: st) M := zU_step dJ7_fill_d0a16_6 (Or.inl rfl)
theorem dJ7_fill_d0a16_7 : decode cJ7_fill_d0a16 7 = .ok (.iload 4, 2) := by decide +kernel
theorem rJ7_fill_d0a16_7 {R : zP} {x0 x1 x2 x3 : Option zV} {st : List zV} {M : zM} {a : Int} : uJ7_fill_d0a16 R 7 [x0, x1, x2, x3, some (.inl a)] st M ↔ uJ7_fill_d0a16 R 9 [x0, x1, x2, x3, some (.inl a)] (.inl a :: st) M := zU_step dJ7_fill_d0a16_7 (Or.inl rfl)
theorem dJ7_fill_d0a16_9 : decode cJ7_fill_d0a16 9 = .ok (.if_icmp .ge 13, 3) := by decide +kernel
theorem rJ7_fill_d0a16_9 {R : zP} {x0 x1 x2 x3 x4 : Option zV} {st : List zV} {M : zM} {a b : Int} : uJ7_fill_d0a16 R 9 [x0, x1, x2, x3, x4] (.inl b :: .inl a :: st) M ↔ ((zIR a ∧ zIR b) ∧ (b ≤ a → uJ7_fill_d0a16 R 22 [x0, x1, x2, x3, x4] st M) ∧ (¬ b ≤ a → uJ7_fill_d0a16 R 12 [x0, x1, x2, x3, x4] st M)) := Iff.trans (zU_step dJ7_fill_d0a16_9 (Or.inl rfl)) ⟨fun h => ⟨⟨h.1.1, h.1.2.1⟩, h.2⟩, fun h => ⟨⟨h.1.1, h.1.2, by decide⟩, h.2⟩⟩
theorem dJ7_fill_d0a16_12 : decode cJ7_fill_d0a16 12 = .ok (.aload_n 0, 1) := by decide +kernel
theorem rJ7_fill_d0a16_12 {R : zP} {x1 x2 x3 x4 : Option zV} {st : List zV} {M : zM} {a : Nat} : uJ7_fill_d0a16 R 12 [some (.inr (.inr a)), x1, x2, x3, x4] st M ↔ uJ7_fill_d0a16 R 13 [some (.inr (.inr a)), x1, x2, x3, x4] (.inr (.inr a) :: st) M := zU_step dJ7_fill_d0a16_12 (Or.inl rfl)
theorem dJ7_fill_d0a16_13 : decode cJ7_fill_d0a16 13 = .ok (.iload_n 3, 1) := by decide +kernel
theorem rJ7_fill_d0a16_13 {R : zP} {x0 x1 x2 x4 : Option zV} {st : List zV} {M : zM} {a : Int} : uJ7_fill_d0a16 R 13 [x0, x1, x2, some (.inl a), x4] st M ↔ uJ7_fill_d0a16 R 14 [x0, x1, x2, some (.inl a), x4] (.inl a :: st) M := zU_step dJ7_fill_d0a16_13 (Or.inl rfl)
theorem dJ7_fill_d0a16_14 : decode cJ7_fill_d0a16 14 = .ok (.lload_n 1, 1) := by decide +kernel
theorem rJ7_fill_d0a16_14 {R : zP} {x0 x2 x3 x4 : Option zV} {st : List zV} {M : zM} {a : Int} : uJ7_fill_d0a16 R 14 [x0, some (.inr (.inl a)), x2, x3, x4] st M ↔ uJ7_fill_d0a16 R 15 [x0, some (.inr (.inl a)), x2, x3, x4] (.inr (.inl a) :: st) M := zU_step dJ7_fill_d0a16_14 (Or.inl rfl)
theorem dJ7_fill_d0a16_15 : decode cJ7_fill_d0a16 15 = .ok (.lastore, 1) := by decide +kernel
theorem rJ7_fill_d0a16_15 {R : zP} {x0 x1 x2 x3 x4 : Option zV} {st : List zV} {M : zM} {i v : Int} {r : Nat} : uJ7_fill_d0a16 R 15 [x0, x1, x2, x3, x4] (.inr (.inl v) :: .inl i :: .inr (.inr r) :: st) M ↔ zwrite 1 r i (uJ7_fill_d0a16 R 16 [x0, x1, x2, x3, x4] st (zup M r i v)) := zU_step dJ7_fill_d0a16_15 (Or.inl rfl)
theorem dJ7_fill_d0a16_16 : decode cJ7_fill_d0a16 16 = .ok (.iinc 3 1, 3) := by decide +kernel
theorem rJ7_fill_d0a16_16 {R : zP} {x0 x1 x2 x4 : Option zV} {st : List zV} {M : zM} {a : Int} : uJ7_fill_d0a16 R 16 [x0, x1, x2, some (.inl a), x4] st M ↔ uJ7_fill_d0a16 R 19 [x0, x1, zkeep x2, some (.inl (a + (1))), x4] st M := Iff.trans (zU_step dJ7_fill_d0a16_16 (Or.inl rfl)) ⟨fun h => h.2, fun h => ⟨show 3 < 5 by decide, h⟩⟩
theorem dJ7_fill_d0a16_19 : decode cJ7_fill_d0a16 19 = .ok (.goto (-13), 3) := by decide +kernel
theorem rJ7_fill_d0a16_19 {R : zP} {x0 x1 x2 x3 x4 : Option zV} {st : List zV} {M : zM} : uJ7_fill_d0a16 R 19 [x0, x1, x2, x3, x4] st M ↔ uJ7_fill_d0a16 R 6 [x0, x1, x2, x3, x4] st M := Iff.trans (zU_step dJ7_fill_d0a16_19 (Or.inl rfl)) ⟨fun h => h.2, fun h => ⟨by decide, h⟩⟩
theorem dJ7_fill_d0a16_22 : decode cJ7_fill_d0a16 22 = .ok (.return_, 1) := by decide +kernel
theorem rJ7_fill_d0a16_22 {R : zP} {x0 x1 x2 x3 x4 : Option zV} {M : zM} : uJ7_fill_d0a16 R 22 [x0, x1, x2, x3, x4] [] M ↔ R none M := Iff.trans (zU_step dJ7_fill_d0a16_22 (Or.inl rfl)) ⟨fun h => h.2.2, fun h => ⟨rfl, rfl, h⟩⟩
theorem eJ7_fill_d0a16 {R : zP} {M : zM} {p0 : Nat} {p1 : Int} : tJ7_fill_d0a16 [.inr (.inr p0), .inr (.inl p1)] M R ↔ uJ7_fill_d0a16 R 0 [some (.inr (.inr p0)), some (.inr (.inl p1)), none, none, none] [] M := ⟨fun h => h.2, fun h => ⟨show 3 ≤ 5 by decide, h⟩⟩
def uX7_chance (R : zP) : zK := zU fX7 vX7_chance cX7_chance R
theorem dX7_chance_0 : decode cX7_chance 0 = .ok (.lconst 1, 1) := by decide +kernel
theorem rX7_chance_0 {R : zP} {x0 x1 x2 x3 x4 x5 : Option zV} {st : List zV} {M : zM} : uX7_chance R 0 [x0, x1, x2, x3, x4, x5] st M ↔ uX7_chance R 1 [x0, x1, x2, x3, x4, x5] (.inr (.inl 1) :: st) M := zU_step dX7_chance_0 (Or.inl rfl)
theorem dX7_chance_1 : decode cX7_chance 1 = .ok (.lstore_n 3, 1) := by decide +kernel
theorem rX7_chance_1 {R : zP} {x0 x1 x2 x3 x4 x5 : Option zV} {st : List zV} {M : zM} {a : Int} : uX7_chance R 1 [x0, x1, x2, x3, x4, x5] (.inr (.inl a) :: st) M ↔ uX7_chance R 2 [x0, x1, zkeep x2, some (.inr (.inl a)), none, x5] st M := Iff.trans (zU_step dX7_chance_1 (Or.inl rfl)) ⟨fun h => h.2, fun h => ⟨show 3 + 1 < 6 by decide, h⟩⟩
theorem dX7_chance_2 : decode cX7_chance 2 = .ok (.iconst 0, 1) := by decide +kernel
theorem rX7_chance_2 {R : zP} {x0 x1 x2 x3 x4 x5 : Option zV} {st : List zV} {M : zM} : uX7_chance R 2 [x0, x1, x2, x3, x4, x5] st M ↔ uX7_chance R 3 [x0, x1, x2, x3, x4, x5] (.inl (0) :: st) M := zU_step dX7_chance_2 (Or.inl rfl)
theorem dX7_chance_3 : decode cX7_chance 3 = .ok (.istore 5, 2) := by decide +kernel
theorem rX7_chance_3 {R : zP} {x0 x1 x2 x3 x4 x5 : Option zV} {st : List zV} {M : zM} {a : Int} : uX7_chance R 3 [x0, x1, x2, x3, x4, x5] (.inl a :: st) M ↔ uX7_chance R 5 [x0, x1, x2, x3, zkeep x4, some (.inl a)] st M := Iff.trans (zU_step dX7_chance_3 (Or.inl rfl)) ⟨fun h => h.2, fun h => ⟨show 5 < 6 by decide, h⟩⟩
theorem dX7_chance_5 : decode cX7_chance 5 = .ok (.iload 5, 2) := by decide +kernel
theorem rX7_chance_5 {R : zP} {x0 x1 x2 x3 x4 : Option zV} {st : List zV} {M : zM} {a : Int} : uX7_chance R 5 [x0, x1, x2, x3, x4, some (.inl a)] st M ↔ uX7_chance R 7 [x0, x1, x2, x3, x4, some (.inl a)] (.inl a :: st) M := zU_step dX7_chance_5 (Or.inl rfl)
theorem dX7_chance_7 : decode cX7_chance 7 = .ok (.bipush 8, 2) := by decide +kernel
theorem rX7_chance_7 {R : zP} {x0 x1 x2 x3 x4 x5 : Option zV} {st : List zV} {M : zM} : uX7_chance R 7 [x0, x1, x2, x3, x4, x5] st M ↔ uX7_chance R 9 [x0, x1, x2, x3, x4, x5] (.inl (8) :: st) M := Iff.trans (zU_step dX7_chance_7 (Or.inl rfl)) ⟨fun h => h.2, fun h => ⟨by decide, h⟩⟩
theorem dX7_chance_9 : decode cX7_chance 9 = .ok (.if_icmp .ge 40, 3) := by decide +kernel
theorem rX7_chance_9 {R : zP} {x0 x1 x2 x3 x4 x5 : Option zV} {st : List zV} {M : zM} {a b : Int} : uX7_chance R 9 [x0, x1, x2, x3, x4, x5] (.inl b :: .inl a :: st) M ↔ ((zIR a ∧ zIR b) ∧ (b ≤ a → uX7_chance R 49 [x0, x1, x2, x3, x4, x5] st M) ∧ (¬ b ≤ a → uX7_chance R 12 [x0, x1, x2, x3, x4, x5] st M)) := Iff.trans (zU_step dX7_chance_9 (Or.inl rfl)) ⟨fun h => ⟨⟨h.1.1, h.1.2.1⟩, h.2⟩, fun h => ⟨⟨h.1.1, h.1.2, by decide⟩, h.2⟩⟩
theorem dX7_chance_12 : decode cX7_chance 12 = .ok (.iload_n 2, 1) := by decide +kernel
theorem rX7_chance_12 {R : zP} {x0 x1 x3 x4 x5 : Option zV} {st : List zV} {M : zM} {a : Int} : uX7_chance R 12 [x0, x1, some (.inl a), x3, x4, x5] st M ↔ uX7_chance R 13 [x0, x1, some (.inl a), x3, x4, x5] (.inl a :: st) M := zU_step dX7_chance_12 (Or.inl rfl)
theorem dX7_chance_13 : decode cX7_chance 13 = .ok (.iload 5, 2) := by decide +kernel
theorem rX7_chance_13 {R : zP} {x0 x1 x2 x3 x4 : Option zV} {st : List zV} {M : zM} {a : Int} : uX7_chance R 13 [x0, x1, x2, x3, x4, some (.inl a)] st M ↔ uX7_chance R 15 [x0, x1, x2, x3, x4, some (.inl a)] (.inl a :: st) M := zU_step dX7_chance_13 (Or.inl rfl)
theorem dX7_chance_15 : decode cX7_chance 15 = .ok (.ishr, 1) := by decide +kernel
theorem rX7_chance_15 {R : zP} {x0 x1 x2 x3 x4 x5 : Option zV} {st : List zV} {M : zM} {a b : Int} : uX7_chance R 15 [x0, x1, x2, x3, x4, x5] (.inl b :: .inl a :: st) M ↔ uX7_chance R 16 [x0, x1, x2, x3, x4, x5] (.inl (zshr a b) :: st) M := zU_step dX7_chance_15 (Or.inl rfl)
theorem dX7_chance_16 : decode cX7_chance 16 = .ok (.iconst 1, 1) := by decide +kernel
theorem rX7_chance_16 {R : zP} {x0 x1 x2 x3 x4 x5 : Option zV} {st : List zV} {M : zM} : uX7_chance R 16 [x0, x1, x2, x3, x4, x5] st M ↔ uX7_chance R 17 [x0, x1, x2, x3, x4, x5] (.inl (1) :: st) M := zU_step dX7_chance_16 (Or.inl rfl)
theorem dX7_chance_17 : decode cX7_chance 17 = .ok (.iand, 1) := by decide +kernel
theorem rX7_chance_17 {R : zP} {x0 x1 x2 x3 x4 x5 : Option zV} {st : List zV} {M : zM} {a b : Int} : uX7_chance R 17 [x0, x1, x2, x3, x4, x5] (.inl b :: .inl a :: st) M ↔ uX7_chance R 18 [x0, x1, x2, x3, x4, x5] (.inl (zand a b) :: st) M := zU_step dX7_chance_17 (Or.inl rfl)
theorem dX7_chance_18 : decode cX7_chance 18 = .ok (.ifCond .eq 25, 3) := by decide +kernel
theorem rX7_chance_18 {R : zP} {x0 x1 x2 x3 x4 x5 : Option zV} {st : List zV} {M : zM} {a : Int} : uX7_chance R 18 [x0, x1, x2, x3, x4, x5] (.inl a :: st) M ↔ (zIR a ∧ (a = 0 → uX7_chance R 43 [x0, x1, x2, x3, x4, x5] st M) ∧ (¬ a = 0 → uX7_chance R 21 [x0, x1, x2, x3, x4, x5] st M)) := Iff.trans (zU_step dX7_chance_18 (Or.inl rfl)) ⟨fun h => ⟨h.1.1, h.2⟩, fun h => ⟨⟨h.1, by decide⟩, h.2⟩⟩
theorem dX7_chance_21 : decode cX7_chance 21 = .ok (.lload_n 3, 1) := by decide +kernel
theorem rX7_chance_21 {R : zP} {x0 x1 x2 x4 x5 : Option zV} {st : List zV} {M : zM} {a : Int} : uX7_chance R 21 [x0, x1, x2, some (.inr (.inl a)), x4, x5] st M ↔ uX7_chance R 22 [x0, x1, x2, some (.inr (.inl a)), x4, x5] (.inr (.inl a) :: st) M := zU_step dX7_chance_21 (Or.inl rfl)
theorem dX7_chance_22 : decode cX7_chance 22 = .ok (.iload_n 1, 1) := by decide +kernel
theorem rX7_chance_22 {R : zP} {x0 x2 x3 x4 x5 : Option zV} {st : List zV} {M : zM} {a : Int} : uX7_chance R 22 [x0, some (.inl a), x2, x3, x4, x5] st M ↔ uX7_chance R 23 [x0, some (.inl a), x2, x3, x4, x5] (.inl a :: st) M := zU_step dX7_chance_22 (Or.inl rfl)
theorem dX7_chance_23 : decode cX7_chance 23 = .ok (.iload 5, 2) := by decide +kernel
theorem rX7_chance_23 {R : zP} {x0 x1 x2 x3 x4 : Option zV} {st : List zV} {M : zM} {a : Int} : uX7_chance R 23 [x0, x1, x2, x3, x4, some (.inl a)] st M ↔ uX7_chance R 25 [x0, x1, x2, x3, x4, some (.inl a)] (.inl a :: st) M := zU_step dX7_chance_23 (Or.inl rfl)
theorem dX7_chance_25 : decode cX7_chance 25 = .ok (.ishr, 1) := by decide +kernel
theorem rX7_chance_25 {R : zP} {x0 x1 x2 x3 x4 x5 : Option zV} {st : List zV} {M : zM} {a b : Int} : uX7_chance R 25 [x0, x1, x2, x3, x4, x5] (.inl b :: .inl a :: st) M ↔ uX7_chance R 26 [x0, x1, x2, x3, x4, x5] (.inl (zshr a b) :: st) M := zU_step dX7_chance_25 (Or.inl rfl)
theorem dX7_chance_26 : decode cX7_chance 26 = .ok (.iconst 1, 1) := by decide +kernel
theorem rX7_chance_26 {R : zP} {x0 x1 x2 x3 x4 x5 : Option zV} {st : List zV} {M : zM} : uX7_chance R 26 [x0, x1, x2, x3, x4, x5] st M ↔ uX7_chance R 27 [x0, x1, x2, x3, x4, x5] (.inl (1) :: st) M := zU_step dX7_chance_26 (Or.inl rfl)
theorem dX7_chance_27 : decode cX7_chance 27 = .ok (.iand, 1) := by decide +kernel
theorem rX7_chance_27 {R : zP} {x0 x1 x2 x3 x4 x5 : Option zV} {st : List zV} {M : zM} {a b : Int} : uX7_chance R 27 [x0, x1, x2, x3, x4, x5] (.inl b :: .inl a :: st) M ↔ uX7_chance R 28 [x0, x1, x2, x3, x4, x5] (.inl (zand a b) :: st) M := zU_step dX7_chance_27 (Or.inl rfl)
theorem dX7_chance_28 : decode cX7_chance 28 = .ok (.ifCond .eq 8, 3) := by decide +kernel
theorem rX7_chance_28 {R : zP} {x0 x1 x2 x3 x4 x5 : Option zV} {st : List zV} {M : zM} {a : Int} : uX7_chance R 28 [x0, x1, x2, x3, x4, x5] (.inl a :: st) M ↔ (zIR a ∧ (a = 0 → uX7_chance R 36 [x0, x1, x2, x3, x4, x5] st M) ∧ (¬ a = 0 → uX7_chance R 31 [x0, x1, x2, x3, x4, x5] st M)) := Iff.trans (zU_step dX7_chance_28 (Or.inl rfl)) ⟨fun h => ⟨h.1.1, h.2⟩, fun h => ⟨⟨h.1, by decide⟩, h.2⟩⟩
theorem dX7_chance_31 : decode cX7_chance 31 = .ok (.iload_n 0, 1) := by decide +kernel
theorem rX7_chance_31 {R : zP} {x1 x2 x3 x4 x5 : Option zV} {st : List zV} {M : zM} {a : Int} : uX7_chance R 31 [some (.inl a), x1, x2, x3, x4, x5] st M ↔ uX7_chance R 32 [some (.inl a), x1, x2, x3, x4, x5] (.inl a :: st) M := zU_step dX7_chance_31 (Or.inl rfl)
theorem dX7_chance_32 : decode cX7_chance 32 = .ok (.i2l, 1) := by decide +kernel
theorem rX7_chance_32 {R : zP} {x0 x1 x2 x3 x4 x5 : Option zV} {st : List zV} {M : zM} {a : Int} : uX7_chance R 32 [x0, x1, x2, x3, x4, x5] (.inl a :: st) M ↔ (zIR a ∧ uX7_chance R 33 [x0, x1, x2, x3, x4, x5] (.inr (.inl a) :: st) M) := zU_step dX7_chance_32 (Or.inl rfl)
theorem dX7_chance_33 : decode cX7_chance 33 = .ok (.goto 8, 3) := by decide +kernel
theorem rX7_chance_33 {R : zP} {x0 x1 x2 x3 x4 x5 : Option zV} {st : List zV} {M : zM} : uX7_chance R 33 [x0, x1, x2, x3, x4, x5] st M ↔ uX7_chance R 41 [x0, x1, x2, x3, x4, x5] st M := Iff.trans (zU_step dX7_chance_33 (Or.inl rfl)) ⟨fun h => h.2, fun h => ⟨by decide, h⟩⟩
theorem dX7_chance_36 : decode cX7_chance 36 = .ok (.bipush 16, 2) := by decide +kernel
theorem rX7_chance_36 {R : zP} {x0 x1 x2 x3 x4 x5 : Option zV} {st : List zV} {M : zM} : uX7_chance R 36 [x0, x1, x2, x3, x4, x5] st M ↔ uX7_chance R 38 [x0, x1, x2, x3, x4, x5] (.inl (16) :: st) M := Iff.trans (zU_step dX7_chance_36 (Or.inl rfl)) ⟨fun h => h.2, fun h => ⟨by decide, h⟩⟩
theorem dX7_chance_38 : decode cX7_chance 38 = .ok (.iload_n 0, 1) := by decide +kernel
theorem rX7_chance_38 {R : zP} {x1 x2 x3 x4 x5 : Option zV} {st : List zV} {M : zM} {a : Int} : uX7_chance R 38 [some (.inl a), x1, x2, x3, x4, x5] st M ↔ uX7_chance R 39 [some (.inl a), x1, x2, x3, x4, x5] (.inl a :: st) M := zU_step dX7_chance_38 (Or.inl rfl)
theorem dX7_chance_39 : decode cX7_chance 39 = .ok (.isub, 1) := by decide +kernel
theorem rX7_chance_39 {R : zP} {x0 x1 x2 x3 x4 x5 : Option zV} {st : List zV} {M : zM} {a b : Int} : uX7_chance R 39 [x0, x1, x2, x3, x4, x5] (.inl b :: .inl a :: st) M ↔ uX7_chance R 40 [x0, x1, x2, x3, x4, x5] (.inl (a - b) :: st) M := zU_step dX7_chance_39 (Or.inl rfl)
theorem dX7_chance_40 : decode cX7_chance 40 = .ok (.i2l, 1) := by decide +kernel
theorem rX7_chance_40 {R : zP} {x0 x1 x2 x3 x4 x5 : Option zV} {st : List zV} {M : zM} {a : Int} : uX7_chance R 40 [x0, x1, x2, x3, x4, x5] (.inl a :: st) M ↔ (zIR a ∧ uX7_chance R 41 [x0, x1, x2, x3, x4, x5] (.inr (.inl a) :: st) M) := zU_step dX7_chance_40 (Or.inl rfl)
theorem dX7_chance_41 : decode cX7_chance 41 = .ok (.lmul, 1) := by decide +kernel
theorem rX7_chance_41 {R : zP} {x0 x1 x2 x3 x4 x5 : Option zV} {st : List zV} {M : zM} {a b : Int} : uX7_chance R 41 [x0, x1, x2, x3, x4, x5] (.inr (.inl b) :: .inr (.inl a) :: st) M ↔ uX7_chance R 42 [x0, x1, x2, x3, x4, x5] (.inr (.inl (a * b)) :: st) M := zU_step dX7_chance_41 (Or.inl rfl)
theorem dX7_chance_42 : decode cX7_chance 42 = .ok (.lstore_n 3, 1) := by decide +kernel
theorem rX7_chance_42 {R : zP} {x0 x1 x2 x3 x4 x5 : Option zV} {st : List zV} {M : zM} {a : Int} : uX7_chance R 42 [x0, x1, x2, x3, x4, x5] (.inr (.inl a) :: st) M ↔ uX7_chance R 43 [x0, x1, zkeep x2, some (.inr (.inl a)), none, x5] st M := Iff.trans (zU_step dX7_chance_42 (Or.inl rfl)) ⟨fun h => h.2, fun h => ⟨show 3 + 1 < 6 by decide, h⟩⟩
theorem dX7_chance_43 : decode cX7_chance 43 = .ok (.iinc 5 1, 3) := by decide +kernel
theorem rX7_chance_43 {R : zP} {x0 x1 x2 x3 x4 : Option zV} {st : List zV} {M : zM} {a : Int} : uX7_chance R 43 [x0, x1, x2, x3, x4, some (.inl a)] st M ↔ uX7_chance R 46 [x0, x1, x2, x3, zkeep x4, some (.inl (a + (1)))] st M := Iff.trans (zU_step dX7_chance_43 (Or.inl rfl)) ⟨fun h => h.2, fun h => ⟨show 5 < 6 by decide, h⟩⟩
theorem dX7_chance_46 : decode cX7_chance 46 = .ok (.goto (-41), 3) := by decide +kernel
theorem rX7_chance_46 {R : zP} {x0 x1 x2 x3 x4 x5 : Option zV} {st : List zV} {M : zM} : uX7_chance R 46 [x0, x1, x2, x3, x4, x5] st M ↔ uX7_chance R 5 [x0, x1, x2, x3, x4, x5] st M := Iff.trans (zU_step dX7_chance_46 (Or.inl rfl)) ⟨fun h => h.2, fun h => ⟨by decide, h⟩⟩
theorem dX7_chance_49 : decode cX7_chance 49 = .ok (.lload_n 3, 1) := by decide +kernel
theorem rX7_chance_49 {R : zP} {x0 x1 x2 x4 x5 : Option zV} {st : List zV} {M : zM} {a : Int} : uX7_chance R 49 [x0, x1, x2, some (.inr (.inl a)), x4, x5] st M ↔ uX7_chance R 50 [x0, x1, x2, some (.inr (.inl a)), x4, x5] (.inr (.inl a) :: st) M := zU_step dX7_chance_49 (Or.inl rfl)
theorem dX7_chance_50 : decode cX7_chance 50 = .ok (.lreturn, 1) := by decide +kernel
theorem rX7_chance_50 {R : zP} {x0 x1 x2 x3 x4 x5 : Option zV} {M : zM} {a : Int} : uX7_chance R 50 [x0, x1, x2, x3, x4, x5] [.inr (.inl a)] M ↔ R (some (.inr (.inl a))) M := Iff.trans (zU_step dX7_chance_50 (Or.inl rfl)) ⟨fun h => h.2.2, fun h => ⟨rfl, rfl, h⟩⟩
theorem eX7_chance {R : zP} {M : zM} {p0 : Int} {p1 : Int} {p2 : Int} : tX7_chance [.inl p0, .inl p1, .inl p2] M R ↔ uX7_chance R 0 [some (.inl p0), some (.inl p1), some (.inl p2), none, none, none] [] M := ⟨fun h => h.2, fun h => ⟨show 3 ≤ 6 by decide, h⟩⟩
def uX7_ayeWays (R : zP) : zK := zU fX7 vX7_ayeWays cX7_ayeWays R
theorem dX7_ayeWays_0 : decode cX7_ayeWays 0 = .ok (.lconst 0, 1) := by decide +kernel
theorem rX7_ayeWays_0 {R : zP} {x0 x1 x2 x3 x4 x5 x6 x7 x8 : Option zV} {st : List zV} {M : zM} : uX7_ayeWays R 0 [x0, x1, x2, x3, x4, x5, x6, x7, x8] st M ↔ uX7_ayeWays R 1 [x0, x1, x2, x3, x4, x5, x6, x7, x8] (.inr (.inl 0) :: st) M := zU_step dX7_ayeWays_0 (Or.inl rfl)
theorem dX7_ayeWays_1 : decode cX7_ayeWays 1 = .ok (.lstore 6, 2) := by decide +kernel
theorem rX7_ayeWays_1 {R : zP} {x0 x1 x2 x3 x4 x5 x6 x7 x8 : Option zV} {st : List zV} {M : zM} {a : Int} : uX7_ayeWays R 1 [x0, x1, x2, x3, x4, x5, x6, x7, x8] (.inr (.inl a) :: st) M ↔ uX7_ayeWays R 3 [x0, x1, x2, x3, x4, zkeep x5, some (.inr (.inl a)), none, x8] st M := Iff.trans (zU_step dX7_ayeWays_1 (Or.inl rfl)) ⟨fun h => h.2, fun h => ⟨show 6 + 1 < 9 by decide, h⟩⟩
theorem dX7_ayeWays_3 : decode cX7_ayeWays 3 = .ok (.iconst 0, 1) := by decide +kernel
theorem rX7_ayeWays_3 {R : zP} {x0 x1 x2 x3 x4 x5 x6 x7 x8 : Option zV} {st : List zV} {M : zM} : uX7_ayeWays R 3 [x0, x1, x2, x3, x4, x5, x6, x7, x8] st M ↔ uX7_ayeWays R 4 [x0, x1, x2, x3, x4, x5, x6, x7, x8] (.inl (0) :: st) M := zU_step dX7_ayeWays_3 (Or.inl rfl)
theorem dX7_ayeWays_4 : decode cX7_ayeWays 4 = .ok (.istore 8, 2) := by decide +kernel
theorem rX7_ayeWays_4 {R : zP} {x0 x1 x2 x3 x4 x5 x6 x7 x8 : Option zV} {st : List zV} {M : zM} {a : Int} : uX7_ayeWays R 4 [x0, x1, x2, x3, x4, x5, x6, x7, x8] (.inl a :: st) M ↔ uX7_ayeWays R 6 [x0, x1, x2, x3, x4, x5, x6, zkeep x7, some (.inl a)] st M := Iff.trans (zU_step dX7_ayeWays_4 (Or.inl rfl)) ⟨fun h => h.2, fun h => ⟨show 8 < 9 by decide, h⟩⟩
theorem dX7_ayeWays_6 : decode cX7_ayeWays 6 = .ok (.iload 8, 2) := by decide +kernel
theorem rX7_ayeWays_6 {R : zP} {x0 x1 x2 x3 x4 x5 x6 x7 : Option zV} {st : List zV} {M : zM} {a : Int} : uX7_ayeWays R 6 [x0, x1, x2, x3, x4, x5, x6, x7, some (.inl a)] st M ↔ uX7_ayeWays R 8 [x0, x1, x2, x3, x4, x5, x6, x7, some (.inl a)] (.inl a :: st) M := zU_step dX7_ayeWays_6 (Or.inl rfl)
theorem dX7_ayeWays_8 : decode cX7_ayeWays 8 = .ok (.iload 5, 2) := by decide +kernel
theorem rX7_ayeWays_8 {R : zP} {x0 x1 x2 x3 x4 x6 x7 x8 : Option zV} {st : List zV} {M : zM} {a : Int} : uX7_ayeWays R 8 [x0, x1, x2, x3, x4, some (.inl a), x6, x7, x8] st M ↔ uX7_ayeWays R 10 [x0, x1, x2, x3, x4, some (.inl a), x6, x7, x8] (.inl a :: st) M := zU_step dX7_ayeWays_8 (Or.inl rfl)
theorem dX7_ayeWays_10 : decode cX7_ayeWays 10 = .ok (.if_icmp .gt 61, 3) := by decide +kernel
theorem rX7_ayeWays_10 {R : zP} {x0 x1 x2 x3 x4 x5 x6 x7 x8 : Option zV} {st : List zV} {M : zM} {a b : Int} : uX7_ayeWays R 10 [x0, x1, x2, x3, x4, x5, x6, x7, x8] (.inl b :: .inl a :: st) M ↔ ((zIR a ∧ zIR b) ∧ (b < a → uX7_ayeWays R 71 [x0, x1, x2, x3, x4, x5, x6, x7, x8] st M) ∧ (¬ b < a → uX7_ayeWays R 13 [x0, x1, x2, x3, x4, x5, x6, x7, x8] st M)) := Iff.trans (zU_step dX7_ayeWays_10 (Or.inl rfl)) ⟨fun h => ⟨⟨h.1.1, h.1.2.1⟩, h.2⟩, fun h => ⟨⟨h.1.1, h.1.2, by decide⟩, h.2⟩⟩
theorem dX7_ayeWays_13 : decode cX7_ayeWays 13 = .ok (.iload 8, 2) := by decide +kernel
theorem rX7_ayeWays_13 {R : zP} {x0 x1 x2 x3 x4 x5 x6 x7 : Option zV} {st : List zV} {M : zM} {a : Int} : uX7_ayeWays R 13 [x0, x1, x2, x3, x4, x5, x6, x7, some (.inl a)] st M ↔ uX7_ayeWays R 15 [x0, x1, x2, x3, x4, x5, x6, x7, some (.inl a)] (.inl a :: st) M := zU_step dX7_ayeWays_13 (Or.inl rfl)
theorem dX7_ayeWays_15 : decode cX7_ayeWays 15 = .ok (.iload 5, 2) := by decide +kernel
theorem rX7_ayeWays_15 {R : zP} {x0 x1 x2 x3 x4 x6 x7 x8 : Option zV} {st : List zV} {M : zM} {a : Int} : uX7_ayeWays R 15 [x0, x1, x2, x3, x4, some (.inl a), x6, x7, x8] st M ↔ uX7_ayeWays R 17 [x0, x1, x2, x3, x4, some (.inl a), x6, x7, x8] (.inl a :: st) M := zU_step dX7_ayeWays_15 (Or.inl rfl)
theorem dX7_ayeWays_17 : decode cX7_ayeWays 17 = .ok (.iconst (-1), 1) := by decide +kernel
theorem rX7_ayeWays_17 {R : zP} {x0 x1 x2 x3 x4 x5 x6 x7 x8 : Option zV} {st : List zV} {M : zM} : uX7_ayeWays R 17 [x0, x1, x2, x3, x4, x5, x6, x7, x8] st M ↔ uX7_ayeWays R 18 [x0, x1, x2, x3, x4, x5, x6, x7, x8] (.inl (-1) :: st) M := zU_step dX7_ayeWays_17 (Or.inl rfl)
theorem dX7_ayeWays_18 : decode cX7_ayeWays 18 = .ok (.ixor, 1) := by decide +kernel
theorem rX7_ayeWays_18 {R : zP} {x0 x1 x2 x3 x4 x5 x6 x7 x8 : Option zV} {st : List zV} {M : zM} {a b : Int} : uX7_ayeWays R 18 [x0, x1, x2, x3, x4, x5, x6, x7, x8] (.inl b :: .inl a :: st) M ↔ uX7_ayeWays R 19 [x0, x1, x2, x3, x4, x5, x6, x7, x8] (.inl (zxor a b) :: st) M := zU_step dX7_ayeWays_18 (Or.inl rfl)
theorem dX7_ayeWays_19 : decode cX7_ayeWays 19 = .ok (.iand, 1) := by decide +kernel
theorem rX7_ayeWays_19 {R : zP} {x0 x1 x2 x3 x4 x5 x6 x7 x8 : Option zV} {st : List zV} {M : zM} {a b : Int} : uX7_ayeWays R 19 [x0, x1, x2, x3, x4, x5, x6, x7, x8] (.inl b :: .inl a :: st) M ↔ uX7_ayeWays R 20 [x0, x1, x2, x3, x4, x5, x6, x7, x8] (.inl (zand a b) :: st) M := zU_step dX7_ayeWays_19 (Or.inl rfl)
theorem dX7_ayeWays_20 : decode cX7_ayeWays 20 = .ok (.ifCond .eq 6, 3) := by decide +kernel
theorem rX7_ayeWays_20 {R : zP} {x0 x1 x2 x3 x4 x5 x6 x7 x8 : Option zV} {st : List zV} {M : zM} {a : Int} : uX7_ayeWays R 20 [x0, x1, x2, x3, x4, x5, x6, x7, x8] (.inl a :: st) M ↔ (zIR a ∧ (a = 0 → uX7_ayeWays R 26 [x0, x1, x2, x3, x4, x5, x6, x7, x8] st M) ∧ (¬ a = 0 → uX7_ayeWays R 23 [x0, x1, x2, x3, x4, x5, x6, x7, x8] st M)) := Iff.trans (zU_step dX7_ayeWays_20 (Or.inl rfl)) ⟨fun h => ⟨h.1.1, h.2⟩, fun h => ⟨⟨h.1, by decide⟩, h.2⟩⟩
theorem dX7_ayeWays_23 : decode cX7_ayeWays 23 = .ok (.goto 42, 3) := by decide +kernel
theorem rX7_ayeWays_23 {R : zP} {x0 x1 x2 x3 x4 x5 x6 x7 x8 : Option zV} {st : List zV} {M : zM} : uX7_ayeWays R 23 [x0, x1, x2, x3, x4, x5, x6, x7, x8] st M ↔ uX7_ayeWays R 65 [x0, x1, x2, x3, x4, x5, x6, x7, x8] st M := Iff.trans (zU_step dX7_ayeWays_23 (Or.inl rfl)) ⟨fun h => h.2, fun h => ⟨by decide, h⟩⟩
theorem dX7_ayeWays_26 : decode cX7_ayeWays 26 = .ok (.aload_n 0, 1) := by decide +kernel
theorem rX7_ayeWays_26 {R : zP} {x1 x2 x3 x4 x5 x6 x7 x8 : Option zV} {st : List zV} {M : zM} {a : Nat} : uX7_ayeWays R 26 [some (.inr (.inr a)), x1, x2, x3, x4, x5, x6, x7, x8] st M ↔ uX7_ayeWays R 27 [some (.inr (.inr a)), x1, x2, x3, x4, x5, x6, x7, x8] (.inr (.inr a) :: st) M := zU_step dX7_ayeWays_26 (Or.inl rfl)
theorem dX7_ayeWays_27 : decode cX7_ayeWays 27 = .ok (.aload_n 0, 1) := by decide +kernel
theorem rX7_ayeWays_27 {R : zP} {x1 x2 x3 x4 x5 x6 x7 x8 : Option zV} {st : List zV} {M : zM} {a : Nat} : uX7_ayeWays R 27 [some (.inr (.inr a)), x1, x2, x3, x4, x5, x6, x7, x8] st M ↔ uX7_ayeWays R 28 [some (.inr (.inr a)), x1, x2, x3, x4, x5, x6, x7, x8] (.inr (.inr a) :: st) M := zU_step dX7_ayeWays_27 (Or.inl rfl)
theorem dX7_ayeWays_28 : decode cX7_ayeWays 28 = .ok (.getfield 28, 3) := by decide +kernel
theorem rX7_ayeWays_28 {R : zP} {x0 x1 x2 x3 x4 x5 x6 x7 x8 : Option zV} {st : List zV} {M : zM} {r : Nat} : uX7_ayeWays R 28 [x0, x1, x2, x3, x4, x5, x6, x7, x8] (.inr (.inr r) :: st) M ↔ zgetx fX7 28 r M (fun v => uX7_ayeWays R 31 [x0, x1, x2, x3, x4, x5, x6, x7, x8] (v :: st) M) := zU_step dX7_ayeWays_28 (Or.inl rfl)
theorem dX7_ayeWays_31 : decode cX7_ayeWays 31 = .ok (.iload_n 1, 1) := by decide +kernel
theorem rX7_ayeWays_31 {R : zP} {x0 x2 x3 x4 x5 x6 x7 x8 : Option zV} {st : List zV} {M : zM} {a : Int} : uX7_ayeWays R 31 [x0, some (.inl a), x2, x3, x4, x5, x6, x7, x8] st M ↔ uX7_ayeWays R 32 [x0, some (.inl a), x2, x3, x4, x5, x6, x7, x8] (.inl a :: st) M := zU_step dX7_ayeWays_31 (Or.inl rfl)
theorem dX7_ayeWays_32 : decode cX7_ayeWays 32 = .ok (.iload_n 3, 1) := by decide +kernel
theorem rX7_ayeWays_32 {R : zP} {x0 x1 x2 x4 x5 x6 x7 x8 : Option zV} {st : List zV} {M : zM} {a : Int} : uX7_ayeWays R 32 [x0, x1, x2, some (.inl a), x4, x5, x6, x7, x8] st M ↔ uX7_ayeWays R 33 [x0, x1, x2, some (.inl a), x4, x5, x6, x7, x8] (.inl a :: st) M := zU_step dX7_ayeWays_32 (Or.inl rfl)
theorem dX7_ayeWays_33 : decode cX7_ayeWays 33 = .ok (.iload 8, 2) := by decide +kernel
theorem rX7_ayeWays_33 {R : zP} {x0 x1 x2 x3 x4 x5 x6 x7 : Option zV} {st : List zV} {M : zM} {a : Int} : uX7_ayeWays R 33 [x0, x1, x2, x3, x4, x5, x6, x7, some (.inl a)] st M ↔ uX7_ayeWays R 35 [x0, x1, x2, x3, x4, x5, x6, x7, some (.inl a)] (.inl a :: st) M := zU_step dX7_ayeWays_33 (Or.inl rfl)
theorem dX7_ayeWays_35 : decode cX7_ayeWays 35 = .ok (.invokevirtual 142, 3) := by decide +kernel
theorem rX7_ayeWays_35 {R : zP} {x0 x1 x2 x3 x4 x5 x6 x7 x8 : Option zV} {st : List zV} {M : zM} {a0 a1 a2 a3 a4 : zV} : uX7_ayeWays R 35 [x0, x1, x2, x3, x4, x5, x6, x7, x8] (a4 :: a3 :: a2 :: a1 :: a0 :: st) M ↔ (st.length ≤ 4 ∧ zcn (zv 7 tX7_raise) [a0, a1, a2, a3, a4] M (fun M => uX7_ayeWays R 38 [x0, x1, x2, x3, x4, x5, x6, x7, x8] st M)) := Iff.trans (zU_step dX7_ayeWays_35 (Or.inl rfl)) ⟨fun h => ⟨h.2.1, zcn_of h.2.2⟩, fun h => ⟨rfl, h.1, zcn_to h.2⟩⟩
theorem dX7_ayeWays_38 : decode cX7_ayeWays 38 = .ok (.aload_n 0, 1) := by decide +kernel
theorem rX7_ayeWays_38 {R : zP} {x1 x2 x3 x4 x5 x6 x7 x8 : Option zV} {st : List zV} {M : zM} {a : Nat} : uX7_ayeWays R 38 [some (.inr (.inr a)), x1, x2, x3, x4, x5, x6, x7, x8] st M ↔ uX7_ayeWays R 39 [some (.inr (.inr a)), x1, x2, x3, x4, x5, x6, x7, x8] (.inr (.inr a) :: st) M := zU_step dX7_ayeWays_38 (Or.inl rfl)
theorem dX7_ayeWays_39 : decode cX7_ayeWays 39 = .ok (.getfield 55, 3) := by decide +kernel
theorem rX7_ayeWays_39 {R : zP} {x0 x1 x2 x3 x4 x5 x6 x7 x8 : Option zV} {st : List zV} {M : zM} {r : Nat} : uX7_ayeWays R 39 [x0, x1, x2, x3, x4, x5, x6, x7, x8] (.inr (.inr r) :: st) M ↔ zgetx fX7 55 r M (fun v => uX7_ayeWays R 42 [x0, x1, x2, x3, x4, x5, x6, x7, x8] (v :: st) M) := zU_step dX7_ayeWays_39 (Or.inl rfl)
theorem dX7_ayeWays_42 : decode cX7_ayeWays 42 = .ok (.getfield 146, 3) := by decide +kernel
theorem rX7_ayeWays_42 {R : zP} {x0 x1 x2 x3 x4 x5 x6 x7 x8 : Option zV} {st : List zV} {M : zM} {r : Nat} : uX7_ayeWays R 42 [x0, x1, x2, x3, x4, x5, x6, x7, x8] (.inr (.inr r) :: st) M ↔ zgetx fX7 146 r M (fun v => uX7_ayeWays R 45 [x0, x1, x2, x3, x4, x5, x6, x7, x8] (v :: st) M) := zU_step dX7_ayeWays_42 (Or.inl rfl)
theorem dX7_ayeWays_45 : decode cX7_ayeWays 45 = .ok (.iload 4, 2) := by decide +kernel
theorem rX7_ayeWays_45 {R : zP} {x0 x1 x2 x3 x5 x6 x7 x8 : Option zV} {st : List zV} {M : zM} {a : Int} : uX7_ayeWays R 45 [x0, x1, x2, x3, some (.inl a), x5, x6, x7, x8] st M ↔ uX7_ayeWays R 47 [x0, x1, x2, x3, some (.inl a), x5, x6, x7, x8] (.inl a :: st) M := zU_step dX7_ayeWays_45 (Or.inl rfl)
theorem dX7_ayeWays_47 : decode cX7_ayeWays 47 = .ok (.iaload, 1) := by decide +kernel
theorem rX7_ayeWays_47 {R : zP} {x0 x1 x2 x3 x4 x5 x6 x7 x8 : Option zV} {st : List zV} {M : zM} {i : Int} {r : Nat} : uX7_ayeWays R 47 [x0, x1, x2, x3, x4, x5, x6, x7, x8] (.inl i :: .inr (.inr r) :: st) M ↔ zread fX7 0 r M i (fun v => uX7_ayeWays R 48 [x0, x1, x2, x3, x4, x5, x6, x7, x8] (.inl v :: st) M) := zU_step dX7_ayeWays_47 (Or.inl rfl)
theorem dX7_ayeWays_48 : decode cX7_ayeWays 48 = .ok (.iconst 5, 1) := by decide +kernel
theorem rX7_ayeWays_48 {R : zP} {x0 x1 x2 x3 x4 x5 x6 x7 x8 : Option zV} {st : List zV} {M : zM} : uX7_ayeWays R 48 [x0, x1, x2, x3, x4, x5, x6, x7, x8] st M ↔ uX7_ayeWays R 49 [x0, x1, x2, x3, x4, x5, x6, x7, x8] (.inl (5) :: st) M := zU_step dX7_ayeWays_48 (Or.inl rfl)
theorem dX7_ayeWays_49 : decode cX7_ayeWays 49 = .ok (.if_icmp .lt 16, 3) := by decide +kernel
theorem rX7_ayeWays_49 {R : zP} {x0 x1 x2 x3 x4 x5 x6 x7 x8 : Option zV} {st : List zV} {M : zM} {a b : Int} : uX7_ayeWays R 49 [x0, x1, x2, x3, x4, x5, x6, x7, x8] (.inl b :: .inl a :: st) M ↔ ((zIR a ∧ zIR b) ∧ (a < b → uX7_ayeWays R 65 [x0, x1, x2, x3, x4, x5, x6, x7, x8] st M) ∧ (¬ a < b → uX7_ayeWays R 52 [x0, x1, x2, x3, x4, x5, x6, x7, x8] st M)) := Iff.trans (zU_step dX7_ayeWays_49 (Or.inl rfl)) ⟨fun h => ⟨⟨h.1.1, h.1.2.1⟩, h.2⟩, fun h => ⟨⟨h.1.1, h.1.2, by decide⟩, h.2⟩⟩
theorem dX7_ayeWays_52 : decode cX7_ayeWays 52 = .ok (.lload 6, 2) := by decide +kernel
theorem rX7_ayeWays_52 {R : zP} {x0 x1 x2 x3 x4 x5 x7 x8 : Option zV} {st : List zV} {M : zM} {a : Int} : uX7_ayeWays R 52 [x0, x1, x2, x3, x4, x5, some (.inr (.inl a)), x7, x8] st M ↔ uX7_ayeWays R 54 [x0, x1, x2, x3, x4, x5, some (.inr (.inl a)), x7, x8] (.inr (.inl a) :: st) M := zU_step dX7_ayeWays_52 (Or.inl rfl)
theorem dX7_ayeWays_54 : decode cX7_ayeWays 54 = .ok (.iload_n 2, 1) := by decide +kernel
theorem rX7_ayeWays_54 {R : zP} {x0 x1 x3 x4 x5 x6 x7 x8 : Option zV} {st : List zV} {M : zM} {a : Int} : uX7_ayeWays R 54 [x0, x1, some (.inl a), x3, x4, x5, x6, x7, x8] st M ↔ uX7_ayeWays R 55 [x0, x1, some (.inl a), x3, x4, x5, x6, x7, x8] (.inl a :: st) M := zU_step dX7_ayeWays_54 (Or.inl rfl)
theorem dX7_ayeWays_55 : decode cX7_ayeWays 55 = .ok (.iload 8, 2) := by decide +kernel
theorem rX7_ayeWays_55 {R : zP} {x0 x1 x2 x3 x4 x5 x6 x7 : Option zV} {st : List zV} {M : zM} {a : Int} : uX7_ayeWays R 55 [x0, x1, x2, x3, x4, x5, x6, x7, some (.inl a)] st M ↔ uX7_ayeWays R 57 [x0, x1, x2, x3, x4, x5, x6, x7, some (.inl a)] (.inl a :: st) M := zU_step dX7_ayeWays_55 (Or.inl rfl)
theorem dX7_ayeWays_57 : decode cX7_ayeWays 57 = .ok (.iload 5, 2) := by decide +kernel
theorem rX7_ayeWays_57 {R : zP} {x0 x1 x2 x3 x4 x6 x7 x8 : Option zV} {st : List zV} {M : zM} {a : Int} : uX7_ayeWays R 57 [x0, x1, x2, x3, x4, some (.inl a), x6, x7, x8] st M ↔ uX7_ayeWays R 59 [x0, x1, x2, x3, x4, some (.inl a), x6, x7, x8] (.inl a :: st) M := zU_step dX7_ayeWays_57 (Or.inl rfl)
theorem dX7_ayeWays_59 : decode cX7_ayeWays 59 = .ok (.invokestatic 396, 3) := by decide +kernel
theorem rX7_ayeWays_59 {R : zP} {x0 x1 x2 x3 x4 x5 x6 x7 x8 : Option zV} {st : List zV} {M : zM} {a0 a1 a2 : zV} : uX7_ayeWays R 59 [x0, x1, x2, x3, x4, x5, x6, x7, x8] (a2 :: a1 :: a0 :: st) M ↔ (st.length ≤ 4 ∧ zcv tX7_chance [a0, a1, a2] M (fun v M => uX7_ayeWays R 62 [x0, x1, x2, x3, x4, x5, x6, x7, x8] (v :: st) M)) := Iff.trans (zU_step dX7_ayeWays_59 (Or.inl rfl)) ⟨fun h => ⟨h.2.1, zcv_of h.2.2⟩, fun h => ⟨rfl, h.1, zcv_to h.2⟩⟩
theorem dX7_ayeWays_62 : decode cX7_ayeWays 62 = .ok (.ladd, 1) := by decide +kernel
theorem rX7_ayeWays_62 {R : zP} {x0 x1 x2 x3 x4 x5 x6 x7 x8 : Option zV} {st : List zV} {M : zM} {a b : Int} : uX7_ayeWays R 62 [x0, x1, x2, x3, x4, x5, x6, x7, x8] (.inr (.inl b) :: .inr (.inl a) :: st) M ↔ uX7_ayeWays R 63 [x0, x1, x2, x3, x4, x5, x6, x7, x8] (.inr (.inl (a + b)) :: st) M := zU_step dX7_ayeWays_62 (Or.inl rfl)
theorem dX7_ayeWays_63 : decode cX7_ayeWays 63 = .ok (.lstore 6, 2) := by decide +kernel
theorem rX7_ayeWays_63 {R : zP} {x0 x1 x2 x3 x4 x5 x6 x7 x8 : Option zV} {st : List zV} {M : zM} {a : Int} : uX7_ayeWays R 63 [x0, x1, x2, x3, x4, x5, x6, x7, x8] (.inr (.inl a) :: st) M ↔ uX7_ayeWays R 65 [x0, x1, x2, x3, x4, zkeep x5, some (.inr (.inl a)), none, x8] st M := Iff.trans (zU_step dX7_ayeWays_63 (Or.inl rfl)) ⟨fun h => h.2, fun h => ⟨show 6 + 1 < 9 by decide, h⟩⟩
theorem dX7_ayeWays_65 : decode cX7_ayeWays 65 = .ok (.iinc 8 1, 3) := by decide +kernel
theorem rX7_ayeWays_65 {R : zP} {x0 x1 x2 x3 x4 x5 x6 x7 : Option zV} {st : List zV} {M : zM} {a : Int} : uX7_ayeWays R 65 [x0, x1, x2, x3, x4, x5, x6, x7, some (.inl a)] st M ↔ uX7_ayeWays R 68 [x0, x1, x2, x3, x4, x5, x6, zkeep x7, some (.inl (a + (1)))] st M := Iff.trans (zU_step dX7_ayeWays_65 (Or.inl rfl)) ⟨fun h => h.2, fun h => ⟨show 8 < 9 by decide, h⟩⟩
theorem dX7_ayeWays_68 : decode cX7_ayeWays 68 = .ok (.goto (-62), 3) := by decide +kernel
theorem rX7_ayeWays_68 {R : zP} {x0 x1 x2 x3 x4 x5 x6 x7 x8 : Option zV} {st : List zV} {M : zM} : uX7_ayeWays R 68 [x0, x1, x2, x3, x4, x5, x6, x7, x8] st M ↔ uX7_ayeWays R 6 [x0, x1, x2, x3, x4, x5, x6, x7, x8] st M := Iff.trans (zU_step dX7_ayeWays_68 (Or.inl rfl)) ⟨fun h => h.2, fun h => ⟨by decide, h⟩⟩
theorem dX7_ayeWays_71 : decode cX7_ayeWays 71 = .ok (.lload 6, 2) := by decide +kernel
theorem rX7_ayeWays_71 {R : zP} {x0 x1 x2 x3 x4 x5 x7 x8 : Option zV} {st : List zV} {M : zM} {a : Int} : uX7_ayeWays R 71 [x0, x1, x2, x3, x4, x5, some (.inr (.inl a)), x7, x8] st M ↔ uX7_ayeWays R 73 [x0, x1, x2, x3, x4, x5, some (.inr (.inl a)), x7, x8] (.inr (.inl a) :: st) M := zU_step dX7_ayeWays_71 (Or.inl rfl)
theorem dX7_ayeWays_73 : decode cX7_ayeWays 73 = .ok (.lreturn, 1) := by decide +kernel
theorem rX7_ayeWays_73 {R : zP} {x0 x1 x2 x3 x4 x5 x6 x7 x8 : Option zV} {M : zM} {a : Int} : uX7_ayeWays R 73 [x0, x1, x2, x3, x4, x5, x6, x7, x8] [.inr (.inl a)] M ↔ R (some (.inr (.inl a))) M := Iff.trans (zU_step dX7_ayeWays_73 (Or.inl rfl)) ⟨fun h => h.2.2, fun h => ⟨rfl, rfl, h⟩⟩
theorem eX7_ayeWays {R : zP} {M : zM} {a0 : Nat} {p0 : Int} {p1 : Int} {p2 : Int} {p3 : Int} {p4 : Int} : tX7_ayeWays [.inr (.inr a0), .inl p0, .inl p1, .inl p2, .inl p3, .inl p4] M R ↔ uX7_ayeWays R 0 [some (.inr (.inr a0)), some (.inl p0), some (.inl p1), some (.inl p2), some (.inl p3), some (.inl p4), none, none, none] [] M := ⟨fun h => h.2, fun h => ⟨show 6 ≤ 9 by decide, h⟩⟩
def uX7_power16 (R : zP) : zK := zU fX7 vX7_power16 cX7_power16 R
theorem dX7_power16_0 : decode cX7_power16 0 = .ok (.lconst 1, 1) := by decide +kernel
theorem rX7_power16_0 {R : zP} {x0 : Option zV} {st : List zV} {M : zM} : uX7_power16 R 0 [x0] st M ↔ uX7_power16 R 1 [x0] (.inr (.inl 1) :: st) M := zU_step dX7_power16_0 (Or.inl rfl)
theorem dX7_power16_1 : decode cX7_power16 1 = .ok (.iconst 4, 1) := by decide +kernel
theorem rX7_power16_1 {R : zP} {x0 : Option zV} {st : List zV} {M : zM} : uX7_power16 R 1 [x0] st M ↔ uX7_power16 R 2 [x0] (.inl (4) :: st) M := zU_step dX7_power16_1 (Or.inl rfl)
theorem dX7_power16_2 : decode cX7_power16 2 = .ok (.iload_n 0, 1) := by decide +kernel
theorem rX7_power16_2 {R : zP} {st : List zV} {M : zM} {a : Int} : uX7_power16 R 2 [some (.inl a)] st M ↔ uX7_power16 R 3 [some (.inl a)] (.inl a :: st) M := zU_step dX7_power16_2 (Or.inl rfl)
theorem dX7_power16_3 : decode cX7_power16 3 = .ok (.imul, 1) := by decide +kernel
theorem rX7_power16_3 {R : zP} {x0 : Option zV} {st : List zV} {M : zM} {a b : Int} : uX7_power16 R 3 [x0] (.inl b :: .inl a :: st) M ↔ uX7_power16 R 4 [x0] (.inl (a * b) :: st) M := zU_step dX7_power16_3 (Or.inl rfl)
theorem dX7_power16_4 : decode cX7_power16 4 = .ok (.lshl, 1) := by decide +kernel
theorem rX7_power16_4 {R : zP} {x0 : Option zV} {st : List zV} {M : zM} {a b : Int} : uX7_power16 R 4 [x0] (.inl b :: .inr (.inl a) :: st) M ↔ uX7_power16 R 5 [x0] (.inr (.inl (zlshl a b)) :: st) M := zU_step dX7_power16_4 (Or.inl rfl)
theorem dX7_power16_5 : decode cX7_power16 5 = .ok (.lreturn, 1) := by decide +kernel
theorem rX7_power16_5 {R : zP} {x0 : Option zV} {M : zM} {a : Int} : uX7_power16 R 5 [x0] [.inr (.inl a)] M ↔ R (some (.inr (.inl a))) M := Iff.trans (zU_step dX7_power16_5 (Or.inl rfl)) ⟨fun h => h.2.2, fun h => ⟨rfl, rfl, h⟩⟩
theorem eX7_power16 {R : zP} {M : zM} {p0 : Int} : tX7_power16 [.inl p0] M R ↔ uX7_power16 R 0 [some (.inl p0)] [] M := ⟨fun h => h.2, fun h => ⟨show 1 ≤ 1 by decide, h⟩⟩
def uX7_joinWays (R : zP) : zK := zU fX7 vX7_joinWays cX7_joinWays R
theorem dX7_joinWays_0 : decode cX7_joinWays 0 = .ok (.iload_n 1, 1) := by decide +kernel
theorem rX7_joinWays_0 {R : zP} {x0 x2 x3 x4 x5 x6 : Option zV} {st : List zV} {M : zM} {a : Int} : uX7_joinWays R 0 [x0, some (.inl a), x2, x3, x4, x5, x6] st M ↔ uX7_joinWays R 1 [x0, some (.inl a), x2, x3, x4, x5, x6] (.inl a :: st) M := zU_step dX7_joinWays_0 (Or.inl rfl)
theorem dX7_joinWays_1 : decode cX7_joinWays 1 = .ok (.iconst 1, 1) := by decide +kernel
theorem rX7_joinWays_1 {R : zP} {x0 x1 x2 x3 x4 x5 x6 : Option zV} {st : List zV} {M : zM} : uX7_joinWays R 1 [x0, x1, x2, x3, x4, x5, x6] st M ↔ uX7_joinWays R 2 [x0, x1, x2, x3, x4, x5, x6] (.inl (1) :: st) M := zU_step dX7_joinWays_1 (Or.inl rfl)
theorem dX7_joinWays_2 : decode cX7_joinWays 2 = .ok (.iadd, 1) := by decide +kernel
theorem rX7_joinWays_2 {R : zP} {x0 x1 x2 x3 x4 x5 x6 : Option zV} {st : List zV} {M : zM} {a b : Int} : uX7_joinWays R 2 [x0, x1, x2, x3, x4, x5, x6] (.inl b :: .inl a :: st) M ↔ uX7_joinWays R 3 [x0, x1, x2, x3, x4, x5, x6] (.inl (a + b) :: st) M := zU_step dX7_joinWays_2 (Or.inl rfl)
theorem dX7_joinWays_3 : decode cX7_joinWays 3 = .ok (.istore 6, 2) := by decide +kernel
theorem rX7_joinWays_3 {R : zP} {x0 x1 x2 x3 x4 x5 x6 : Option zV} {st : List zV} {M : zM} {a : Int} : uX7_joinWays R 3 [x0, x1, x2, x3, x4, x5, x6] (.inl a :: st) M ↔ uX7_joinWays R 5 [x0, x1, x2, x3, x4, zkeep x5, some (.inl a)] st M := Iff.trans (zU_step dX7_joinWays_3 (Or.inl rfl)) ⟨fun h => h.2, fun h => ⟨show 6 < 7 by decide, h⟩⟩
theorem dX7_joinWays_5 : decode cX7_joinWays 5 = .ok (.iload 6, 2) := by decide +kernel
theorem rX7_joinWays_5 {R : zP} {x0 x1 x2 x3 x4 x5 : Option zV} {st : List zV} {M : zM} {a : Int} : uX7_joinWays R 5 [x0, x1, x2, x3, x4, x5, some (.inl a)] st M ↔ uX7_joinWays R 7 [x0, x1, x2, x3, x4, x5, some (.inl a)] (.inl a :: st) M := zU_step dX7_joinWays_5 (Or.inl rfl)
theorem dX7_joinWays_7 : decode cX7_joinWays 7 = .ok (.ifCond .le 38, 3) := by decide +kernel
theorem rX7_joinWays_7 {R : zP} {x0 x1 x2 x3 x4 x5 x6 : Option zV} {st : List zV} {M : zM} {a : Int} : uX7_joinWays R 7 [x0, x1, x2, x3, x4, x5, x6] (.inl a :: st) M ↔ (zIR a ∧ (a ≤ 0 → uX7_joinWays R 45 [x0, x1, x2, x3, x4, x5, x6] st M) ∧ (¬ a ≤ 0 → uX7_joinWays R 10 [x0, x1, x2, x3, x4, x5, x6] st M)) := Iff.trans (zU_step dX7_joinWays_7 (Or.inl rfl)) ⟨fun h => ⟨h.1.1, h.2⟩, fun h => ⟨⟨h.1, by decide⟩, h.2⟩⟩
theorem dX7_joinWays_10 : decode cX7_joinWays 10 = .ok (.aload_n 0, 1) := by decide +kernel
theorem rX7_joinWays_10 {R : zP} {x1 x2 x3 x4 x5 x6 : Option zV} {st : List zV} {M : zM} {a : Nat} : uX7_joinWays R 10 [some (.inr (.inr a)), x1, x2, x3, x4, x5, x6] st M ↔ uX7_joinWays R 11 [some (.inr (.inr a)), x1, x2, x3, x4, x5, x6] (.inr (.inr a) :: st) M := zU_step dX7_joinWays_10 (Or.inl rfl)
theorem dX7_joinWays_11 : decode cX7_joinWays 11 = .ok (.getfield 89, 3) := by decide +kernel
theorem rX7_joinWays_11 {R : zP} {x0 x1 x2 x3 x4 x5 x6 : Option zV} {st : List zV} {M : zM} {r : Nat} : uX7_joinWays R 11 [x0, x1, x2, x3, x4, x5, x6] (.inr (.inr r) :: st) M ↔ zgetx fX7 89 r M (fun v => uX7_joinWays R 14 [x0, x1, x2, x3, x4, x5, x6] (v :: st) M) := zU_step dX7_joinWays_11 (Or.inl rfl)
theorem dX7_joinWays_14 : decode cX7_joinWays 14 = .ok (.iload 6, 2) := by decide +kernel
theorem rX7_joinWays_14 {R : zP} {x0 x1 x2 x3 x4 x5 : Option zV} {st : List zV} {M : zM} {a : Int} : uX7_joinWays R 14 [x0, x1, x2, x3, x4, x5, some (.inl a)] st M ↔ uX7_joinWays R 16 [x0, x1, x2, x3, x4, x5, some (.inl a)] (.inl a :: st) M := zU_step dX7_joinWays_14 (Or.inl rfl)
theorem dX7_joinWays_16 : decode cX7_joinWays 16 = .ok (.aload_n 0, 1) := by decide +kernel
theorem rX7_joinWays_16 {R : zP} {x1 x2 x3 x4 x5 x6 : Option zV} {st : List zV} {M : zM} {a : Nat} : uX7_joinWays R 16 [some (.inr (.inr a)), x1, x2, x3, x4, x5, x6] st M ↔ uX7_joinWays R 17 [some (.inr (.inr a)), x1, x2, x3, x4, x5, x6] (.inr (.inr a) :: st) M := zU_step dX7_joinWays_16 (Or.inl rfl)
theorem dX7_joinWays_17 : decode cX7_joinWays 17 = .ok (.getfield 89, 3) := by decide +kernel
theorem rX7_joinWays_17 {R : zP} {x0 x1 x2 x3 x4 x5 x6 : Option zV} {st : List zV} {M : zM} {r : Nat} : uX7_joinWays R 17 [x0, x1, x2, x3, x4, x5, x6] (.inr (.inr r) :: st) M ↔ zgetx fX7 89 r M (fun v => uX7_joinWays R 20 [x0, x1, x2, x3, x4, x5, x6] (v :: st) M) := zU_step dX7_joinWays_17 (Or.inl rfl)
theorem dX7_joinWays_20 : decode cX7_joinWays 20 = .ok (.iload 6, 2) := by decide +kernel
theorem rX7_joinWays_20 {R : zP} {x0 x1 x2 x3 x4 x5 : Option zV} {st : List zV} {M : zM} {a : Int} : uX7_joinWays R 20 [x0, x1, x2, x3, x4, x5, some (.inl a)] st M ↔ uX7_joinWays R 22 [x0, x1, x2, x3, x4, x5, some (.inl a)] (.inl a :: st) M := zU_step dX7_joinWays_20 (Or.inl rfl)
theorem dX7_joinWays_22 : decode cX7_joinWays 22 = .ok (.laload, 1) := by decide +kernel
theorem rX7_joinWays_22 {R : zP} {x0 x1 x2 x3 x4 x5 x6 : Option zV} {st : List zV} {M : zM} {i : Int} {r : Nat} : uX7_joinWays R 22 [x0, x1, x2, x3, x4, x5, x6] (.inl i :: .inr (.inr r) :: st) M ↔ zread fX7 1 r M i (fun v => uX7_joinWays R 23 [x0, x1, x2, x3, x4, x5, x6] (.inr (.inl v) :: st) M) := zU_step dX7_joinWays_22 (Or.inl rfl)
theorem dX7_joinWays_23 : decode cX7_joinWays 23 = .ok (.lload 4, 2) := by decide +kernel
theorem rX7_joinWays_23 {R : zP} {x0 x1 x2 x3 x5 x6 : Option zV} {st : List zV} {M : zM} {a : Int} : uX7_joinWays R 23 [x0, x1, x2, x3, some (.inr (.inl a)), x5, x6] st M ↔ uX7_joinWays R 25 [x0, x1, x2, x3, some (.inr (.inl a)), x5, x6] (.inr (.inl a) :: st) M := zU_step dX7_joinWays_23 (Or.inl rfl)
theorem dX7_joinWays_25 : decode cX7_joinWays 25 = .ok (.lmul, 1) := by decide +kernel
theorem rX7_joinWays_25 {R : zP} {x0 x1 x2 x3 x4 x5 x6 : Option zV} {st : List zV} {M : zM} {a b : Int} : uX7_joinWays R 25 [x0, x1, x2, x3, x4, x5, x6] (.inr (.inl b) :: .inr (.inl a) :: st) M ↔ uX7_joinWays R 26 [x0, x1, x2, x3, x4, x5, x6] (.inr (.inl (a * b)) :: st) M := zU_step dX7_joinWays_25 (Or.inl rfl)
theorem dX7_joinWays_26 : decode cX7_joinWays 26 = .ok (.aload_n 0, 1) := by decide +kernel
theorem rX7_joinWays_26 {R : zP} {x1 x2 x3 x4 x5 x6 : Option zV} {st : List zV} {M : zM} {a : Nat} : uX7_joinWays R 26 [some (.inr (.inr a)), x1, x2, x3, x4, x5, x6] st M ↔ uX7_joinWays R 27 [some (.inr (.inr a)), x1, x2, x3, x4, x5, x6] (.inr (.inr a) :: st) M := zU_step dX7_joinWays_26 (Or.inl rfl)
theorem dX7_joinWays_27 : decode cX7_joinWays 27 = .ok (.getfield 89, 3) := by decide +kernel
theorem rX7_joinWays_27 {R : zP} {x0 x1 x2 x3 x4 x5 x6 : Option zV} {st : List zV} {M : zM} {r : Nat} : uX7_joinWays R 27 [x0, x1, x2, x3, x4, x5, x6] (.inr (.inr r) :: st) M ↔ zgetx fX7 89 r M (fun v => uX7_joinWays R 30 [x0, x1, x2, x3, x4, x5, x6] (v :: st) M) := zU_step dX7_joinWays_27 (Or.inl rfl)
theorem dX7_joinWays_30 : decode cX7_joinWays 30 = .ok (.iload 6, 2) := by decide +kernel
theorem rX7_joinWays_30 {R : zP} {x0 x1 x2 x3 x4 x5 : Option zV} {st : List zV} {M : zM} {a : Int} : uX7_joinWays R 30 [x0, x1, x2, x3, x4, x5, some (.inl a)] st M ↔ uX7_joinWays R 32 [x0, x1, x2, x3, x4, x5, some (.inl a)] (.inl a :: st) M := zU_step dX7_joinWays_30 (Or.inl rfl)
theorem dX7_joinWays_32 : decode cX7_joinWays 32 = .ok (.iconst 1, 1) := by decide +kernel
theorem rX7_joinWays_32 {R : zP} {x0 x1 x2 x3 x4 x5 x6 : Option zV} {st : List zV} {M : zM} : uX7_joinWays R 32 [x0, x1, x2, x3, x4, x5, x6] st M ↔ uX7_joinWays R 33 [x0, x1, x2, x3, x4, x5, x6] (.inl (1) :: st) M := zU_step dX7_joinWays_32 (Or.inl rfl)
theorem dX7_joinWays_33 : decode cX7_joinWays 33 = .ok (.isub, 1) := by decide +kernel
theorem rX7_joinWays_33 {R : zP} {x0 x1 x2 x3 x4 x5 x6 : Option zV} {st : List zV} {M : zM} {a b : Int} : uX7_joinWays R 33 [x0, x1, x2, x3, x4, x5, x6] (.inl b :: .inl a :: st) M ↔ uX7_joinWays R 34 [x0, x1, x2, x3, x4, x5, x6] (.inl (a - b) :: st) M := zU_step dX7_joinWays_33 (Or.inl rfl)
theorem dX7_joinWays_34 : decode cX7_joinWays 34 = .ok (.laload, 1) := by decide +kernel
theorem rX7_joinWays_34 {R : zP} {x0 x1 x2 x3 x4 x5 x6 : Option zV} {st : List zV} {M : zM} {i : Int} {r : Nat} : uX7_joinWays R 34 [x0, x1, x2, x3, x4, x5, x6] (.inl i :: .inr (.inr r) :: st) M ↔ zread fX7 1 r M i (fun v => uX7_joinWays R 35 [x0, x1, x2, x3, x4, x5, x6] (.inr (.inl v) :: st) M) := zU_step dX7_joinWays_34 (Or.inl rfl)
theorem dX7_joinWays_35 : decode cX7_joinWays 35 = .ok (.lload_n 2, 1) := by decide +kernel
theorem rX7_joinWays_35 {R : zP} {x0 x1 x3 x4 x5 x6 : Option zV} {st : List zV} {M : zM} {a : Int} : uX7_joinWays R 35 [x0, x1, some (.inr (.inl a)), x3, x4, x5, x6] st M ↔ uX7_joinWays R 36 [x0, x1, some (.inr (.inl a)), x3, x4, x5, x6] (.inr (.inl a) :: st) M := zU_step dX7_joinWays_35 (Or.inl rfl)
theorem dX7_joinWays_36 : decode cX7_joinWays 36 = .ok (.lmul, 1) := by decide +kernel
theorem rX7_joinWays_36 {R : zP} {x0 x1 x2 x3 x4 x5 x6 : Option zV} {st : List zV} {M : zM} {a b : Int} : uX7_joinWays R 36 [x0, x1, x2, x3, x4, x5, x6] (.inr (.inl b) :: .inr (.inl a) :: st) M ↔ uX7_joinWays R 37 [x0, x1, x2, x3, x4, x5, x6] (.inr (.inl (a * b)) :: st) M := zU_step dX7_joinWays_36 (Or.inl rfl)
theorem dX7_joinWays_37 : decode cX7_joinWays 37 = .ok (.ladd, 1) := by decide +kernel
theorem rX7_joinWays_37 {R : zP} {x0 x1 x2 x3 x4 x5 x6 : Option zV} {st : List zV} {M : zM} {a b : Int} : uX7_joinWays R 37 [x0, x1, x2, x3, x4, x5, x6] (.inr (.inl b) :: .inr (.inl a) :: st) M ↔ uX7_joinWays R 38 [x0, x1, x2, x3, x4, x5, x6] (.inr (.inl (a + b)) :: st) M := zU_step dX7_joinWays_37 (Or.inl rfl)
theorem dX7_joinWays_38 : decode cX7_joinWays 38 = .ok (.lastore, 1) := by decide +kernel
theorem rX7_joinWays_38 {R : zP} {x0 x1 x2 x3 x4 x5 x6 : Option zV} {st : List zV} {M : zM} {i v : Int} {r : Nat} : uX7_joinWays R 38 [x0, x1, x2, x3, x4, x5, x6] (.inr (.inl v) :: .inl i :: .inr (.inr r) :: st) M ↔ zwrite 1 r i (uX7_joinWays R 39 [x0, x1, x2, x3, x4, x5, x6] st (zup M r i v)) := zU_step dX7_joinWays_38 (Or.inl rfl)
theorem dX7_joinWays_39 : decode cX7_joinWays 39 = .ok (.iinc 6 (-1), 3) := by decide +kernel
theorem rX7_joinWays_39 {R : zP} {x0 x1 x2 x3 x4 x5 : Option zV} {st : List zV} {M : zM} {a : Int} : uX7_joinWays R 39 [x0, x1, x2, x3, x4, x5, some (.inl a)] st M ↔ uX7_joinWays R 42 [x0, x1, x2, x3, x4, zkeep x5, some (.inl (a + (-1)))] st M := Iff.trans (zU_step dX7_joinWays_39 (Or.inl rfl)) ⟨fun h => h.2, fun h => ⟨show 6 < 7 by decide, h⟩⟩
theorem dX7_joinWays_42 : decode cX7_joinWays 42 = .ok (.goto (-37), 3) := by decide +kernel
theorem rX7_joinWays_42 {R : zP} {x0 x1 x2 x3 x4 x5 x6 : Option zV} {st : List zV} {M : zM} : uX7_joinWays R 42 [x0, x1, x2, x3, x4, x5, x6] st M ↔ uX7_joinWays R 5 [x0, x1, x2, x3, x4, x5, x6] st M := Iff.trans (zU_step dX7_joinWays_42 (Or.inl rfl)) ⟨fun h => h.2, fun h => ⟨by decide, h⟩⟩
theorem dX7_joinWays_45 : decode cX7_joinWays 45 = .ok (.aload_n 0, 1) := by decide +kernel
theorem rX7_joinWays_45 {R : zP} {x1 x2 x3 x4 x5 x6 : Option zV} {st : List zV} {M : zM} {a : Nat} : uX7_joinWays R 45 [some (.inr (.inr a)), x1, x2, x3, x4, x5, x6] st M ↔ uX7_joinWays R 46 [some (.inr (.inr a)), x1, x2, x3, x4, x5, x6] (.inr (.inr a) :: st) M := zU_step dX7_joinWays_45 (Or.inl rfl)
theorem dX7_joinWays_46 : decode cX7_joinWays 46 = .ok (.getfield 89, 3) := by decide +kernel
theorem rX7_joinWays_46 {R : zP} {x0 x1 x2 x3 x4 x5 x6 : Option zV} {st : List zV} {M : zM} {r : Nat} : uX7_joinWays R 46 [x0, x1, x2, x3, x4, x5, x6] (.inr (.inr r) :: st) M ↔ zgetx fX7 89 r M (fun v => uX7_joinWays R 49 [x0, x1, x2, x3, x4, x5, x6] (v :: st) M) := zU_step dX7_joinWays_46 (Or.inl rfl)
theorem dX7_joinWays_49 : decode cX7_joinWays 49 = .ok (.iconst 0, 1) := by decide +kernel
theorem rX7_joinWays_49 {R : zP} {x0 x1 x2 x3 x4 x5 x6 : Option zV} {st : List zV} {M : zM} : uX7_joinWays R 49 [x0, x1, x2, x3, x4, x5, x6] st M ↔ uX7_joinWays R 50 [x0, x1, x2, x3, x4, x5, x6] (.inl (0) :: st) M := zU_step dX7_joinWays_49 (Or.inl rfl)
theorem dX7_joinWays_50 : decode cX7_joinWays 50 = .ok (.dup2, 1) := by decide +kernel
theorem rX7_joinWays_50 {R : zP} {x0 x1 x2 x3 x4 x5 x6 : Option zV} {st : List zV} {M : zM} {a : Int} {b : Nat} : uX7_joinWays R 50 [x0, x1, x2, x3, x4, x5, x6] (.inl a :: .inr (.inr b) :: st) M ↔ uX7_joinWays R 51 [x0, x1, x2, x3, x4, x5, x6] (.inl a :: .inr (.inr b) :: .inl a :: .inr (.inr b) :: st) M := zU_step dX7_joinWays_50 (Or.inl rfl)
theorem dX7_joinWays_51 : decode cX7_joinWays 51 = .ok (.laload, 1) := by decide +kernel
theorem rX7_joinWays_51 {R : zP} {x0 x1 x2 x3 x4 x5 x6 : Option zV} {st : List zV} {M : zM} {i : Int} {r : Nat} : uX7_joinWays R 51 [x0, x1, x2, x3, x4, x5, x6] (.inl i :: .inr (.inr r) :: st) M ↔ zread fX7 1 r M i (fun v => uX7_joinWays R 52 [x0, x1, x2, x3, x4, x5, x6] (.inr (.inl v) :: st) M) := zU_step dX7_joinWays_51 (Or.inl rfl)
theorem dX7_joinWays_52 : decode cX7_joinWays 52 = .ok (.lload 4, 2) := by decide +kernel
theorem rX7_joinWays_52 {R : zP} {x0 x1 x2 x3 x5 x6 : Option zV} {st : List zV} {M : zM} {a : Int} : uX7_joinWays R 52 [x0, x1, x2, x3, some (.inr (.inl a)), x5, x6] st M ↔ uX7_joinWays R 54 [x0, x1, x2, x3, some (.inr (.inl a)), x5, x6] (.inr (.inl a) :: st) M := zU_step dX7_joinWays_52 (Or.inl rfl)
theorem dX7_joinWays_54 : decode cX7_joinWays 54 = .ok (.lmul, 1) := by decide +kernel
theorem rX7_joinWays_54 {R : zP} {x0 x1 x2 x3 x4 x5 x6 : Option zV} {st : List zV} {M : zM} {a b : Int} : uX7_joinWays R 54 [x0, x1, x2, x3, x4, x5, x6] (.inr (.inl b) :: .inr (.inl a) :: st) M ↔ uX7_joinWays R 55 [x0, x1, x2, x3, x4, x5, x6] (.inr (.inl (a * b)) :: st) M := zU_step dX7_joinWays_54 (Or.inl rfl)
theorem dX7_joinWays_55 : decode cX7_joinWays 55 = .ok (.lastore, 1) := by decide +kernel
theorem rX7_joinWays_55 {R : zP} {x0 x1 x2 x3 x4 x5 x6 : Option zV} {st : List zV} {M : zM} {i v : Int} {r : Nat} : uX7_joinWays R 55 [x0, x1, x2, x3, x4, x5, x6] (.inr (.inl v) :: .inl i :: .inr (.inr r) :: st) M ↔ zwrite 1 r i (uX7_joinWays R 56 [x0, x1, x2, x3, x4, x5, x6] st (zup M r i v)) := zU_step dX7_joinWays_55 (Or.inl rfl)
theorem dX7_joinWays_56 : decode cX7_joinWays 56 = .ok (.return_, 1) := by decide +kernel
theorem rX7_joinWays_56 {R : zP} {x0 x1 x2 x3 x4 x5 x6 : Option zV} {M : zM} : uX7_joinWays R 56 [x0, x1, x2, x3, x4, x5, x6] [] M ↔ R none M := Iff.trans (zU_step dX7_joinWays_56 (Or.inl rfl)) ⟨fun h => h.2.2, fun h => ⟨rfl, rfl, h⟩⟩
theorem eX7_joinWays {R : zP} {M : zM} {a0 : Nat} {p0 : Int} {p1 : Int} {p2 : Int} : tX7_joinWays [.inr (.inr a0), .inl p0, .inr (.inl p1), .inr (.inl p2)] M R ↔ uX7_joinWays R 0 [some (.inr (.inr a0)), some (.inl p0), some (.inr (.inl p1)), none, some (.inr (.inl p2)), none, none] [] M := ⟨fun h => h.2, fun h => ⟨show 6 ≤ 7 by decide, h⟩⟩
def uX7_cream (R : zP) : zK := zU fX7 vX7_cream cX7_cream R
theorem dX7_cream_0 : decode cX7_cream 0 = .ok (.iload_n 1, 1) := by decide +kernel
theorem rX7_cream_0 {R : zP} {x0 x2 x3 x4 x5 x6 x7 x8 x9 x10 x11 x12 : Option zV} {st : List zV} {M : zM} {a : Int} : uX7_cream R 0 [x0, some (.inl a), x2, x3, x4, x5, x6, x7, x8, x9, x10, x11, x12] st M ↔ uX7_cream R 1 [x0, some (.inl a), x2, x3, x4, x5, x6, x7, x8, x9, x10, x11, x12] (.inl a :: st) M := zU_step dX7_cream_0 (Or.inl rfl)
theorem dX7_cream_1 : decode cX7_cream 1 = .ok (.bipush 17, 2) := by decide +kernel
theorem rX7_cream_1 {R : zP} {x0 x1 x2 x3 x4 x5 x6 x7 x8 x9 x10 x11 x12 : Option zV} {st : List zV} {M : zM} : uX7_cream R 1 [x0, x1, x2, x3, x4, x5, x6, x7, x8, x9, x10, x11, x12] st M ↔ uX7_cream R 3 [x0, x1, x2, x3, x4, x5, x6, x7, x8, x9, x10, x11, x12] (.inl (17) :: st) M := Iff.trans (zU_step dX7_cream_1 (Or.inl rfl)) ⟨fun h => h.2, fun h => ⟨by decide, h⟩⟩
theorem dX7_cream_3 : decode cX7_cream 3 = .ok (.invokestatic 94, 3) := by decide +kernel
theorem rX7_cream_3 {R : zP} {x0 x1 x2 x3 x4 x5 x6 x7 x8 x9 x10 x11 x12 : Option zV} {st : List zV} {M : zM} {a0 a1 : zV} : uX7_cream R 3 [x0, x1, x2, x3, x4, x5, x6, x7, x8, x9, x10, x11, x12] (a1 :: a0 :: st) M ↔ (st.length ≤ 4 ∧ zcv tX7_outside [a0, a1] M (fun v M => uX7_cream R 6 [x0, x1, x2, x3, x4, x5, x6, x7, x8, x9, x10, x11, x12] (v :: st) M)) := Iff.trans (zU_step dX7_cream_3 (Or.inl rfl)) ⟨fun h => ⟨h.2.1, zcv_of h.2.2⟩, fun h => ⟨rfl, h.1, zcv_to h.2⟩⟩
theorem dX7_cream_6 : decode cX7_cream 6 = .ok (.ifCond .ne 29, 3) := by decide +kernel
theorem rX7_cream_6 {R : zP} {x0 x1 x2 x3 x4 x5 x6 x7 x8 x9 x10 x11 x12 : Option zV} {st : List zV} {M : zM} {a : Int} : uX7_cream R 6 [x0, x1, x2, x3, x4, x5, x6, x7, x8, x9, x10, x11, x12] (.inl a :: st) M ↔ (zIR a ∧ (a ≠ 0 → uX7_cream R 35 [x0, x1, x2, x3, x4, x5, x6, x7, x8, x9, x10, x11, x12] st M) ∧ (¬ a ≠ 0 → uX7_cream R 9 [x0, x1, x2, x3, x4, x5, x6, x7, x8, x9, x10, x11, x12] st M)) := Iff.trans (zU_step dX7_cream_6 (Or.inl rfl)) ⟨fun h => ⟨h.1.1, h.2⟩, fun h => ⟨⟨h.1, by decide⟩, h.2⟩⟩
theorem dX7_cream_9 : decode cX7_cream 9 = .ok (.iload_n 2, 1) := by decide +kernel
theorem rX7_cream_9 {R : zP} {x0 x1 x3 x4 x5 x6 x7 x8 x9 x10 x11 x12 : Option zV} {st : List zV} {M : zM} {a : Int} : uX7_cream R 9 [x0, x1, some (.inl a), x3, x4, x5, x6, x7, x8, x9, x10, x11, x12] st M ↔ uX7_cream R 10 [x0, x1, some (.inl a), x3, x4, x5, x6, x7, x8, x9, x10, x11, x12] (.inl a :: st) M := zU_step dX7_cream_9 (Or.inl rfl)
theorem dX7_cream_10 : decode cX7_cream 10 = .ok (.bipush 20, 2) := by decide +kernel
theorem rX7_cream_10 {R : zP} {x0 x1 x2 x3 x4 x5 x6 x7 x8 x9 x10 x11 x12 : Option zV} {st : List zV} {M : zM} : uX7_cream R 10 [x0, x1, x2, x3, x4, x5, x6, x7, x8, x9, x10, x11, x12] st M ↔ uX7_cream R 12 [x0, x1, x2, x3, x4, x5, x6, x7, x8, x9, x10, x11, x12] (.inl (20) :: st) M := Iff.trans (zU_step dX7_cream_10 (Or.inl rfl)) ⟨fun h => h.2, fun h => ⟨by decide, h⟩⟩
theorem dX7_cream_12 : decode cX7_cream 12 = .ok (.invokestatic 94, 3) := by decide +kernel
theorem rX7_cream_12 {R : zP} {x0 x1 x2 x3 x4 x5 x6 x7 x8 x9 x10 x11 x12 : Option zV} {st : List zV} {M : zM} {a0 a1 : zV} : uX7_cream R 12 [x0, x1, x2, x3, x4, x5, x6, x7, x8, x9, x10, x11, x12] (a1 :: a0 :: st) M ↔ (st.length ≤ 4 ∧ zcv tX7_outside [a0, a1] M (fun v M => uX7_cream R 15 [x0, x1, x2, x3, x4, x5, x6, x7, x8, x9, x10, x11, x12] (v :: st) M)) := Iff.trans (zU_step dX7_cream_12 (Or.inl rfl)) ⟨fun h => ⟨h.2.1, zcv_of h.2.2⟩, fun h => ⟨rfl, h.1, zcv_to h.2⟩⟩
theorem dX7_cream_15 : decode cX7_cream 15 = .ok (.ifCond .ne 20, 3) := by decide +kernel
theorem rX7_cream_15 {R : zP} {x0 x1 x2 x3 x4 x5 x6 x7 x8 x9 x10 x11 x12 : Option zV} {st : List zV} {M : zM} {a : Int} : uX7_cream R 15 [x0, x1, x2, x3, x4, x5, x6, x7, x8, x9, x10, x11, x12] (.inl a :: st) M ↔ (zIR a ∧ (a ≠ 0 → uX7_cream R 35 [x0, x1, x2, x3, x4, x5, x6, x7, x8, x9, x10, x11, x12] st M) ∧ (¬ a ≠ 0 → uX7_cream R 18 [x0, x1, x2, x3, x4, x5, x6, x7, x8, x9, x10, x11, x12] st M)) := Iff.trans (zU_step dX7_cream_15 (Or.inl rfl)) ⟨fun h => ⟨h.1.1, h.2⟩, fun h => ⟨⟨h.1, by decide⟩, h.2⟩⟩
theorem dX7_cream_18 : decode cX7_cream 18 = .ok (.iload_n 3, 1) := by decide +kernel
theorem rX7_cream_18 {R : zP} {x0 x1 x2 x4 x5 x6 x7 x8 x9 x10 x11 x12 : Option zV} {st : List zV} {M : zM} {a : Int} : uX7_cream R 18 [x0, x1, x2, some (.inl a), x4, x5, x6, x7, x8, x9, x10, x11, x12] st M ↔ uX7_cream R 19 [x0, x1, x2, some (.inl a), x4, x5, x6, x7, x8, x9, x10, x11, x12] (.inl a :: st) M := zU_step dX7_cream_18 (Or.inl rfl)
theorem dX7_cream_19 : decode cX7_cream 19 = .ok (.iconst 4, 1) := by decide +kernel
theorem rX7_cream_19 {R : zP} {x0 x1 x2 x3 x4 x5 x6 x7 x8 x9 x10 x11 x12 : Option zV} {st : List zV} {M : zM} : uX7_cream R 19 [x0, x1, x2, x3, x4, x5, x6, x7, x8, x9, x10, x11, x12] st M ↔ uX7_cream R 20 [x0, x1, x2, x3, x4, x5, x6, x7, x8, x9, x10, x11, x12] (.inl (4) :: st) M := zU_step dX7_cream_19 (Or.inl rfl)
theorem dX7_cream_20 : decode cX7_cream 20 = .ok (.invokestatic 94, 3) := by decide +kernel
theorem rX7_cream_20 {R : zP} {x0 x1 x2 x3 x4 x5 x6 x7 x8 x9 x10 x11 x12 : Option zV} {st : List zV} {M : zM} {a0 a1 : zV} : uX7_cream R 20 [x0, x1, x2, x3, x4, x5, x6, x7, x8, x9, x10, x11, x12] (a1 :: a0 :: st) M ↔ (st.length ≤ 4 ∧ zcv tX7_outside [a0, a1] M (fun v M => uX7_cream R 23 [x0, x1, x2, x3, x4, x5, x6, x7, x8, x9, x10, x11, x12] (v :: st) M)) := Iff.trans (zU_step dX7_cream_20 (Or.inl rfl)) ⟨fun h => ⟨h.2.1, zcv_of h.2.2⟩, fun h => ⟨rfl, h.1, zcv_to h.2⟩⟩
theorem dX7_cream_23 : decode cX7_cream 23 = .ok (.ifCond .ne 12, 3) := by decide +kernel
theorem rX7_cream_23 {R : zP} {x0 x1 x2 x3 x4 x5 x6 x7 x8 x9 x10 x11 x12 : Option zV} {st : List zV} {M : zM} {a : Int} : uX7_cream R 23 [x0, x1, x2, x3, x4, x5, x6, x7, x8, x9, x10, x11, x12] (.inl a :: st) M ↔ (zIR a ∧ (a ≠ 0 → uX7_cream R 35 [x0, x1, x2, x3, x4, x5, x6, x7, x8, x9, x10, x11, x12] st M) ∧ (¬ a ≠ 0 → uX7_cream R 26 [x0, x1, x2, x3, x4, x5, x6, x7, x8, x9, x10, x11, x12] st M)) := Iff.trans (zU_step dX7_cream_23 (Or.inl rfl)) ⟨fun h => ⟨h.1.1, h.2⟩, fun h => ⟨⟨h.1, by decide⟩, h.2⟩⟩
theorem dX7_cream_26 : decode cX7_cream 26 = .ok (.iload 4, 2) := by decide +kernel
theorem rX7_cream_26 {R : zP} {x0 x1 x2 x3 x5 x6 x7 x8 x9 x10 x11 x12 : Option zV} {st : List zV} {M : zM} {a : Int} : uX7_cream R 26 [x0, x1, x2, x3, some (.inl a), x5, x6, x7, x8, x9, x10, x11, x12] st M ↔ uX7_cream R 28 [x0, x1, x2, x3, some (.inl a), x5, x6, x7, x8, x9, x10, x11, x12] (.inl a :: st) M := zU_step dX7_cream_26 (Or.inl rfl)
theorem dX7_cream_28 : decode cX7_cream 28 = .ok (.iconst 2, 1) := by decide +kernel
theorem rX7_cream_28 {R : zP} {x0 x1 x2 x3 x4 x5 x6 x7 x8 x9 x10 x11 x12 : Option zV} {st : List zV} {M : zM} : uX7_cream R 28 [x0, x1, x2, x3, x4, x5, x6, x7, x8, x9, x10, x11, x12] st M ↔ uX7_cream R 29 [x0, x1, x2, x3, x4, x5, x6, x7, x8, x9, x10, x11, x12] (.inl (2) :: st) M := zU_step dX7_cream_28 (Or.inl rfl)
theorem dX7_cream_29 : decode cX7_cream 29 = .ok (.invokestatic 94, 3) := by decide +kernel
theorem rX7_cream_29 {R : zP} {x0 x1 x2 x3 x4 x5 x6 x7 x8 x9 x10 x11 x12 : Option zV} {st : List zV} {M : zM} {a0 a1 : zV} : uX7_cream R 29 [x0, x1, x2, x3, x4, x5, x6, x7, x8, x9, x10, x11, x12] (a1 :: a0 :: st) M ↔ (st.length ≤ 4 ∧ zcv tX7_outside [a0, a1] M (fun v M => uX7_cream R 32 [x0, x1, x2, x3, x4, x5, x6, x7, x8, x9, x10, x11, x12] (v :: st) M)) := Iff.trans (zU_step dX7_cream_29 (Or.inl rfl)) ⟨fun h => ⟨h.2.1, zcv_of h.2.2⟩, fun h => ⟨rfl, h.1, zcv_to h.2⟩⟩
theorem dX7_cream_32 : decode cX7_cream 32 = .ok (.ifCond .eq 7, 3) := by decide +kernel
theorem rX7_cream_32 {R : zP} {x0 x1 x2 x3 x4 x5 x6 x7 x8 x9 x10 x11 x12 : Option zV} {st : List zV} {M : zM} {a : Int} : uX7_cream R 32 [x0, x1, x2, x3, x4, x5, x6, x7, x8, x9, x10, x11, x12] (.inl a :: st) M ↔ (zIR a ∧ (a = 0 → uX7_cream R 39 [x0, x1, x2, x3, x4, x5, x6, x7, x8, x9, x10, x11, x12] st M) ∧ (¬ a = 0 → uX7_cream R 35 [x0, x1, x2, x3, x4, x5, x6, x7, x8, x9, x10, x11, x12] st M)) := Iff.trans (zU_step dX7_cream_32 (Or.inl rfl)) ⟨fun h => ⟨h.1.1, h.2⟩, fun h => ⟨⟨h.1, by decide⟩, h.2⟩⟩
theorem dX7_cream_35 : decode cX7_cream 35 = .ok (.ldc2_w 197, 3) := by decide +kernel
theorem rX7_cream_35 {R : zP} {x0 x1 x2 x3 x4 x5 x6 x7 x8 x9 x10 x11 x12 : Option zV} {st : List zV} {M : zM} : uX7_cream R 35 [x0, x1, x2, x3, x4, x5, x6, x7, x8, x9, x10, x11, x12] st M ↔ uX7_cream R 38 [x0, x1, x2, x3, x4, x5, x6, x7, x8, x9, x10, x11, x12] (.inr (.inl (-9223372036854775806)) :: st) M := zU_step dX7_cream_35 (Or.inl rfl)
theorem dX7_cream_38 : decode cX7_cream 38 = .ok (.lreturn, 1) := by decide +kernel
theorem rX7_cream_38 {R : zP} {x0 x1 x2 x3 x4 x5 x6 x7 x8 x9 x10 x11 x12 : Option zV} {M : zM} {a : Int} : uX7_cream R 38 [x0, x1, x2, x3, x4, x5, x6, x7, x8, x9, x10, x11, x12] [.inr (.inl a)] M ↔ R (some (.inr (.inl a))) M := Iff.trans (zU_step dX7_cream_38 (Or.inl rfl)) ⟨fun h => h.2.2, fun h => ⟨rfl, rfl, h⟩⟩
theorem dX7_cream_39 : decode cX7_cream 39 = .ok (.aload_n 0, 1) := by decide +kernel
theorem rX7_cream_39 {R : zP} {x1 x2 x3 x4 x5 x6 x7 x8 x9 x10 x11 x12 : Option zV} {st : List zV} {M : zM} {a : Nat} : uX7_cream R 39 [some (.inr (.inr a)), x1, x2, x3, x4, x5, x6, x7, x8, x9, x10, x11, x12] st M ↔ uX7_cream R 40 [some (.inr (.inr a)), x1, x2, x3, x4, x5, x6, x7, x8, x9, x10, x11, x12] (.inr (.inr a) :: st) M := zU_step dX7_cream_39 (Or.inl rfl)
theorem dX7_cream_40 : decode cX7_cream 40 = .ok (.getfield 89, 3) := by decide +kernel
theorem rX7_cream_40 {R : zP} {x0 x1 x2 x3 x4 x5 x6 x7 x8 x9 x10 x11 x12 : Option zV} {st : List zV} {M : zM} {r : Nat} : uX7_cream R 40 [x0, x1, x2, x3, x4, x5, x6, x7, x8, x9, x10, x11, x12] (.inr (.inr r) :: st) M ↔ zgetx fX7 89 r M (fun v => uX7_cream R 43 [x0, x1, x2, x3, x4, x5, x6, x7, x8, x9, x10, x11, x12] (v :: st) M) := zU_step dX7_cream_40 (Or.inl rfl)
theorem dX7_cream_43 : decode cX7_cream 43 = .ok (.lconst 0, 1) := by decide +kernel
theorem rX7_cream_43 {R : zP} {x0 x1 x2 x3 x4 x5 x6 x7 x8 x9 x10 x11 x12 : Option zV} {st : List zV} {M : zM} : uX7_cream R 43 [x0, x1, x2, x3, x4, x5, x6, x7, x8, x9, x10, x11, x12] st M ↔ uX7_cream R 44 [x0, x1, x2, x3, x4, x5, x6, x7, x8, x9, x10, x11, x12] (.inr (.inl 0) :: st) M := zU_step dX7_cream_43 (Or.inl rfl)
theorem dX7_cream_44 : decode cX7_cream 44 = .ok (.invokestatic 259, 3) := by decide +kernel
theorem rX7_cream_44 {R : zP} {x0 x1 x2 x3 x4 x5 x6 x7 x8 x9 x10 x11 x12 : Option zV} {st : List zV} {M : zM} {a0 a1 : zV} : uX7_cream R 44 [x0, x1, x2, x3, x4, x5, x6, x7, x8, x9, x10, x11, x12] (a1 :: a0 :: st) M ↔ (st.length ≤ 4 ∧ zcn tJ7_fill_d0a16 [a0, a1] M (fun M => uX7_cream R 47 [x0, x1, x2, x3, x4, x5, x6, x7, x8, x9, x10, x11, x12] st M)) := Iff.trans (zU_step dX7_cream_44 (Or.inl rfl)) ⟨fun h => ⟨h.2.1, zcn_of h.2.2⟩, fun h => ⟨rfl, h.1, zcn_to h.2⟩⟩
theorem dX7_cream_47 : decode cX7_cream 47 = .ok (.aload_n 0, 1) := by decide +kernel
theorem rX7_cream_47 {R : zP} {x1 x2 x3 x4 x5 x6 x7 x8 x9 x10 x11 x12 : Option zV} {st : List zV} {M : zM} {a : Nat} : uX7_cream R 47 [some (.inr (.inr a)), x1, x2, x3, x4, x5, x6, x7, x8, x9, x10, x11, x12] st M ↔ uX7_cream R 48 [some (.inr (.inr a)), x1, x2, x3, x4, x5, x6, x7, x8, x9, x10, x11, x12] (.inr (.inr a) :: st) M := zU_step dX7_cream_47 (Or.inl rfl)
theorem dX7_cream_48 : decode cX7_cream 48 = .ok (.getfield 89, 3) := by decide +kernel
theorem rX7_cream_48 {R : zP} {x0 x1 x2 x3 x4 x5 x6 x7 x8 x9 x10 x11 x12 : Option zV} {st : List zV} {M : zM} {r : Nat} : uX7_cream R 48 [x0, x1, x2, x3, x4, x5, x6, x7, x8, x9, x10, x11, x12] (.inr (.inr r) :: st) M ↔ zgetx fX7 89 r M (fun v => uX7_cream R 51 [x0, x1, x2, x3, x4, x5, x6, x7, x8, x9, x10, x11, x12] (v :: st) M) := zU_step dX7_cream_48 (Or.inl rfl)
theorem dX7_cream_51 : decode cX7_cream 51 = .ok (.iconst 0, 1) := by decide +kernel
theorem rX7_cream_51 {R : zP} {x0 x1 x2 x3 x4 x5 x6 x7 x8 x9 x10 x11 x12 : Option zV} {st : List zV} {M : zM} : uX7_cream R 51 [x0, x1, x2, x3, x4, x5, x6, x7, x8, x9, x10, x11, x12] st M ↔ uX7_cream R 52 [x0, x1, x2, x3, x4, x5, x6, x7, x8, x9, x10, x11, x12] (.inl (0) :: st) M := zU_step dX7_cream_51 (Or.inl rfl)
theorem dX7_cream_52 : decode cX7_cream 52 = .ok (.lconst 1, 1) := by decide +kernel
theorem rX7_cream_52 {R : zP} {x0 x1 x2 x3 x4 x5 x6 x7 x8 x9 x10 x11 x12 : Option zV} {st : List zV} {M : zM} : uX7_cream R 52 [x0, x1, x2, x3, x4, x5, x6, x7, x8, x9, x10, x11, x12] st M ↔ uX7_cream R 53 [x0, x1, x2, x3, x4, x5, x6, x7, x8, x9, x10, x11, x12] (.inr (.inl 1) :: st) M := zU_step dX7_cream_52 (Or.inl rfl)
theorem dX7_cream_53 : decode cX7_cream 53 = .ok (.lastore, 1) := by decide +kernel
theorem rX7_cream_53 {R : zP} {x0 x1 x2 x3 x4 x5 x6 x7 x8 x9 x10 x11 x12 : Option zV} {st : List zV} {M : zM} {i v : Int} {r : Nat} : uX7_cream R 53 [x0, x1, x2, x3, x4, x5, x6, x7, x8, x9, x10, x11, x12] (.inr (.inl v) :: .inl i :: .inr (.inr r) :: st) M ↔ zwrite 1 r i (uX7_cream R 54 [x0, x1, x2, x3, x4, x5, x6, x7, x8, x9, x10, x11, x12] st (zup M r i v)) := zU_step dX7_cream_53 (Or.inl rfl)
theorem dX7_cream_54 : decode cX7_cream 54 = .ok (.lconst 1, 1) := by decide +kernel
theorem rX7_cream_54 {R : zP} {x0 x1 x2 x3 x4 x5 x6 x7 x8 x9 x10 x11 x12 : Option zV} {st : List zV} {M : zM} : uX7_cream R 54 [x0, x1, x2, x3, x4, x5, x6, x7, x8, x9, x10, x11, x12] st M ↔ uX7_cream R 55 [x0, x1, x2, x3, x4, x5, x6, x7, x8, x9, x10, x11, x12] (.inr (.inl 1) :: st) M := zU_step dX7_cream_54 (Or.inl rfl)
theorem dX7_cream_55 : decode cX7_cream 55 = .ok (.lstore 5, 2) := by decide +kernel
theorem rX7_cream_55 {R : zP} {x0 x1 x2 x3 x4 x5 x6 x7 x8 x9 x10 x11 x12 : Option zV} {st : List zV} {M : zM} {a : Int} : uX7_cream R 55 [x0, x1, x2, x3, x4, x5, x6, x7, x8, x9, x10, x11, x12] (.inr (.inl a) :: st) M ↔ uX7_cream R 57 [x0, x1, x2, x3, zkeep x4, some (.inr (.inl a)), none, x7, x8, x9, x10, x11, x12] st M := Iff.trans (zU_step dX7_cream_55 (Or.inl rfl)) ⟨fun h => h.2, fun h => ⟨show 5 + 1 < 13 by decide, h⟩⟩
theorem dX7_cream_57 : decode cX7_cream 57 = .ok (.iconst 0, 1) := by decide +kernel
theorem rX7_cream_57 {R : zP} {x0 x1 x2 x3 x4 x5 x6 x7 x8 x9 x10 x11 x12 : Option zV} {st : List zV} {M : zM} : uX7_cream R 57 [x0, x1, x2, x3, x4, x5, x6, x7, x8, x9, x10, x11, x12] st M ↔ uX7_cream R 58 [x0, x1, x2, x3, x4, x5, x6, x7, x8, x9, x10, x11, x12] (.inl (0) :: st) M := zU_step dX7_cream_57 (Or.inl rfl)
theorem dX7_cream_58 : decode cX7_cream 58 = .ok (.istore 7, 2) := by decide +kernel
theorem rX7_cream_58 {R : zP} {x0 x1 x2 x3 x4 x5 x6 x7 x8 x9 x10 x11 x12 : Option zV} {st : List zV} {M : zM} {a : Int} : uX7_cream R 58 [x0, x1, x2, x3, x4, x5, x6, x7, x8, x9, x10, x11, x12] (.inl a :: st) M ↔ uX7_cream R 60 [x0, x1, x2, x3, x4, x5, zkeep x6, some (.inl a), x8, x9, x10, x11, x12] st M := Iff.trans (zU_step dX7_cream_58 (Or.inl rfl)) ⟨fun h => h.2, fun h => ⟨show 7 < 13 by decide, h⟩⟩
theorem dX7_cream_60 : decode cX7_cream 60 = .ok (.iload 7, 2) := by decide +kernel
theorem rX7_cream_60 {R : zP} {x0 x1 x2 x3 x4 x5 x6 x8 x9 x10 x11 x12 : Option zV} {st : List zV} {M : zM} {a : Int} : uX7_cream R 60 [x0, x1, x2, x3, x4, x5, x6, some (.inl a), x8, x9, x10, x11, x12] st M ↔ uX7_cream R 62 [x0, x1, x2, x3, x4, x5, x6, some (.inl a), x8, x9, x10, x11, x12] (.inl a :: st) M := zU_step dX7_cream_60 (Or.inl rfl)
theorem dX7_cream_62 : decode cX7_cream 62 = .ok (.aload_n 0, 1) := by decide +kernel
theorem rX7_cream_62 {R : zP} {x1 x2 x3 x4 x5 x6 x7 x8 x9 x10 x11 x12 : Option zV} {st : List zV} {M : zM} {a : Nat} : uX7_cream R 62 [some (.inr (.inr a)), x1, x2, x3, x4, x5, x6, x7, x8, x9, x10, x11, x12] st M ↔ uX7_cream R 63 [some (.inr (.inr a)), x1, x2, x3, x4, x5, x6, x7, x8, x9, x10, x11, x12] (.inr (.inr a) :: st) M := zU_step dX7_cream_62 (Or.inl rfl)
theorem dX7_cream_63 : decode cX7_cream 63 = .ok (.getfield 14, 3) := by decide +kernel
theorem rX7_cream_63 {R : zP} {x0 x1 x2 x3 x4 x5 x6 x7 x8 x9 x10 x11 x12 : Option zV} {st : List zV} {M : zM} {r : Nat} : uX7_cream R 63 [x0, x1, x2, x3, x4, x5, x6, x7, x8, x9, x10, x11, x12] (.inr (.inr r) :: st) M ↔ zgetx fX7 14 r M (fun v => uX7_cream R 66 [x0, x1, x2, x3, x4, x5, x6, x7, x8, x9, x10, x11, x12] (v :: st) M) := zU_step dX7_cream_63 (Or.inl rfl)
theorem dX7_cream_66 : decode cX7_cream 66 = .ok (.getfield 116, 3) := by decide +kernel
theorem rX7_cream_66 {R : zP} {x0 x1 x2 x3 x4 x5 x6 x7 x8 x9 x10 x11 x12 : Option zV} {st : List zV} {M : zM} {r : Nat} : uX7_cream R 66 [x0, x1, x2, x3, x4, x5, x6, x7, x8, x9, x10, x11, x12] (.inr (.inr r) :: st) M ↔ zgetx fX7 116 r M (fun v => uX7_cream R 69 [x0, x1, x2, x3, x4, x5, x6, x7, x8, x9, x10, x11, x12] (v :: st) M) := zU_step dX7_cream_66 (Or.inl rfl)
theorem dX7_cream_69 : decode cX7_cream 69 = .ok (.if_icmp .ge 64, 3) := by decide +kernel
theorem rX7_cream_69 {R : zP} {x0 x1 x2 x3 x4 x5 x6 x7 x8 x9 x10 x11 x12 : Option zV} {st : List zV} {M : zM} {a b : Int} : uX7_cream R 69 [x0, x1, x2, x3, x4, x5, x6, x7, x8, x9, x10, x11, x12] (.inl b :: .inl a :: st) M ↔ ((zIR a ∧ zIR b) ∧ (b ≤ a → uX7_cream R 133 [x0, x1, x2, x3, x4, x5, x6, x7, x8, x9, x10, x11, x12] st M) ∧ (¬ b ≤ a → uX7_cream R 72 [x0, x1, x2, x3, x4, x5, x6, x7, x8, x9, x10, x11, x12] st M)) := Iff.trans (zU_step dX7_cream_69 (Or.inl rfl)) ⟨fun h => ⟨⟨h.1.1, h.1.2.1⟩, h.2⟩, fun h => ⟨⟨h.1.1, h.1.2, by decide⟩, h.2⟩⟩
theorem dX7_cream_72 : decode cX7_cream 72 = .ok (.aload_n 0, 1) := by decide +kernel
theorem rX7_cream_72 {R : zP} {x1 x2 x3 x4 x5 x6 x7 x8 x9 x10 x11 x12 : Option zV} {st : List zV} {M : zM} {a : Nat} : uX7_cream R 72 [some (.inr (.inr a)), x1, x2, x3, x4, x5, x6, x7, x8, x9, x10, x11, x12] st M ↔ uX7_cream R 73 [some (.inr (.inr a)), x1, x2, x3, x4, x5, x6, x7, x8, x9, x10, x11, x12] (.inr (.inr a) :: st) M := zU_step dX7_cream_72 (Or.inl rfl)
theorem dX7_cream_73 : decode cX7_cream 73 = .ok (.getfield 28, 3) := by decide +kernel
theorem rX7_cream_73 {R : zP} {x0 x1 x2 x3 x4 x5 x6 x7 x8 x9 x10 x11 x12 : Option zV} {st : List zV} {M : zM} {r : Nat} : uX7_cream R 73 [x0, x1, x2, x3, x4, x5, x6, x7, x8, x9, x10, x11, x12] (.inr (.inr r) :: st) M ↔ zgetx fX7 28 r M (fun v => uX7_cream R 76 [x0, x1, x2, x3, x4, x5, x6, x7, x8, x9, x10, x11, x12] (v :: st) M) := zU_step dX7_cream_73 (Or.inl rfl)
theorem dX7_cream_76 : decode cX7_cream 76 = .ok (.iload 7, 2) := by decide +kernel
theorem rX7_cream_76 {R : zP} {x0 x1 x2 x3 x4 x5 x6 x8 x9 x10 x11 x12 : Option zV} {st : List zV} {M : zM} {a : Int} : uX7_cream R 76 [x0, x1, x2, x3, x4, x5, x6, some (.inl a), x8, x9, x10, x11, x12] st M ↔ uX7_cream R 78 [x0, x1, x2, x3, x4, x5, x6, some (.inl a), x8, x9, x10, x11, x12] (.inl a :: st) M := zU_step dX7_cream_76 (Or.inl rfl)
theorem dX7_cream_78 : decode cX7_cream 78 = .ok (.iload_n 2, 1) := by decide +kernel
theorem rX7_cream_78 {R : zP} {x0 x1 x3 x4 x5 x6 x7 x8 x9 x10 x11 x12 : Option zV} {st : List zV} {M : zM} {a : Int} : uX7_cream R 78 [x0, x1, some (.inl a), x3, x4, x5, x6, x7, x8, x9, x10, x11, x12] st M ↔ uX7_cream R 79 [x0, x1, some (.inl a), x3, x4, x5, x6, x7, x8, x9, x10, x11, x12] (.inl a :: st) M := zU_step dX7_cream_78 (Or.inl rfl)
theorem dX7_cream_79 : decode cX7_cream 79 = .ok (.invokevirtual 265, 3) := by decide +kernel
theorem rX7_cream_79 {R : zP} {x0 x1 x2 x3 x4 x5 x6 x7 x8 x9 x10 x11 x12 : Option zV} {st : List zV} {M : zM} {a0 a1 a2 : zV} : uX7_cream R 79 [x0, x1, x2, x3, x4, x5, x6, x7, x8, x9, x10, x11, x12] (a2 :: a1 :: a0 :: st) M ↔ (st.length ≤ 4 ∧ zcv (zv 4 tX4_feedsOf) [a0, a1, a2] M (fun v M => uX7_cream R 82 [x0, x1, x2, x3, x4, x5, x6, x7, x8, x9, x10, x11, x12] (v :: st) M)) := Iff.trans (zU_step dX7_cream_79 (Or.inl rfl)) ⟨fun h => ⟨h.2.1, zcv_of h.2.2⟩, fun h => ⟨rfl, h.1, zcv_to h.2⟩⟩
theorem dX7_cream_82 : decode cX7_cream 82 = .ok (.istore 8, 2) := by decide +kernel
theorem rX7_cream_82 {R : zP} {x0 x1 x2 x3 x4 x5 x6 x7 x8 x9 x10 x11 x12 : Option zV} {st : List zV} {M : zM} {a : Int} : uX7_cream R 82 [x0, x1, x2, x3, x4, x5, x6, x7, x8, x9, x10, x11, x12] (.inl a :: st) M ↔ uX7_cream R 84 [x0, x1, x2, x3, x4, x5, x6, zkeep x7, some (.inl a), x9, x10, x11, x12] st M := Iff.trans (zU_step dX7_cream_82 (Or.inl rfl)) ⟨fun h => h.2, fun h => ⟨show 8 < 13 by decide, h⟩⟩
theorem dX7_cream_84 : decode cX7_cream 84 = .ok (.aload_n 0, 1) := by decide +kernel
theorem rX7_cream_84 {R : zP} {x1 x2 x3 x4 x5 x6 x7 x8 x9 x10 x11 x12 : Option zV} {st : List zV} {M : zM} {a : Nat} : uX7_cream R 84 [some (.inr (.inr a)), x1, x2, x3, x4, x5, x6, x7, x8, x9, x10, x11, x12] st M ↔ uX7_cream R 85 [some (.inr (.inr a)), x1, x2, x3, x4, x5, x6, x7, x8, x9, x10, x11, x12] (.inr (.inr a) :: st) M := zU_step dX7_cream_84 (Or.inl rfl)
theorem dX7_cream_85 : decode cX7_cream 85 = .ok (.iload 7, 2) := by decide +kernel
theorem rX7_cream_85 {R : zP} {x0 x1 x2 x3 x4 x5 x6 x8 x9 x10 x11 x12 : Option zV} {st : List zV} {M : zM} {a : Int} : uX7_cream R 85 [x0, x1, x2, x3, x4, x5, x6, some (.inl a), x8, x9, x10, x11, x12] st M ↔ uX7_cream R 87 [x0, x1, x2, x3, x4, x5, x6, some (.inl a), x8, x9, x10, x11, x12] (.inl a :: st) M := zU_step dX7_cream_85 (Or.inl rfl)
theorem dX7_cream_87 : decode cX7_cream 87 = .ok (.iload_n 1, 1) := by decide +kernel
theorem rX7_cream_87 {R : zP} {x0 x2 x3 x4 x5 x6 x7 x8 x9 x10 x11 x12 : Option zV} {st : List zV} {M : zM} {a : Int} : uX7_cream R 87 [x0, some (.inl a), x2, x3, x4, x5, x6, x7, x8, x9, x10, x11, x12] st M ↔ uX7_cream R 88 [x0, some (.inl a), x2, x3, x4, x5, x6, x7, x8, x9, x10, x11, x12] (.inl a :: st) M := zU_step dX7_cream_87 (Or.inl rfl)
theorem dX7_cream_88 : decode cX7_cream 88 = .ok (.iload_n 2, 1) := by decide +kernel
theorem rX7_cream_88 {R : zP} {x0 x1 x3 x4 x5 x6 x7 x8 x9 x10 x11 x12 : Option zV} {st : List zV} {M : zM} {a : Int} : uX7_cream R 88 [x0, x1, some (.inl a), x3, x4, x5, x6, x7, x8, x9, x10, x11, x12] st M ↔ uX7_cream R 89 [x0, x1, some (.inl a), x3, x4, x5, x6, x7, x8, x9, x10, x11, x12] (.inl a :: st) M := zU_step dX7_cream_88 (Or.inl rfl)
theorem dX7_cream_89 : decode cX7_cream 89 = .ok (.iload_n 3, 1) := by decide +kernel
theorem rX7_cream_89 {R : zP} {x0 x1 x2 x4 x5 x6 x7 x8 x9 x10 x11 x12 : Option zV} {st : List zV} {M : zM} {a : Int} : uX7_cream R 89 [x0, x1, x2, some (.inl a), x4, x5, x6, x7, x8, x9, x10, x11, x12] st M ↔ uX7_cream R 90 [x0, x1, x2, some (.inl a), x4, x5, x6, x7, x8, x9, x10, x11, x12] (.inl a :: st) M := zU_step dX7_cream_89 (Or.inl rfl)
theorem dX7_cream_90 : decode cX7_cream 90 = .ok (.iload 8, 2) := by decide +kernel
theorem rX7_cream_90 {R : zP} {x0 x1 x2 x3 x4 x5 x6 x7 x9 x10 x11 x12 : Option zV} {st : List zV} {M : zM} {a : Int} : uX7_cream R 90 [x0, x1, x2, x3, x4, x5, x6, x7, some (.inl a), x9, x10, x11, x12] st M ↔ uX7_cream R 92 [x0, x1, x2, x3, x4, x5, x6, x7, some (.inl a), x9, x10, x11, x12] (.inl a :: st) M := zU_step dX7_cream_90 (Or.inl rfl)
theorem dX7_cream_92 : decode cX7_cream 92 = .ok (.invokevirtual 268, 3) := by decide +kernel
theorem rX7_cream_92 {R : zP} {x0 x1 x2 x3 x4 x5 x6 x7 x8 x9 x10 x11 x12 : Option zV} {st : List zV} {M : zM} {a0 a1 a2 a3 a4 a5 : zV} : uX7_cream R 92 [x0, x1, x2, x3, x4, x5, x6, x7, x8, x9, x10, x11, x12] (a5 :: a4 :: a3 :: a2 :: a1 :: a0 :: st) M ↔ (st.length ≤ 4 ∧ zcv (zv 7 tX7_ayeWays) [a0, a1, a2, a3, a4, a5] M (fun v M => uX7_cream R 95 [x0, x1, x2, x3, x4, x5, x6, x7, x8, x9, x10, x11, x12] (v :: st) M)) := Iff.trans (zU_step dX7_cream_92 (Or.inl rfl)) ⟨fun h => ⟨h.2.1, zcv_of h.2.2⟩, fun h => ⟨rfl, h.1, zcv_to h.2⟩⟩
theorem dX7_cream_95 : decode cX7_cream 95 = .ok (.lstore 9, 2) := by decide +kernel
theorem rX7_cream_95 {R : zP} {x0 x1 x2 x3 x4 x5 x6 x7 x8 x9 x10 x11 x12 : Option zV} {st : List zV} {M : zM} {a : Int} : uX7_cream R 95 [x0, x1, x2, x3, x4, x5, x6, x7, x8, x9, x10, x11, x12] (.inr (.inl a) :: st) M ↔ uX7_cream R 97 [x0, x1, x2, x3, x4, x5, x6, x7, zkeep x8, some (.inr (.inl a)), none, x11, x12] st M := Iff.trans (zU_step dX7_cream_95 (Or.inl rfl)) ⟨fun h => h.2, fun h => ⟨show 9 + 1 < 13 by decide, h⟩⟩
theorem dX7_cream_97 : decode cX7_cream 97 = .ok (.iload 8, 2) := by decide +kernel
theorem rX7_cream_97 {R : zP} {x0 x1 x2 x3 x4 x5 x6 x7 x9 x10 x11 x12 : Option zV} {st : List zV} {M : zM} {a : Int} : uX7_cream R 97 [x0, x1, x2, x3, x4, x5, x6, x7, some (.inl a), x9, x10, x11, x12] st M ↔ uX7_cream R 99 [x0, x1, x2, x3, x4, x5, x6, x7, some (.inl a), x9, x10, x11, x12] (.inl a :: st) M := zU_step dX7_cream_97 (Or.inl rfl)
theorem dX7_cream_99 : decode cX7_cream 99 = .ok (.invokestatic 173, 3) := by decide +kernel
theorem rX7_cream_99 {R : zP} {x0 x1 x2 x3 x4 x5 x6 x7 x8 x9 x10 x11 x12 : Option zV} {st : List zV} {M : zM} {a0 : zV} : uX7_cream R 99 [x0, x1, x2, x3, x4, x5, x6, x7, x8, x9, x10, x11, x12] (a0 :: st) M ↔ (st.length ≤ 4 ∧ zcv tJ6_bitCount_0f7a4 [a0] M (fun v M => uX7_cream R 102 [x0, x1, x2, x3, x4, x5, x6, x7, x8, x9, x10, x11, x12] (v :: st) M)) := Iff.trans (zU_step dX7_cream_99 (Or.inl rfl)) ⟨fun h => ⟨h.2.1, zcv_of h.2.2⟩, fun h => ⟨rfl, h.1, zcv_to h.2⟩⟩
theorem dX7_cream_102 : decode cX7_cream 102 = .ok (.invokestatic 272, 3) := by decide +kernel
theorem rX7_cream_102 {R : zP} {x0 x1 x2 x3 x4 x5 x6 x7 x8 x9 x10 x11 x12 : Option zV} {st : List zV} {M : zM} {a0 : zV} : uX7_cream R 102 [x0, x1, x2, x3, x4, x5, x6, x7, x8, x9, x10, x11, x12] (a0 :: st) M ↔ (st.length ≤ 4 ∧ zcv tX7_power16 [a0] M (fun v M => uX7_cream R 105 [x0, x1, x2, x3, x4, x5, x6, x7, x8, x9, x10, x11, x12] (v :: st) M)) := Iff.trans (zU_step dX7_cream_102 (Or.inl rfl)) ⟨fun h => ⟨h.2.1, zcv_of h.2.2⟩, fun h => ⟨rfl, h.1, zcv_to h.2⟩⟩
theorem dX7_cream_105 : decode cX7_cream 105 = .ok (.lstore 11, 2) := by decide +kernel
theorem rX7_cream_105 {R : zP} {x0 x1 x2 x3 x4 x5 x6 x7 x8 x9 x10 x11 x12 : Option zV} {st : List zV} {M : zM} {a : Int} : uX7_cream R 105 [x0, x1, x2, x3, x4, x5, x6, x7, x8, x9, x10, x11, x12] (.inr (.inl a) :: st) M ↔ uX7_cream R 107 [x0, x1, x2, x3, x4, x5, x6, x7, x8, x9, zkeep x10, some (.inr (.inl a)), none] st M := Iff.trans (zU_step dX7_cream_105 (Or.inl rfl)) ⟨fun h => h.2, fun h => ⟨show 11 + 1 < 13 by decide, h⟩⟩
theorem dX7_cream_107 : decode cX7_cream 107 = .ok (.aload_n 0, 1) := by decide +kernel
theorem rX7_cream_107 {R : zP} {x1 x2 x3 x4 x5 x6 x7 x8 x9 x10 x11 x12 : Option zV} {st : List zV} {M : zM} {a : Nat} : uX7_cream R 107 [some (.inr (.inr a)), x1, x2, x3, x4, x5, x6, x7, x8, x9, x10, x11, x12] st M ↔ uX7_cream R 108 [some (.inr (.inr a)), x1, x2, x3, x4, x5, x6, x7, x8, x9, x10, x11, x12] (.inr (.inr a) :: st) M := zU_step dX7_cream_107 (Or.inl rfl)
theorem dX7_cream_108 : decode cX7_cream 108 = .ok (.iload 7, 2) := by decide +kernel
theorem rX7_cream_108 {R : zP} {x0 x1 x2 x3 x4 x5 x6 x8 x9 x10 x11 x12 : Option zV} {st : List zV} {M : zM} {a : Int} : uX7_cream R 108 [x0, x1, x2, x3, x4, x5, x6, some (.inl a), x8, x9, x10, x11, x12] st M ↔ uX7_cream R 110 [x0, x1, x2, x3, x4, x5, x6, some (.inl a), x8, x9, x10, x11, x12] (.inl a :: st) M := zU_step dX7_cream_108 (Or.inl rfl)
theorem dX7_cream_110 : decode cX7_cream 110 = .ok (.lload 9, 2) := by decide +kernel
theorem rX7_cream_110 {R : zP} {x0 x1 x2 x3 x4 x5 x6 x7 x8 x10 x11 x12 : Option zV} {st : List zV} {M : zM} {a : Int} : uX7_cream R 110 [x0, x1, x2, x3, x4, x5, x6, x7, x8, some (.inr (.inl a)), x10, x11, x12] st M ↔ uX7_cream R 112 [x0, x1, x2, x3, x4, x5, x6, x7, x8, some (.inr (.inl a)), x10, x11, x12] (.inr (.inl a) :: st) M := zU_step dX7_cream_110 (Or.inl rfl)
theorem dX7_cream_112 : decode cX7_cream 112 = .ok (.lload 11, 2) := by decide +kernel
theorem rX7_cream_112 {R : zP} {x0 x1 x2 x3 x4 x5 x6 x7 x8 x9 x10 x12 : Option zV} {st : List zV} {M : zM} {a : Int} : uX7_cream R 112 [x0, x1, x2, x3, x4, x5, x6, x7, x8, x9, x10, some (.inr (.inl a)), x12] st M ↔ uX7_cream R 114 [x0, x1, x2, x3, x4, x5, x6, x7, x8, x9, x10, some (.inr (.inl a)), x12] (.inr (.inl a) :: st) M := zU_step dX7_cream_112 (Or.inl rfl)
theorem dX7_cream_114 : decode cX7_cream 114 = .ok (.lload 9, 2) := by decide +kernel
theorem rX7_cream_114 {R : zP} {x0 x1 x2 x3 x4 x5 x6 x7 x8 x10 x11 x12 : Option zV} {st : List zV} {M : zM} {a : Int} : uX7_cream R 114 [x0, x1, x2, x3, x4, x5, x6, x7, x8, some (.inr (.inl a)), x10, x11, x12] st M ↔ uX7_cream R 116 [x0, x1, x2, x3, x4, x5, x6, x7, x8, some (.inr (.inl a)), x10, x11, x12] (.inr (.inl a) :: st) M := zU_step dX7_cream_114 (Or.inl rfl)
theorem dX7_cream_116 : decode cX7_cream 116 = .ok (.lsub, 1) := by decide +kernel
theorem rX7_cream_116 {R : zP} {x0 x1 x2 x3 x4 x5 x6 x7 x8 x9 x10 x11 x12 : Option zV} {st : List zV} {M : zM} {a b : Int} : uX7_cream R 116 [x0, x1, x2, x3, x4, x5, x6, x7, x8, x9, x10, x11, x12] (.inr (.inl b) :: .inr (.inl a) :: st) M ↔ uX7_cream R 117 [x0, x1, x2, x3, x4, x5, x6, x7, x8, x9, x10, x11, x12] (.inr (.inl (a - b)) :: st) M := zU_step dX7_cream_116 (Or.inl rfl)
theorem dX7_cream_117 : decode cX7_cream 117 = .ok (.invokevirtual 275, 3) := by decide +kernel
theorem rX7_cream_117 {R : zP} {x0 x1 x2 x3 x4 x5 x6 x7 x8 x9 x10 x11 x12 : Option zV} {st : List zV} {M : zM} {a0 a1 a2 a3 : zV} : uX7_cream R 117 [x0, x1, x2, x3, x4, x5, x6, x7, x8, x9, x10, x11, x12] (a3 :: a2 :: a1 :: a0 :: st) M ↔ (st.length ≤ 4 ∧ zcn (zv 7 tX7_joinWays) [a0, a1, a2, a3] M (fun M => uX7_cream R 120 [x0, x1, x2, x3, x4, x5, x6, x7, x8, x9, x10, x11, x12] st M)) := Iff.trans (zU_step dX7_cream_117 (Or.inl rfl)) ⟨fun h => ⟨h.2.1, zcn_of h.2.2⟩, fun h => ⟨rfl, h.1, zcn_to h.2⟩⟩
theorem dX7_cream_120 : decode cX7_cream 120 = .ok (.lload 5, 2) := by decide +kernel
theorem rX7_cream_120 {R : zP} {x0 x1 x2 x3 x4 x6 x7 x8 x9 x10 x11 x12 : Option zV} {st : List zV} {M : zM} {a : Int} : uX7_cream R 120 [x0, x1, x2, x3, x4, some (.inr (.inl a)), x6, x7, x8, x9, x10, x11, x12] st M ↔ uX7_cream R 122 [x0, x1, x2, x3, x4, some (.inr (.inl a)), x6, x7, x8, x9, x10, x11, x12] (.inr (.inl a) :: st) M := zU_step dX7_cream_120 (Or.inl rfl)
theorem dX7_cream_122 : decode cX7_cream 122 = .ok (.lload 11, 2) := by decide +kernel
theorem rX7_cream_122 {R : zP} {x0 x1 x2 x3 x4 x5 x6 x7 x8 x9 x10 x12 : Option zV} {st : List zV} {M : zM} {a : Int} : uX7_cream R 122 [x0, x1, x2, x3, x4, x5, x6, x7, x8, x9, x10, some (.inr (.inl a)), x12] st M ↔ uX7_cream R 124 [x0, x1, x2, x3, x4, x5, x6, x7, x8, x9, x10, some (.inr (.inl a)), x12] (.inr (.inl a) :: st) M := zU_step dX7_cream_122 (Or.inl rfl)
theorem dX7_cream_124 : decode cX7_cream 124 = .ok (.lmul, 1) := by decide +kernel
theorem rX7_cream_124 {R : zP} {x0 x1 x2 x3 x4 x5 x6 x7 x8 x9 x10 x11 x12 : Option zV} {st : List zV} {M : zM} {a b : Int} : uX7_cream R 124 [x0, x1, x2, x3, x4, x5, x6, x7, x8, x9, x10, x11, x12] (.inr (.inl b) :: .inr (.inl a) :: st) M ↔ uX7_cream R 125 [x0, x1, x2, x3, x4, x5, x6, x7, x8, x9, x10, x11, x12] (.inr (.inl (a * b)) :: st) M := zU_step dX7_cream_124 (Or.inl rfl)
theorem dX7_cream_125 : decode cX7_cream 125 = .ok (.lstore 5, 2) := by decide +kernel
theorem rX7_cream_125 {R : zP} {x0 x1 x2 x3 x4 x5 x6 x7 x8 x9 x10 x11 x12 : Option zV} {st : List zV} {M : zM} {a : Int} : uX7_cream R 125 [x0, x1, x2, x3, x4, x5, x6, x7, x8, x9, x10, x11, x12] (.inr (.inl a) :: st) M ↔ uX7_cream R 127 [x0, x1, x2, x3, zkeep x4, some (.inr (.inl a)), none, x7, x8, x9, x10, x11, x12] st M := Iff.trans (zU_step dX7_cream_125 (Or.inl rfl)) ⟨fun h => h.2, fun h => ⟨show 5 + 1 < 13 by decide, h⟩⟩
theorem dX7_cream_127 : decode cX7_cream 127 = .ok (.iinc 7 1, 3) := by decide +kernel
theorem rX7_cream_127 {R : zP} {x0 x1 x2 x3 x4 x5 x6 x8 x9 x10 x11 x12 : Option zV} {st : List zV} {M : zM} {a : Int} : uX7_cream R 127 [x0, x1, x2, x3, x4, x5, x6, some (.inl a), x8, x9, x10, x11, x12] st M ↔ uX7_cream R 130 [x0, x1, x2, x3, x4, x5, zkeep x6, some (.inl (a + (1))), x8, x9, x10, x11, x12] st M := Iff.trans (zU_step dX7_cream_127 (Or.inl rfl)) ⟨fun h => h.2, fun h => ⟨show 7 < 13 by decide, h⟩⟩
theorem dX7_cream_130 : decode cX7_cream 130 = .ok (.goto (-70), 3) := by decide +kernel
theorem rX7_cream_130 {R : zP} {x0 x1 x2 x3 x4 x5 x6 x7 x8 x9 x10 x11 x12 : Option zV} {st : List zV} {M : zM} : uX7_cream R 130 [x0, x1, x2, x3, x4, x5, x6, x7, x8, x9, x10, x11, x12] st M ↔ uX7_cream R 60 [x0, x1, x2, x3, x4, x5, x6, x7, x8, x9, x10, x11, x12] st M := Iff.trans (zU_step dX7_cream_130 (Or.inl rfl)) ⟨fun h => h.2, fun h => ⟨by decide, h⟩⟩
theorem dX7_cream_133 : decode cX7_cream 133 = .ok (.lconst 0, 1) := by decide +kernel
theorem rX7_cream_133 {R : zP} {x0 x1 x2 x3 x4 x5 x6 x7 x8 x9 x10 x11 x12 : Option zV} {st : List zV} {M : zM} : uX7_cream R 133 [x0, x1, x2, x3, x4, x5, x6, x7, x8, x9, x10, x11, x12] st M ↔ uX7_cream R 134 [x0, x1, x2, x3, x4, x5, x6, x7, x8, x9, x10, x11, x12] (.inr (.inl 0) :: st) M := zU_step dX7_cream_133 (Or.inl rfl)
theorem dX7_cream_134 : decode cX7_cream 134 = .ok (.lstore 7, 2) := by decide +kernel
theorem rX7_cream_134 {R : zP} {x0 x1 x2 x3 x4 x5 x6 x7 x8 x9 x10 x11 x12 : Option zV} {st : List zV} {M : zM} {a : Int} : uX7_cream R 134 [x0, x1, x2, x3, x4, x5, x6, x7, x8, x9, x10, x11, x12] (.inr (.inl a) :: st) M ↔ uX7_cream R 136 [x0, x1, x2, x3, x4, x5, zkeep x6, some (.inr (.inl a)), none, x9, x10, x11, x12] st M := Iff.trans (zU_step dX7_cream_134 (Or.inl rfl)) ⟨fun h => h.2, fun h => ⟨show 7 + 1 < 13 by decide, h⟩⟩
theorem dX7_cream_136 : decode cX7_cream 136 = .ok (.iconst 0, 1) := by decide +kernel
theorem rX7_cream_136 {R : zP} {x0 x1 x2 x3 x4 x5 x6 x7 x8 x9 x10 x11 x12 : Option zV} {st : List zV} {M : zM} : uX7_cream R 136 [x0, x1, x2, x3, x4, x5, x6, x7, x8, x9, x10, x11, x12] st M ↔ uX7_cream R 137 [x0, x1, x2, x3, x4, x5, x6, x7, x8, x9, x10, x11, x12] (.inl (0) :: st) M := zU_step dX7_cream_136 (Or.inl rfl)
theorem dX7_cream_137 : decode cX7_cream 137 = .ok (.istore 9, 2) := by decide +kernel
theorem rX7_cream_137 {R : zP} {x0 x1 x2 x3 x4 x5 x6 x7 x8 x9 x10 x11 x12 : Option zV} {st : List zV} {M : zM} {a : Int} : uX7_cream R 137 [x0, x1, x2, x3, x4, x5, x6, x7, x8, x9, x10, x11, x12] (.inl a :: st) M ↔ uX7_cream R 139 [x0, x1, x2, x3, x4, x5, x6, x7, zkeep x8, some (.inl a), x10, x11, x12] st M := Iff.trans (zU_step dX7_cream_137 (Or.inl rfl)) ⟨fun h => h.2, fun h => ⟨show 9 < 13 by decide, h⟩⟩
theorem dX7_cream_139 : decode cX7_cream 139 = .ok (.iload 9, 2) := by decide +kernel
theorem rX7_cream_139 {R : zP} {x0 x1 x2 x3 x4 x5 x6 x7 x8 x10 x11 x12 : Option zV} {st : List zV} {M : zM} {a : Int} : uX7_cream R 139 [x0, x1, x2, x3, x4, x5, x6, x7, x8, some (.inl a), x10, x11, x12] st M ↔ uX7_cream R 141 [x0, x1, x2, x3, x4, x5, x6, x7, x8, some (.inl a), x10, x11, x12] (.inl a :: st) M := zU_step dX7_cream_139 (Or.inl rfl)
theorem dX7_cream_141 : decode cX7_cream 141 = .ok (.aload_n 0, 1) := by decide +kernel
theorem rX7_cream_141 {R : zP} {x1 x2 x3 x4 x5 x6 x7 x8 x9 x10 x11 x12 : Option zV} {st : List zV} {M : zM} {a : Nat} : uX7_cream R 141 [some (.inr (.inr a)), x1, x2, x3, x4, x5, x6, x7, x8, x9, x10, x11, x12] st M ↔ uX7_cream R 142 [some (.inr (.inr a)), x1, x2, x3, x4, x5, x6, x7, x8, x9, x10, x11, x12] (.inr (.inr a) :: st) M := zU_step dX7_cream_141 (Or.inl rfl)
theorem dX7_cream_142 : decode cX7_cream 142 = .ok (.getfield 14, 3) := by decide +kernel
theorem rX7_cream_142 {R : zP} {x0 x1 x2 x3 x4 x5 x6 x7 x8 x9 x10 x11 x12 : Option zV} {st : List zV} {M : zM} {r : Nat} : uX7_cream R 142 [x0, x1, x2, x3, x4, x5, x6, x7, x8, x9, x10, x11, x12] (.inr (.inr r) :: st) M ↔ zgetx fX7 14 r M (fun v => uX7_cream R 145 [x0, x1, x2, x3, x4, x5, x6, x7, x8, x9, x10, x11, x12] (v :: st) M) := zU_step dX7_cream_142 (Or.inl rfl)
theorem dX7_cream_145 : decode cX7_cream 145 = .ok (.getfield 116, 3) := by decide +kernel
theorem rX7_cream_145 {R : zP} {x0 x1 x2 x3 x4 x5 x6 x7 x8 x9 x10 x11 x12 : Option zV} {st : List zV} {M : zM} {r : Nat} : uX7_cream R 145 [x0, x1, x2, x3, x4, x5, x6, x7, x8, x9, x10, x11, x12] (.inr (.inr r) :: st) M ↔ zgetx fX7 116 r M (fun v => uX7_cream R 148 [x0, x1, x2, x3, x4, x5, x6, x7, x8, x9, x10, x11, x12] (v :: st) M) := zU_step dX7_cream_145 (Or.inl rfl)
theorem dX7_cream_148 : decode cX7_cream 148 = .ok (.if_icmp .gt 35, 3) := by decide +kernel
theorem rX7_cream_148 {R : zP} {x0 x1 x2 x3 x4 x5 x6 x7 x8 x9 x10 x11 x12 : Option zV} {st : List zV} {M : zM} {a b : Int} : uX7_cream R 148 [x0, x1, x2, x3, x4, x5, x6, x7, x8, x9, x10, x11, x12] (.inl b :: .inl a :: st) M ↔ ((zIR a ∧ zIR b) ∧ (b < a → uX7_cream R 183 [x0, x1, x2, x3, x4, x5, x6, x7, x8, x9, x10, x11, x12] st M) ∧ (¬ b < a → uX7_cream R 151 [x0, x1, x2, x3, x4, x5, x6, x7, x8, x9, x10, x11, x12] st M)) := Iff.trans (zU_step dX7_cream_148 (Or.inl rfl)) ⟨fun h => ⟨⟨h.1.1, h.1.2.1⟩, h.2⟩, fun h => ⟨⟨h.1.1, h.1.2, by decide⟩, h.2⟩⟩
theorem dX7_cream_151 : decode cX7_cream 151 = .ok (.iconst 2, 1) := by decide +kernel
theorem rX7_cream_151 {R : zP} {x0 x1 x2 x3 x4 x5 x6 x7 x8 x9 x10 x11 x12 : Option zV} {st : List zV} {M : zM} : uX7_cream R 151 [x0, x1, x2, x3, x4, x5, x6, x7, x8, x9, x10, x11, x12] st M ↔ uX7_cream R 152 [x0, x1, x2, x3, x4, x5, x6, x7, x8, x9, x10, x11, x12] (.inl (2) :: st) M := zU_step dX7_cream_151 (Or.inl rfl)
theorem dX7_cream_152 : decode cX7_cream 152 = .ok (.iload 9, 2) := by decide +kernel
theorem rX7_cream_152 {R : zP} {x0 x1 x2 x3 x4 x5 x6 x7 x8 x10 x11 x12 : Option zV} {st : List zV} {M : zM} {a : Int} : uX7_cream R 152 [x0, x1, x2, x3, x4, x5, x6, x7, x8, some (.inl a), x10, x11, x12] st M ↔ uX7_cream R 154 [x0, x1, x2, x3, x4, x5, x6, x7, x8, some (.inl a), x10, x11, x12] (.inl a :: st) M := zU_step dX7_cream_152 (Or.inl rfl)
theorem dX7_cream_154 : decode cX7_cream 154 = .ok (.imul, 1) := by decide +kernel
theorem rX7_cream_154 {R : zP} {x0 x1 x2 x3 x4 x5 x6 x7 x8 x9 x10 x11 x12 : Option zV} {st : List zV} {M : zM} {a b : Int} : uX7_cream R 154 [x0, x1, x2, x3, x4, x5, x6, x7, x8, x9, x10, x11, x12] (.inl b :: .inl a :: st) M ↔ uX7_cream R 155 [x0, x1, x2, x3, x4, x5, x6, x7, x8, x9, x10, x11, x12] (.inl (a * b) :: st) M := zU_step dX7_cream_154 (Or.inl rfl)
theorem dX7_cream_155 : decode cX7_cream 155 = .ok (.aload_n 0, 1) := by decide +kernel
theorem rX7_cream_155 {R : zP} {x1 x2 x3 x4 x5 x6 x7 x8 x9 x10 x11 x12 : Option zV} {st : List zV} {M : zM} {a : Nat} : uX7_cream R 155 [some (.inr (.inr a)), x1, x2, x3, x4, x5, x6, x7, x8, x9, x10, x11, x12] st M ↔ uX7_cream R 156 [some (.inr (.inr a)), x1, x2, x3, x4, x5, x6, x7, x8, x9, x10, x11, x12] (.inr (.inr a) :: st) M := zU_step dX7_cream_155 (Or.inl rfl)
theorem dX7_cream_156 : decode cX7_cream 156 = .ok (.getfield 14, 3) := by decide +kernel
theorem rX7_cream_156 {R : zP} {x0 x1 x2 x3 x4 x5 x6 x7 x8 x9 x10 x11 x12 : Option zV} {st : List zV} {M : zM} {r : Nat} : uX7_cream R 156 [x0, x1, x2, x3, x4, x5, x6, x7, x8, x9, x10, x11, x12] (.inr (.inr r) :: st) M ↔ zgetx fX7 14 r M (fun v => uX7_cream R 159 [x0, x1, x2, x3, x4, x5, x6, x7, x8, x9, x10, x11, x12] (v :: st) M) := zU_step dX7_cream_156 (Or.inl rfl)
theorem dX7_cream_159 : decode cX7_cream 159 = .ok (.getfield 116, 3) := by decide +kernel
theorem rX7_cream_159 {R : zP} {x0 x1 x2 x3 x4 x5 x6 x7 x8 x9 x10 x11 x12 : Option zV} {st : List zV} {M : zM} {r : Nat} : uX7_cream R 159 [x0, x1, x2, x3, x4, x5, x6, x7, x8, x9, x10, x11, x12] (.inr (.inr r) :: st) M ↔ zgetx fX7 116 r M (fun v => uX7_cream R 162 [x0, x1, x2, x3, x4, x5, x6, x7, x8, x9, x10, x11, x12] (v :: st) M) := zU_step dX7_cream_159 (Or.inl rfl)
theorem dX7_cream_162 : decode cX7_cream 162 = .ok (.if_icmp .le 15, 3) := by decide +kernel
theorem rX7_cream_162 {R : zP} {x0 x1 x2 x3 x4 x5 x6 x7 x8 x9 x10 x11 x12 : Option zV} {st : List zV} {M : zM} {a b : Int} : uX7_cream R 162 [x0, x1, x2, x3, x4, x5, x6, x7, x8, x9, x10, x11, x12] (.inl b :: .inl a :: st) M ↔ ((zIR a ∧ zIR b) ∧ (a ≤ b → uX7_cream R 177 [x0, x1, x2, x3, x4, x5, x6, x7, x8, x9, x10, x11, x12] st M) ∧ (¬ a ≤ b → uX7_cream R 165 [x0, x1, x2, x3, x4, x5, x6, x7, x8, x9, x10, x11, x12] st M)) := Iff.trans (zU_step dX7_cream_162 (Or.inl rfl)) ⟨fun h => ⟨⟨h.1.1, h.1.2.1⟩, h.2⟩, fun h => ⟨⟨h.1.1, h.1.2, by decide⟩, h.2⟩⟩
theorem dX7_cream_165 : decode cX7_cream 165 = .ok (.lload 7, 2) := by decide +kernel
theorem rX7_cream_165 {R : zP} {x0 x1 x2 x3 x4 x5 x6 x8 x9 x10 x11 x12 : Option zV} {st : List zV} {M : zM} {a : Int} : uX7_cream R 165 [x0, x1, x2, x3, x4, x5, x6, some (.inr (.inl a)), x8, x9, x10, x11, x12] st M ↔ uX7_cream R 167 [x0, x1, x2, x3, x4, x5, x6, some (.inr (.inl a)), x8, x9, x10, x11, x12] (.inr (.inl a) :: st) M := zU_step dX7_cream_165 (Or.inl rfl)
theorem dX7_cream_167 : decode cX7_cream 167 = .ok (.aload_n 0, 1) := by decide +kernel
theorem rX7_cream_167 {R : zP} {x1 x2 x3 x4 x5 x6 x7 x8 x9 x10 x11 x12 : Option zV} {st : List zV} {M : zM} {a : Nat} : uX7_cream R 167 [some (.inr (.inr a)), x1, x2, x3, x4, x5, x6, x7, x8, x9, x10, x11, x12] st M ↔ uX7_cream R 168 [some (.inr (.inr a)), x1, x2, x3, x4, x5, x6, x7, x8, x9, x10, x11, x12] (.inr (.inr a) :: st) M := zU_step dX7_cream_167 (Or.inl rfl)
theorem dX7_cream_168 : decode cX7_cream 168 = .ok (.getfield 89, 3) := by decide +kernel
theorem rX7_cream_168 {R : zP} {x0 x1 x2 x3 x4 x5 x6 x7 x8 x9 x10 x11 x12 : Option zV} {st : List zV} {M : zM} {r : Nat} : uX7_cream R 168 [x0, x1, x2, x3, x4, x5, x6, x7, x8, x9, x10, x11, x12] (.inr (.inr r) :: st) M ↔ zgetx fX7 89 r M (fun v => uX7_cream R 171 [x0, x1, x2, x3, x4, x5, x6, x7, x8, x9, x10, x11, x12] (v :: st) M) := zU_step dX7_cream_168 (Or.inl rfl)
theorem dX7_cream_171 : decode cX7_cream 171 = .ok (.iload 9, 2) := by decide +kernel
theorem rX7_cream_171 {R : zP} {x0 x1 x2 x3 x4 x5 x6 x7 x8 x10 x11 x12 : Option zV} {st : List zV} {M : zM} {a : Int} : uX7_cream R 171 [x0, x1, x2, x3, x4, x5, x6, x7, x8, some (.inl a), x10, x11, x12] st M ↔ uX7_cream R 173 [x0, x1, x2, x3, x4, x5, x6, x7, x8, some (.inl a), x10, x11, x12] (.inl a :: st) M := zU_step dX7_cream_171 (Or.inl rfl)
theorem dX7_cream_173 : decode cX7_cream 173 = .ok (.laload, 1) := by decide +kernel
theorem rX7_cream_173 {R : zP} {x0 x1 x2 x3 x4 x5 x6 x7 x8 x9 x10 x11 x12 : Option zV} {st : List zV} {M : zM} {i : Int} {r : Nat} : uX7_cream R 173 [x0, x1, x2, x3, x4, x5, x6, x7, x8, x9, x10, x11, x12] (.inl i :: .inr (.inr r) :: st) M ↔ zread fX7 1 r M i (fun v => uX7_cream R 174 [x0, x1, x2, x3, x4, x5, x6, x7, x8, x9, x10, x11, x12] (.inr (.inl v) :: st) M) := zU_step dX7_cream_173 (Or.inl rfl)
theorem dX7_cream_174 : decode cX7_cream 174 = .ok (.ladd, 1) := by decide +kernel
theorem rX7_cream_174 {R : zP} {x0 x1 x2 x3 x4 x5 x6 x7 x8 x9 x10 x11 x12 : Option zV} {st : List zV} {M : zM} {a b : Int} : uX7_cream R 174 [x0, x1, x2, x3, x4, x5, x6, x7, x8, x9, x10, x11, x12] (.inr (.inl b) :: .inr (.inl a) :: st) M ↔ uX7_cream R 175 [x0, x1, x2, x3, x4, x5, x6, x7, x8, x9, x10, x11, x12] (.inr (.inl (a + b)) :: st) M := zU_step dX7_cream_174 (Or.inl rfl)
theorem dX7_cream_175 : decode cX7_cream 175 = .ok (.lstore 7, 2) := by decide +kernel
theorem rX7_cream_175 {R : zP} {x0 x1 x2 x3 x4 x5 x6 x7 x8 x9 x10 x11 x12 : Option zV} {st : List zV} {M : zM} {a : Int} : uX7_cream R 175 [x0, x1, x2, x3, x4, x5, x6, x7, x8, x9, x10, x11, x12] (.inr (.inl a) :: st) M ↔ uX7_cream R 177 [x0, x1, x2, x3, x4, x5, zkeep x6, some (.inr (.inl a)), none, x9, x10, x11, x12] st M := Iff.trans (zU_step dX7_cream_175 (Or.inl rfl)) ⟨fun h => h.2, fun h => ⟨show 7 + 1 < 13 by decide, h⟩⟩
theorem dX7_cream_177 : decode cX7_cream 177 = .ok (.iinc 9 1, 3) := by decide +kernel
theorem rX7_cream_177 {R : zP} {x0 x1 x2 x3 x4 x5 x6 x7 x8 x10 x11 x12 : Option zV} {st : List zV} {M : zM} {a : Int} : uX7_cream R 177 [x0, x1, x2, x3, x4, x5, x6, x7, x8, some (.inl a), x10, x11, x12] st M ↔ uX7_cream R 180 [x0, x1, x2, x3, x4, x5, x6, x7, zkeep x8, some (.inl (a + (1))), x10, x11, x12] st M := Iff.trans (zU_step dX7_cream_177 (Or.inl rfl)) ⟨fun h => h.2, fun h => ⟨show 9 < 13 by decide, h⟩⟩
theorem dX7_cream_180 : decode cX7_cream 180 = .ok (.goto (-41), 3) := by decide +kernel
theorem rX7_cream_180 {R : zP} {x0 x1 x2 x3 x4 x5 x6 x7 x8 x9 x10 x11 x12 : Option zV} {st : List zV} {M : zM} : uX7_cream R 180 [x0, x1, x2, x3, x4, x5, x6, x7, x8, x9, x10, x11, x12] st M ↔ uX7_cream R 139 [x0, x1, x2, x3, x4, x5, x6, x7, x8, x9, x10, x11, x12] st M := Iff.trans (zU_step dX7_cream_180 (Or.inl rfl)) ⟨fun h => h.2, fun h => ⟨by decide, h⟩⟩
theorem dX7_cream_183 : decode cX7_cream 183 = .ok (.aload_n 0, 1) := by decide +kernel
theorem rX7_cream_183 {R : zP} {x1 x2 x3 x4 x5 x6 x7 x8 x9 x10 x11 x12 : Option zV} {st : List zV} {M : zM} {a : Nat} : uX7_cream R 183 [some (.inr (.inr a)), x1, x2, x3, x4, x5, x6, x7, x8, x9, x10, x11, x12] st M ↔ uX7_cream R 184 [some (.inr (.inr a)), x1, x2, x3, x4, x5, x6, x7, x8, x9, x10, x11, x12] (.inr (.inr a) :: st) M := zU_step dX7_cream_183 (Or.inl rfl)
theorem dX7_cream_184 : decode cX7_cream 184 = .ok (.getfield 72, 3) := by decide +kernel
theorem rX7_cream_184 {R : zP} {x0 x1 x2 x3 x4 x5 x6 x7 x8 x9 x10 x11 x12 : Option zV} {st : List zV} {M : zM} {r : Nat} : uX7_cream R 184 [x0, x1, x2, x3, x4, x5, x6, x7, x8, x9, x10, x11, x12] (.inr (.inr r) :: st) M ↔ zgetx fX7 72 r M (fun v => uX7_cream R 187 [x0, x1, x2, x3, x4, x5, x6, x7, x8, x9, x10, x11, x12] (v :: st) M) := zU_step dX7_cream_184 (Or.inl rfl)
theorem dX7_cream_187 : decode cX7_cream 187 = .ok (.lload 7, 2) := by decide +kernel
theorem rX7_cream_187 {R : zP} {x0 x1 x2 x3 x4 x5 x6 x8 x9 x10 x11 x12 : Option zV} {st : List zV} {M : zM} {a : Int} : uX7_cream R 187 [x0, x1, x2, x3, x4, x5, x6, some (.inr (.inl a)), x8, x9, x10, x11, x12] st M ↔ uX7_cream R 189 [x0, x1, x2, x3, x4, x5, x6, some (.inr (.inl a)), x8, x9, x10, x11, x12] (.inr (.inl a) :: st) M := zU_step dX7_cream_187 (Or.inl rfl)
theorem dX7_cream_189 : decode cX7_cream 189 = .ok (.lload 5, 2) := by decide +kernel
theorem rX7_cream_189 {R : zP} {x0 x1 x2 x3 x4 x6 x7 x8 x9 x10 x11 x12 : Option zV} {st : List zV} {M : zM} {a : Int} : uX7_cream R 189 [x0, x1, x2, x3, x4, some (.inr (.inl a)), x6, x7, x8, x9, x10, x11, x12] st M ↔ uX7_cream R 191 [x0, x1, x2, x3, x4, some (.inr (.inl a)), x6, x7, x8, x9, x10, x11, x12] (.inr (.inl a) :: st) M := zU_step dX7_cream_189 (Or.inl rfl)
theorem dX7_cream_191 : decode cX7_cream 191 = .ok (.invokevirtual 210, 3) := by decide +kernel
theorem rX7_cream_191 {R : zP} {x0 x1 x2 x3 x4 x5 x6 x7 x8 x9 x10 x11 x12 : Option zV} {st : List zV} {M : zM} {a0 a1 a2 : zV} : uX7_cream R 191 [x0, x1, x2, x3, x4, x5, x6, x7, x8, x9, x10, x11, x12] (a2 :: a1 :: a0 :: st) M ↔ (st.length ≤ 4 ∧ zcn (zv 0 tX0_settle) [a0, a1, a2] M (fun M => uX7_cream R 194 [x0, x1, x2, x3, x4, x5, x6, x7, x8, x9, x10, x11, x12] st M)) := Iff.trans (zU_step dX7_cream_191 (Or.inl rfl)) ⟨fun h => ⟨h.2.1, zcn_of h.2.2⟩, fun h => ⟨rfl, h.1, zcn_to h.2⟩⟩
theorem dX7_cream_194 : decode cX7_cream 194 = .ok (.aload_n 0, 1) := by decide +kernel
theorem rX7_cream_194 {R : zP} {x1 x2 x3 x4 x5 x6 x7 x8 x9 x10 x11 x12 : Option zV} {st : List zV} {M : zM} {a : Nat} : uX7_cream R 194 [some (.inr (.inr a)), x1, x2, x3, x4, x5, x6, x7, x8, x9, x10, x11, x12] st M ↔ uX7_cream R 195 [some (.inr (.inr a)), x1, x2, x3, x4, x5, x6, x7, x8, x9, x10, x11, x12] (.inr (.inr a) :: st) M := zU_step dX7_cream_194 (Or.inl rfl)
theorem dX7_cream_195 : decode cX7_cream 195 = .ok (.getfield 72, 3) := by decide +kernel
theorem rX7_cream_195 {R : zP} {x0 x1 x2 x3 x4 x5 x6 x7 x8 x9 x10 x11 x12 : Option zV} {st : List zV} {M : zM} {r : Nat} : uX7_cream R 195 [x0, x1, x2, x3, x4, x5, x6, x7, x8, x9, x10, x11, x12] (.inr (.inr r) :: st) M ↔ zgetx fX7 72 r M (fun v => uX7_cream R 198 [x0, x1, x2, x3, x4, x5, x6, x7, x8, x9, x10, x11, x12] (v :: st) M) := zU_step dX7_cream_195 (Or.inl rfl)
theorem dX7_cream_198 : decode cX7_cream 198 = .ok (.iload 4, 2) := by decide +kernel
theorem rX7_cream_198 {R : zP} {x0 x1 x2 x3 x5 x6 x7 x8 x9 x10 x11 x12 : Option zV} {st : List zV} {M : zM} {a : Int} : uX7_cream R 198 [x0, x1, x2, x3, some (.inl a), x5, x6, x7, x8, x9, x10, x11, x12] st M ↔ uX7_cream R 200 [x0, x1, x2, x3, some (.inl a), x5, x6, x7, x8, x9, x10, x11, x12] (.inl a :: st) M := zU_step dX7_cream_198 (Or.inl rfl)
theorem dX7_cream_200 : decode cX7_cream 200 = .ok (.invokevirtual 214, 3) := by decide +kernel
theorem rX7_cream_200 {R : zP} {x0 x1 x2 x3 x4 x5 x6 x7 x8 x9 x10 x11 x12 : Option zV} {st : List zV} {M : zM} {a0 a1 : zV} : uX7_cream R 200 [x0, x1, x2, x3, x4, x5, x6, x7, x8, x9, x10, x11, x12] (a1 :: a0 :: st) M ↔ (st.length ≤ 4 ∧ zcv (zv 0 tX0_tell) [a0, a1] M (fun v M => uX7_cream R 203 [x0, x1, x2, x3, x4, x5, x6, x7, x8, x9, x10, x11, x12] (v :: st) M)) := Iff.trans (zU_step dX7_cream_200 (Or.inl rfl)) ⟨fun h => ⟨h.2.1, zcv_of h.2.2⟩, fun h => ⟨rfl, h.1, zcv_to h.2⟩⟩
theorem dX7_cream_203 : decode cX7_cream 203 = .ok (.lreturn, 1) := by decide +kernel
theorem rX7_cream_203 {R : zP} {x0 x1 x2 x3 x4 x5 x6 x7 x8 x9 x10 x11 x12 : Option zV} {M : zM} {a : Int} : uX7_cream R 203 [x0, x1, x2, x3, x4, x5, x6, x7, x8, x9, x10, x11, x12] [.inr (.inl a)] M ↔ R (some (.inr (.inl a))) M := Iff.trans (zU_step dX7_cream_203 (Or.inl rfl)) ⟨fun h => h.2.2, fun h => ⟨rfl, rfl, h⟩⟩
theorem eX7_cream {R : zP} {M : zM} {a0 : Nat} {p0 : Int} {p1 : Int} {p2 : Int} {p3 : Int} : tX7_cream [.inr (.inr a0), .inl p0, .inl p1, .inl p2, .inl p3] M R ↔ uX7_cream R 0 [some (.inr (.inr a0)), some (.inl p0), some (.inl p1), some (.inl p2), some (.inl p3), none, none, none, none, none, none, none, none] [] M := ⟨fun h => h.2, fun h => ⟨show 5 ≤ 13 by decide, h⟩⟩
def uX7_turn (R : zP) : zK := zU fX7 vX7_turn cX7_turn R
theorem dX7_turn_0 : decode cX7_turn 0 = .ok (.ldc_w 406, 3) := by decide +kernel
theorem rX7_turn_0 {R : zP} {x0 : Option zV} {st : List zV} {M : zM} : uX7_turn R 0 [x0] st M ↔ uX7_turn R 3 [x0] (.inl (1103515245) :: st) M := zU_step dX7_turn_0 (Or.inl rfl)
theorem dX7_turn_3 : decode cX7_turn 3 = .ok (.iload_n 0, 1) := by decide +kernel
theorem rX7_turn_3 {R : zP} {st : List zV} {M : zM} {a : Int} : uX7_turn R 3 [some (.inl a)] st M ↔ uX7_turn R 4 [some (.inl a)] (.inl a :: st) M := zU_step dX7_turn_3 (Or.inl rfl)
theorem dX7_turn_4 : decode cX7_turn 4 = .ok (.imul, 1) := by decide +kernel
theorem rX7_turn_4 {R : zP} {x0 : Option zV} {st : List zV} {M : zM} {a b : Int} : uX7_turn R 4 [x0] (.inl b :: .inl a :: st) M ↔ uX7_turn R 5 [x0] (.inl (a * b) :: st) M := zU_step dX7_turn_4 (Or.inl rfl)
theorem dX7_turn_5 : decode cX7_turn 5 = .ok (.sipush 12345, 3) := by decide +kernel
theorem rX7_turn_5 {R : zP} {x0 : Option zV} {st : List zV} {M : zM} : uX7_turn R 5 [x0] st M ↔ uX7_turn R 8 [x0] (.inl (12345) :: st) M := Iff.trans (zU_step dX7_turn_5 (Or.inl rfl)) ⟨fun h => h.2, fun h => ⟨by decide, h⟩⟩
theorem dX7_turn_8 : decode cX7_turn 8 = .ok (.iadd, 1) := by decide +kernel
theorem rX7_turn_8 {R : zP} {x0 : Option zV} {st : List zV} {M : zM} {a b : Int} : uX7_turn R 8 [x0] (.inl b :: .inl a :: st) M ↔ uX7_turn R 9 [x0] (.inl (a + b) :: st) M := zU_step dX7_turn_8 (Or.inl rfl)
theorem dX7_turn_9 : decode cX7_turn 9 = .ok (.ireturn, 1) := by decide +kernel
theorem rX7_turn_9 {R : zP} {x0 : Option zV} {M : zM} {a : Int} : uX7_turn R 9 [x0] [.inl a] M ↔ R (some (.inl a)) M := Iff.trans (zU_step dX7_turn_9 (Or.inl rfl)) ⟨fun h => h.2.2, fun h => ⟨rfl, Or.inl rfl, h⟩⟩
theorem eX7_turn {R : zP} {M : zM} {p0 : Int} : tX7_turn [.inl p0] M R ↔ uX7_turn R 0 [some (.inl p0)] [] M := ⟨fun h => h.2, fun h => ⟨show 1 ≤ 1 by decide, h⟩⟩
def uX7_lot (R : zP) : zK := zU fX7 vX7_lot cX7_lot R
theorem dX7_lot_0 : decode cX7_lot 0 = .ok (.iload_n 1, 1) := by decide +kernel
theorem rX7_lot_0 {R : zP} {x0 : Option zV} {st : List zV} {M : zM} {a : Int} : uX7_lot R 0 [x0, some (.inl a)] st M ↔ uX7_lot R 1 [x0, some (.inl a)] (.inl a :: st) M := zU_step dX7_lot_0 (Or.inl rfl)
theorem dX7_lot_1 : decode cX7_lot 1 = .ok (.ifCond .le 12, 3) := by decide +kernel
theorem rX7_lot_1 {R : zP} {x0 x1 : Option zV} {st : List zV} {M : zM} {a : Int} : uX7_lot R 1 [x0, x1] (.inl a :: st) M ↔ (zIR a ∧ (a ≤ 0 → uX7_lot R 13 [x0, x1] st M) ∧ (¬ a ≤ 0 → uX7_lot R 4 [x0, x1] st M)) := Iff.trans (zU_step dX7_lot_1 (Or.inl rfl)) ⟨fun h => ⟨h.1.1, h.2⟩, fun h => ⟨⟨h.1, by decide⟩, h.2⟩⟩
theorem dX7_lot_4 : decode cX7_lot 4 = .ok (.iload_n 0, 1) := by decide +kernel
theorem rX7_lot_4 {R : zP} {x1 : Option zV} {st : List zV} {M : zM} {a : Int} : uX7_lot R 4 [some (.inl a), x1] st M ↔ uX7_lot R 5 [some (.inl a), x1] (.inl a :: st) M := zU_step dX7_lot_4 (Or.inl rfl)
theorem dX7_lot_5 : decode cX7_lot 5 = .ok (.bipush 16, 2) := by decide +kernel
theorem rX7_lot_5 {R : zP} {x0 x1 : Option zV} {st : List zV} {M : zM} : uX7_lot R 5 [x0, x1] st M ↔ uX7_lot R 7 [x0, x1] (.inl (16) :: st) M := Iff.trans (zU_step dX7_lot_5 (Or.inl rfl)) ⟨fun h => h.2, fun h => ⟨by decide, h⟩⟩
theorem dX7_lot_7 : decode cX7_lot 7 = .ok (.iushr, 1) := by decide +kernel
theorem rX7_lot_7 {R : zP} {x0 x1 : Option zV} {st : List zV} {M : zM} {a b : Int} : uX7_lot R 7 [x0, x1] (.inl b :: .inl a :: st) M ↔ uX7_lot R 8 [x0, x1] (.inl (zushr a b) :: st) M := zU_step dX7_lot_7 (Or.inl rfl)
theorem dX7_lot_8 : decode cX7_lot 8 = .ok (.iload_n 1, 1) := by decide +kernel
theorem rX7_lot_8 {R : zP} {x0 : Option zV} {st : List zV} {M : zM} {a : Int} : uX7_lot R 8 [x0, some (.inl a)] st M ↔ uX7_lot R 9 [x0, some (.inl a)] (.inl a :: st) M := zU_step dX7_lot_8 (Or.inl rfl)
theorem dX7_lot_9 : decode cX7_lot 9 = .ok (.irem, 1) := by decide +kernel
theorem rX7_lot_9 {R : zP} {x0 x1 : Option zV} {st : List zV} {M : zM} {a b : Int} : uX7_lot R 9 [x0, x1] (.inl b :: .inl a :: st) M ↔ ((zIR a ∧ zIR b ∧ b ≠ 0) ∧ uX7_lot R 10 [x0, x1] (.inl (a.tmod b) :: st) M) := zU_step dX7_lot_9 (Or.inl rfl)
theorem dX7_lot_10 : decode cX7_lot 10 = .ok (.goto 4, 3) := by decide +kernel
theorem rX7_lot_10 {R : zP} {x0 x1 : Option zV} {st : List zV} {M : zM} : uX7_lot R 10 [x0, x1] st M ↔ uX7_lot R 14 [x0, x1] st M := Iff.trans (zU_step dX7_lot_10 (Or.inl rfl)) ⟨fun h => h.2, fun h => ⟨by decide, h⟩⟩
theorem dX7_lot_13 : decode cX7_lot 13 = .ok (.iconst 0, 1) := by decide +kernel
theorem rX7_lot_13 {R : zP} {x0 x1 : Option zV} {st : List zV} {M : zM} : uX7_lot R 13 [x0, x1] st M ↔ uX7_lot R 14 [x0, x1] (.inl (0) :: st) M := zU_step dX7_lot_13 (Or.inl rfl)
theorem dX7_lot_14 : decode cX7_lot 14 = .ok (.ireturn, 1) := by decide +kernel
theorem rX7_lot_14 {R : zP} {x0 x1 : Option zV} {M : zM} {a : Int} : uX7_lot R 14 [x0, x1] [.inl a] M ↔ R (some (.inl a)) M := Iff.trans (zU_step dX7_lot_14 (Or.inl rfl)) ⟨fun h => h.2.2, fun h => ⟨rfl, Or.inl rfl, h⟩⟩
theorem eX7_lot {R : zP} {M : zM} {p0 : Int} {p1 : Int} : tX7_lot [.inl p0, .inl p1] M R ↔ uX7_lot R 0 [some (.inl p0), some (.inl p1)] [] M := ⟨fun h => h.2, fun h => ⟨show 2 ≤ 2 by decide, h⟩⟩
def uX7_drawFeeds (R : zP) : zK := zU fX7 vX7_drawFeeds cX7_drawFeeds R
theorem dX7_drawFeeds_0 : decode cX7_drawFeeds 0 = .ok (.aload_n 0, 1) := by decide +kernel
theorem rX7_drawFeeds_0 {R : zP} {x1 x2 x3 x4 x5 x6 : Option zV} {st : List zV} {M : zM} {a : Nat} : uX7_drawFeeds R 0 [some (.inr (.inr a)), x1, x2, x3, x4, x5, x6] st M ↔ uX7_drawFeeds R 1 [some (.inr (.inr a)), x1, x2, x3, x4, x5, x6] (.inr (.inr a) :: st) M := zU_step dX7_drawFeeds_0 (Or.inl rfl)
theorem dX7_drawFeeds_1 : decode cX7_drawFeeds 1 = .ok (.getfield 32, 3) := by decide +kernel
theorem rX7_drawFeeds_1 {R : zP} {x0 x1 x2 x3 x4 x5 x6 : Option zV} {st : List zV} {M : zM} {r : Nat} : uX7_drawFeeds R 1 [x0, x1, x2, x3, x4, x5, x6] (.inr (.inr r) :: st) M ↔ zgetx fX7 32 r M (fun v => uX7_drawFeeds R 4 [x0, x1, x2, x3, x4, x5, x6] (v :: st) M) := zU_step dX7_drawFeeds_1 (Or.inl rfl)
theorem dX7_drawFeeds_4 : decode cX7_drawFeeds 4 = .ok (.iconst 0, 1) := by decide +kernel
theorem rX7_drawFeeds_4 {R : zP} {x0 x1 x2 x3 x4 x5 x6 : Option zV} {st : List zV} {M : zM} : uX7_drawFeeds R 4 [x0, x1, x2, x3, x4, x5, x6] st M ↔ uX7_drawFeeds R 5 [x0, x1, x2, x3, x4, x5, x6] (.inl (0) :: st) M := zU_step dX7_drawFeeds_4 (Or.inl rfl)
theorem dX7_drawFeeds_5 : decode cX7_drawFeeds 5 = .ok (.putfield 234, 3) := by decide +kernel
theorem rX7_drawFeeds_5 {R : zP} {x0 x1 x2 x3 x4 x5 x6 : Option zV} {st : List zV} {M : zM} {r : Nat} {v : zV} : uX7_drawFeeds R 5 [x0, x1, x2, x3, x4, x5, x6] (v :: .inr (.inr r) :: st) M ↔ zputx fX7 234 r M v (fun M => uX7_drawFeeds R 8 [x0, x1, x2, x3, x4, x5, x6] st M) := zU_step dX7_drawFeeds_5 (Or.inl rfl)
theorem dX7_drawFeeds_8 : decode cX7_drawFeeds 8 = .ok (.aload_n 0, 1) := by decide +kernel
theorem rX7_drawFeeds_8 {R : zP} {x1 x2 x3 x4 x5 x6 : Option zV} {st : List zV} {M : zM} {a : Nat} : uX7_drawFeeds R 8 [some (.inr (.inr a)), x1, x2, x3, x4, x5, x6] st M ↔ uX7_drawFeeds R 9 [some (.inr (.inr a)), x1, x2, x3, x4, x5, x6] (.inr (.inr a) :: st) M := zU_step dX7_drawFeeds_8 (Or.inl rfl)
theorem dX7_drawFeeds_9 : decode cX7_drawFeeds 9 = .ok (.getfield 14, 3) := by decide +kernel
theorem rX7_drawFeeds_9 {R : zP} {x0 x1 x2 x3 x4 x5 x6 : Option zV} {st : List zV} {M : zM} {r : Nat} : uX7_drawFeeds R 9 [x0, x1, x2, x3, x4, x5, x6] (.inr (.inr r) :: st) M ↔ zgetx fX7 14 r M (fun v => uX7_drawFeeds R 12 [x0, x1, x2, x3, x4, x5, x6] (v :: st) M) := zU_step dX7_drawFeeds_9 (Or.inl rfl)
theorem dX7_drawFeeds_12 : decode cX7_drawFeeds 12 = .ok (.getfield 116, 3) := by decide +kernel
theorem rX7_drawFeeds_12 {R : zP} {x0 x1 x2 x3 x4 x5 x6 : Option zV} {st : List zV} {M : zM} {r : Nat} : uX7_drawFeeds R 12 [x0, x1, x2, x3, x4, x5, x6] (.inr (.inr r) :: st) M ↔ zgetx fX7 116 r M (fun v => uX7_drawFeeds R 15 [x0, x1, x2, x3, x4, x5, x6] (v :: st) M) := zU_step dX7_drawFeeds_12 (Or.inl rfl)
theorem dX7_drawFeeds_15 : decode cX7_drawFeeds 15 = .ok (.ifCond .eq 13, 3) := by decide +kernel
theorem rX7_drawFeeds_15 {R : zP} {x0 x1 x2 x3 x4 x5 x6 : Option zV} {st : List zV} {M : zM} {a : Int} : uX7_drawFeeds R 15 [x0, x1, x2, x3, x4, x5, x6] (.inl a :: st) M ↔ (zIR a ∧ (a = 0 → uX7_drawFeeds R 28 [x0, x1, x2, x3, x4, x5, x6] st M) ∧ (¬ a = 0 → uX7_drawFeeds R 18 [x0, x1, x2, x3, x4, x5, x6] st M)) := Iff.trans (zU_step dX7_drawFeeds_15 (Or.inl rfl)) ⟨fun h => ⟨h.1.1, h.2⟩, fun h => ⟨⟨h.1, by decide⟩, h.2⟩⟩
theorem dX7_drawFeeds_18 : decode cX7_drawFeeds 18 = .ok (.aload_n 0, 1) := by decide +kernel
theorem rX7_drawFeeds_18 {R : zP} {x1 x2 x3 x4 x5 x6 : Option zV} {st : List zV} {M : zM} {a : Nat} : uX7_drawFeeds R 18 [some (.inr (.inr a)), x1, x2, x3, x4, x5, x6] st M ↔ uX7_drawFeeds R 19 [some (.inr (.inr a)), x1, x2, x3, x4, x5, x6] (.inr (.inr a) :: st) M := zU_step dX7_drawFeeds_18 (Or.inl rfl)
theorem dX7_drawFeeds_19 : decode cX7_drawFeeds 19 = .ok (.getfield 22, 3) := by decide +kernel
theorem rX7_drawFeeds_19 {R : zP} {x0 x1 x2 x3 x4 x5 x6 : Option zV} {st : List zV} {M : zM} {r : Nat} : uX7_drawFeeds R 19 [x0, x1, x2, x3, x4, x5, x6] (.inr (.inr r) :: st) M ↔ zgetx fX7 22 r M (fun v => uX7_drawFeeds R 22 [x0, x1, x2, x3, x4, x5, x6] (v :: st) M) := zU_step dX7_drawFeeds_19 (Or.inl rfl)
theorem dX7_drawFeeds_22 : decode cX7_drawFeeds 22 = .ok (.getfield 116, 3) := by decide +kernel
theorem rX7_drawFeeds_22 {R : zP} {x0 x1 x2 x3 x4 x5 x6 : Option zV} {st : List zV} {M : zM} {r : Nat} : uX7_drawFeeds R 22 [x0, x1, x2, x3, x4, x5, x6] (.inr (.inr r) :: st) M ↔ zgetx fX7 116 r M (fun v => uX7_drawFeeds R 25 [x0, x1, x2, x3, x4, x5, x6] (v :: st) M) := zU_step dX7_drawFeeds_22 (Or.inl rfl)
theorem dX7_drawFeeds_25 : decode cX7_drawFeeds 25 = .ok (.ifCond .ne 4, 3) := by decide +kernel
theorem rX7_drawFeeds_25 {R : zP} {x0 x1 x2 x3 x4 x5 x6 : Option zV} {st : List zV} {M : zM} {a : Int} : uX7_drawFeeds R 25 [x0, x1, x2, x3, x4, x5, x6] (.inl a :: st) M ↔ (zIR a ∧ (a ≠ 0 → uX7_drawFeeds R 29 [x0, x1, x2, x3, x4, x5, x6] st M) ∧ (¬ a ≠ 0 → uX7_drawFeeds R 28 [x0, x1, x2, x3, x4, x5, x6] st M)) := Iff.trans (zU_step dX7_drawFeeds_25 (Or.inl rfl)) ⟨fun h => ⟨h.1.1, h.2⟩, fun h => ⟨⟨h.1, by decide⟩, h.2⟩⟩
theorem dX7_drawFeeds_28 : decode cX7_drawFeeds 28 = .ok (.return_, 1) := by decide +kernel
theorem rX7_drawFeeds_28 {R : zP} {x0 x1 x2 x3 x4 x5 x6 : Option zV} {M : zM} : uX7_drawFeeds R 28 [x0, x1, x2, x3, x4, x5, x6] [] M ↔ R none M := Iff.trans (zU_step dX7_drawFeeds_28 (Or.inl rfl)) ⟨fun h => h.2.2, fun h => ⟨rfl, rfl, h⟩⟩
theorem dX7_drawFeeds_29 : decode cX7_drawFeeds 29 = .ok (.iload_n 1, 1) := by decide +kernel
theorem rX7_drawFeeds_29 {R : zP} {x0 x2 x3 x4 x5 x6 : Option zV} {st : List zV} {M : zM} {a : Int} : uX7_drawFeeds R 29 [x0, some (.inl a), x2, x3, x4, x5, x6] st M ↔ uX7_drawFeeds R 30 [x0, some (.inl a), x2, x3, x4, x5, x6] (.inl a :: st) M := zU_step dX7_drawFeeds_29 (Or.inl rfl)
theorem dX7_drawFeeds_30 : decode cX7_drawFeeds 30 = .ok (.istore_n 3, 1) := by decide +kernel
theorem rX7_drawFeeds_30 {R : zP} {x0 x1 x2 x3 x4 x5 x6 : Option zV} {st : List zV} {M : zM} {a : Int} : uX7_drawFeeds R 30 [x0, x1, x2, x3, x4, x5, x6] (.inl a :: st) M ↔ uX7_drawFeeds R 31 [x0, x1, zkeep x2, some (.inl a), x4, x5, x6] st M := Iff.trans (zU_step dX7_drawFeeds_30 (Or.inl rfl)) ⟨fun h => h.2, fun h => ⟨show 3 < 7 by decide, h⟩⟩
theorem dX7_drawFeeds_31 : decode cX7_drawFeeds 31 = .ok (.iconst 0, 1) := by decide +kernel
theorem rX7_drawFeeds_31 {R : zP} {x0 x1 x2 x3 x4 x5 x6 : Option zV} {st : List zV} {M : zM} : uX7_drawFeeds R 31 [x0, x1, x2, x3, x4, x5, x6] st M ↔ uX7_drawFeeds R 32 [x0, x1, x2, x3, x4, x5, x6] (.inl (0) :: st) M := zU_step dX7_drawFeeds_31 (Or.inl rfl)
theorem dX7_drawFeeds_32 : decode cX7_drawFeeds 32 = .ok (.istore 4, 2) := by decide +kernel
theorem rX7_drawFeeds_32 {R : zP} {x0 x1 x2 x3 x4 x5 x6 : Option zV} {st : List zV} {M : zM} {a : Int} : uX7_drawFeeds R 32 [x0, x1, x2, x3, x4, x5, x6] (.inl a :: st) M ↔ uX7_drawFeeds R 34 [x0, x1, x2, zkeep x3, some (.inl a), x5, x6] st M := Iff.trans (zU_step dX7_drawFeeds_32 (Or.inl rfl)) ⟨fun h => h.2, fun h => ⟨show 4 < 7 by decide, h⟩⟩
theorem dX7_drawFeeds_34 : decode cX7_drawFeeds 34 = .ok (.iload 4, 2) := by decide +kernel
theorem rX7_drawFeeds_34 {R : zP} {x0 x1 x2 x3 x5 x6 : Option zV} {st : List zV} {M : zM} {a : Int} : uX7_drawFeeds R 34 [x0, x1, x2, x3, some (.inl a), x5, x6] st M ↔ uX7_drawFeeds R 36 [x0, x1, x2, x3, some (.inl a), x5, x6] (.inl a :: st) M := zU_step dX7_drawFeeds_34 (Or.inl rfl)
theorem dX7_drawFeeds_36 : decode cX7_drawFeeds 36 = .ok (.iload_n 2, 1) := by decide +kernel
theorem rX7_drawFeeds_36 {R : zP} {x0 x1 x3 x4 x5 x6 : Option zV} {st : List zV} {M : zM} {a : Int} : uX7_drawFeeds R 36 [x0, x1, some (.inl a), x3, x4, x5, x6] st M ↔ uX7_drawFeeds R 37 [x0, x1, some (.inl a), x3, x4, x5, x6] (.inl a :: st) M := zU_step dX7_drawFeeds_36 (Or.inl rfl)
theorem dX7_drawFeeds_37 : decode cX7_drawFeeds 37 = .ok (.if_icmp .ge 68, 3) := by decide +kernel
theorem rX7_drawFeeds_37 {R : zP} {x0 x1 x2 x3 x4 x5 x6 : Option zV} {st : List zV} {M : zM} {a b : Int} : uX7_drawFeeds R 37 [x0, x1, x2, x3, x4, x5, x6] (.inl b :: .inl a :: st) M ↔ ((zIR a ∧ zIR b) ∧ (b ≤ a → uX7_drawFeeds R 105 [x0, x1, x2, x3, x4, x5, x6] st M) ∧ (¬ b ≤ a → uX7_drawFeeds R 40 [x0, x1, x2, x3, x4, x5, x6] st M)) := Iff.trans (zU_step dX7_drawFeeds_37 (Or.inl rfl)) ⟨fun h => ⟨⟨h.1.1, h.1.2.1⟩, h.2⟩, fun h => ⟨⟨h.1.1, h.1.2, by decide⟩, h.2⟩⟩
theorem dX7_drawFeeds_40 : decode cX7_drawFeeds 40 = .ok (.iload_n 3, 1) := by decide +kernel
theorem rX7_drawFeeds_40 {R : zP} {x0 x1 x2 x4 x5 x6 : Option zV} {st : List zV} {M : zM} {a : Int} : uX7_drawFeeds R 40 [x0, x1, x2, some (.inl a), x4, x5, x6] st M ↔ uX7_drawFeeds R 41 [x0, x1, x2, some (.inl a), x4, x5, x6] (.inl a :: st) M := zU_step dX7_drawFeeds_40 (Or.inl rfl)
theorem dX7_drawFeeds_41 : decode cX7_drawFeeds 41 = .ok (.invokestatic 400, 3) := by decide +kernel
theorem rX7_drawFeeds_41 {R : zP} {x0 x1 x2 x3 x4 x5 x6 : Option zV} {st : List zV} {M : zM} {a0 : zV} : uX7_drawFeeds R 41 [x0, x1, x2, x3, x4, x5, x6] (a0 :: st) M ↔ (st.length ≤ 4 ∧ zcv tX7_turn [a0] M (fun v M => uX7_drawFeeds R 44 [x0, x1, x2, x3, x4, x5, x6] (v :: st) M)) := Iff.trans (zU_step dX7_drawFeeds_41 (Or.inl rfl)) ⟨fun h => ⟨h.2.1, zcv_of h.2.2⟩, fun h => ⟨rfl, h.1, zcv_to h.2⟩⟩
theorem dX7_drawFeeds_44 : decode cX7_drawFeeds 44 = .ok (.istore_n 3, 1) := by decide +kernel
theorem rX7_drawFeeds_44 {R : zP} {x0 x1 x2 x3 x4 x5 x6 : Option zV} {st : List zV} {M : zM} {a : Int} : uX7_drawFeeds R 44 [x0, x1, x2, x3, x4, x5, x6] (.inl a :: st) M ↔ uX7_drawFeeds R 45 [x0, x1, zkeep x2, some (.inl a), x4, x5, x6] st M := Iff.trans (zU_step dX7_drawFeeds_44 (Or.inl rfl)) ⟨fun h => h.2, fun h => ⟨show 3 < 7 by decide, h⟩⟩
theorem dX7_drawFeeds_45 : decode cX7_drawFeeds 45 = .ok (.iload_n 3, 1) := by decide +kernel
theorem rX7_drawFeeds_45 {R : zP} {x0 x1 x2 x4 x5 x6 : Option zV} {st : List zV} {M : zM} {a : Int} : uX7_drawFeeds R 45 [x0, x1, x2, some (.inl a), x4, x5, x6] st M ↔ uX7_drawFeeds R 46 [x0, x1, x2, some (.inl a), x4, x5, x6] (.inl a :: st) M := zU_step dX7_drawFeeds_45 (Or.inl rfl)
theorem dX7_drawFeeds_46 : decode cX7_drawFeeds 46 = .ok (.bipush 20, 2) := by decide +kernel
theorem rX7_drawFeeds_46 {R : zP} {x0 x1 x2 x3 x4 x5 x6 : Option zV} {st : List zV} {M : zM} : uX7_drawFeeds R 46 [x0, x1, x2, x3, x4, x5, x6] st M ↔ uX7_drawFeeds R 48 [x0, x1, x2, x3, x4, x5, x6] (.inl (20) :: st) M := Iff.trans (zU_step dX7_drawFeeds_46 (Or.inl rfl)) ⟨fun h => h.2, fun h => ⟨by decide, h⟩⟩
theorem dX7_drawFeeds_48 : decode cX7_drawFeeds 48 = .ok (.invokestatic 403, 3) := by decide +kernel
theorem rX7_drawFeeds_48 {R : zP} {x0 x1 x2 x3 x4 x5 x6 : Option zV} {st : List zV} {M : zM} {a0 a1 : zV} : uX7_drawFeeds R 48 [x0, x1, x2, x3, x4, x5, x6] (a1 :: a0 :: st) M ↔ (st.length ≤ 4 ∧ zcv tX7_lot [a0, a1] M (fun v M => uX7_drawFeeds R 51 [x0, x1, x2, x3, x4, x5, x6] (v :: st) M)) := Iff.trans (zU_step dX7_drawFeeds_48 (Or.inl rfl)) ⟨fun h => ⟨h.2.1, zcv_of h.2.2⟩, fun h => ⟨rfl, h.1, zcv_to h.2⟩⟩
theorem dX7_drawFeeds_51 : decode cX7_drawFeeds 51 = .ok (.istore 5, 2) := by decide +kernel
theorem rX7_drawFeeds_51 {R : zP} {x0 x1 x2 x3 x4 x5 x6 : Option zV} {st : List zV} {M : zM} {a : Int} : uX7_drawFeeds R 51 [x0, x1, x2, x3, x4, x5, x6] (.inl a :: st) M ↔ uX7_drawFeeds R 53 [x0, x1, x2, x3, zkeep x4, some (.inl a), x6] st M := Iff.trans (zU_step dX7_drawFeeds_51 (Or.inl rfl)) ⟨fun h => h.2, fun h => ⟨show 5 < 7 by decide, h⟩⟩
theorem dX7_drawFeeds_53 : decode cX7_drawFeeds 53 = .ok (.iload_n 3, 1) := by decide +kernel
theorem rX7_drawFeeds_53 {R : zP} {x0 x1 x2 x4 x5 x6 : Option zV} {st : List zV} {M : zM} {a : Int} : uX7_drawFeeds R 53 [x0, x1, x2, some (.inl a), x4, x5, x6] st M ↔ uX7_drawFeeds R 54 [x0, x1, x2, some (.inl a), x4, x5, x6] (.inl a :: st) M := zU_step dX7_drawFeeds_53 (Or.inl rfl)
theorem dX7_drawFeeds_54 : decode cX7_drawFeeds 54 = .ok (.invokestatic 400, 3) := by decide +kernel
theorem rX7_drawFeeds_54 {R : zP} {x0 x1 x2 x3 x4 x5 x6 : Option zV} {st : List zV} {M : zM} {a0 : zV} : uX7_drawFeeds R 54 [x0, x1, x2, x3, x4, x5, x6] (a0 :: st) M ↔ (st.length ≤ 4 ∧ zcv tX7_turn [a0] M (fun v M => uX7_drawFeeds R 57 [x0, x1, x2, x3, x4, x5, x6] (v :: st) M)) := Iff.trans (zU_step dX7_drawFeeds_54 (Or.inl rfl)) ⟨fun h => ⟨h.2.1, zcv_of h.2.2⟩, fun h => ⟨rfl, h.1, zcv_to h.2⟩⟩
theorem dX7_drawFeeds_57 : decode cX7_drawFeeds 57 = .ok (.istore_n 3, 1) := by decide +kernel
theorem rX7_drawFeeds_57 {R : zP} {x0 x1 x2 x3 x4 x5 x6 : Option zV} {st : List zV} {M : zM} {a : Int} : uX7_drawFeeds R 57 [x0, x1, x2, x3, x4, x5, x6] (.inl a :: st) M ↔ uX7_drawFeeds R 58 [x0, x1, zkeep x2, some (.inl a), x4, x5, x6] st M := Iff.trans (zU_step dX7_drawFeeds_57 (Or.inl rfl)) ⟨fun h => h.2, fun h => ⟨show 3 < 7 by decide, h⟩⟩
theorem dX7_drawFeeds_58 : decode cX7_drawFeeds 58 = .ok (.iload_n 3, 1) := by decide +kernel
theorem rX7_drawFeeds_58 {R : zP} {x0 x1 x2 x4 x5 x6 : Option zV} {st : List zV} {M : zM} {a : Int} : uX7_drawFeeds R 58 [x0, x1, x2, some (.inl a), x4, x5, x6] st M ↔ uX7_drawFeeds R 59 [x0, x1, x2, some (.inl a), x4, x5, x6] (.inl a :: st) M := zU_step dX7_drawFeeds_58 (Or.inl rfl)
theorem dX7_drawFeeds_59 : decode cX7_drawFeeds 59 = .ok (.aload_n 0, 1) := by decide +kernel
theorem rX7_drawFeeds_59 {R : zP} {x1 x2 x3 x4 x5 x6 : Option zV} {st : List zV} {M : zM} {a : Nat} : uX7_drawFeeds R 59 [some (.inr (.inr a)), x1, x2, x3, x4, x5, x6] st M ↔ uX7_drawFeeds R 60 [some (.inr (.inr a)), x1, x2, x3, x4, x5, x6] (.inr (.inr a) :: st) M := zU_step dX7_drawFeeds_59 (Or.inl rfl)
theorem dX7_drawFeeds_60 : decode cX7_drawFeeds 60 = .ok (.getfield 14, 3) := by decide +kernel
theorem rX7_drawFeeds_60 {R : zP} {x0 x1 x2 x3 x4 x5 x6 : Option zV} {st : List zV} {M : zM} {r : Nat} : uX7_drawFeeds R 60 [x0, x1, x2, x3, x4, x5, x6] (.inr (.inr r) :: st) M ↔ zgetx fX7 14 r M (fun v => uX7_drawFeeds R 63 [x0, x1, x2, x3, x4, x5, x6] (v :: st) M) := zU_step dX7_drawFeeds_60 (Or.inl rfl)
theorem dX7_drawFeeds_63 : decode cX7_drawFeeds 63 = .ok (.getfield 116, 3) := by decide +kernel
theorem rX7_drawFeeds_63 {R : zP} {x0 x1 x2 x3 x4 x5 x6 : Option zV} {st : List zV} {M : zM} {r : Nat} : uX7_drawFeeds R 63 [x0, x1, x2, x3, x4, x5, x6] (.inr (.inr r) :: st) M ↔ zgetx fX7 116 r M (fun v => uX7_drawFeeds R 66 [x0, x1, x2, x3, x4, x5, x6] (v :: st) M) := zU_step dX7_drawFeeds_63 (Or.inl rfl)
theorem dX7_drawFeeds_66 : decode cX7_drawFeeds 66 = .ok (.invokestatic 403, 3) := by decide +kernel
theorem rX7_drawFeeds_66 {R : zP} {x0 x1 x2 x3 x4 x5 x6 : Option zV} {st : List zV} {M : zM} {a0 a1 : zV} : uX7_drawFeeds R 66 [x0, x1, x2, x3, x4, x5, x6] (a1 :: a0 :: st) M ↔ (st.length ≤ 4 ∧ zcv tX7_lot [a0, a1] M (fun v M => uX7_drawFeeds R 69 [x0, x1, x2, x3, x4, x5, x6] (v :: st) M)) := Iff.trans (zU_step dX7_drawFeeds_66 (Or.inl rfl)) ⟨fun h => ⟨h.2.1, zcv_of h.2.2⟩, fun h => ⟨rfl, h.1, zcv_to h.2⟩⟩
theorem dX7_drawFeeds_69 : decode cX7_drawFeeds 69 = .ok (.istore 6, 2) := by decide +kernel
theorem rX7_drawFeeds_69 {R : zP} {x0 x1 x2 x3 x4 x5 x6 : Option zV} {st : List zV} {M : zM} {a : Int} : uX7_drawFeeds R 69 [x0, x1, x2, x3, x4, x5, x6] (.inl a :: st) M ↔ uX7_drawFeeds R 71 [x0, x1, x2, x3, x4, zkeep x5, some (.inl a)] st M := Iff.trans (zU_step dX7_drawFeeds_69 (Or.inl rfl)) ⟨fun h => h.2, fun h => ⟨show 6 < 7 by decide, h⟩⟩
theorem dX7_drawFeeds_71 : decode cX7_drawFeeds 71 = .ok (.iload_n 3, 1) := by decide +kernel
theorem rX7_drawFeeds_71 {R : zP} {x0 x1 x2 x4 x5 x6 : Option zV} {st : List zV} {M : zM} {a : Int} : uX7_drawFeeds R 71 [x0, x1, x2, some (.inl a), x4, x5, x6] st M ↔ uX7_drawFeeds R 72 [x0, x1, x2, some (.inl a), x4, x5, x6] (.inl a :: st) M := zU_step dX7_drawFeeds_71 (Or.inl rfl)
theorem dX7_drawFeeds_72 : decode cX7_drawFeeds 72 = .ok (.invokestatic 400, 3) := by decide +kernel
theorem rX7_drawFeeds_72 {R : zP} {x0 x1 x2 x3 x4 x5 x6 : Option zV} {st : List zV} {M : zM} {a0 : zV} : uX7_drawFeeds R 72 [x0, x1, x2, x3, x4, x5, x6] (a0 :: st) M ↔ (st.length ≤ 4 ∧ zcv tX7_turn [a0] M (fun v M => uX7_drawFeeds R 75 [x0, x1, x2, x3, x4, x5, x6] (v :: st) M)) := Iff.trans (zU_step dX7_drawFeeds_72 (Or.inl rfl)) ⟨fun h => ⟨h.2.1, zcv_of h.2.2⟩, fun h => ⟨rfl, h.1, zcv_to h.2⟩⟩
theorem dX7_drawFeeds_75 : decode cX7_drawFeeds 75 = .ok (.istore_n 3, 1) := by decide +kernel
theorem rX7_drawFeeds_75 {R : zP} {x0 x1 x2 x3 x4 x5 x6 : Option zV} {st : List zV} {M : zM} {a : Int} : uX7_drawFeeds R 75 [x0, x1, x2, x3, x4, x5, x6] (.inl a :: st) M ↔ uX7_drawFeeds R 76 [x0, x1, zkeep x2, some (.inl a), x4, x5, x6] st M := Iff.trans (zU_step dX7_drawFeeds_75 (Or.inl rfl)) ⟨fun h => h.2, fun h => ⟨show 3 < 7 by decide, h⟩⟩
theorem dX7_drawFeeds_76 : decode cX7_drawFeeds 76 = .ok (.aload_n 0, 1) := by decide +kernel
theorem rX7_drawFeeds_76 {R : zP} {x1 x2 x3 x4 x5 x6 : Option zV} {st : List zV} {M : zM} {a : Nat} : uX7_drawFeeds R 76 [some (.inr (.inr a)), x1, x2, x3, x4, x5, x6] st M ↔ uX7_drawFeeds R 77 [some (.inr (.inr a)), x1, x2, x3, x4, x5, x6] (.inr (.inr a) :: st) M := zU_step dX7_drawFeeds_76 (Or.inl rfl)
theorem dX7_drawFeeds_77 : decode cX7_drawFeeds 77 = .ok (.getfield 32, 3) := by decide +kernel
theorem rX7_drawFeeds_77 {R : zP} {x0 x1 x2 x3 x4 x5 x6 : Option zV} {st : List zV} {M : zM} {r : Nat} : uX7_drawFeeds R 77 [x0, x1, x2, x3, x4, x5, x6] (.inr (.inr r) :: st) M ↔ zgetx fX7 32 r M (fun v => uX7_drawFeeds R 80 [x0, x1, x2, x3, x4, x5, x6] (v :: st) M) := zU_step dX7_drawFeeds_77 (Or.inl rfl)
theorem dX7_drawFeeds_80 : decode cX7_drawFeeds 80 = .ok (.iload 5, 2) := by decide +kernel
theorem rX7_drawFeeds_80 {R : zP} {x0 x1 x2 x3 x4 x6 : Option zV} {st : List zV} {M : zM} {a : Int} : uX7_drawFeeds R 80 [x0, x1, x2, x3, x4, some (.inl a), x6] st M ↔ uX7_drawFeeds R 82 [x0, x1, x2, x3, x4, some (.inl a), x6] (.inl a :: st) M := zU_step dX7_drawFeeds_80 (Or.inl rfl)
theorem dX7_drawFeeds_82 : decode cX7_drawFeeds 82 = .ok (.iload 6, 2) := by decide +kernel
theorem rX7_drawFeeds_82 {R : zP} {x0 x1 x2 x3 x4 x5 : Option zV} {st : List zV} {M : zM} {a : Int} : uX7_drawFeeds R 82 [x0, x1, x2, x3, x4, x5, some (.inl a)] st M ↔ uX7_drawFeeds R 84 [x0, x1, x2, x3, x4, x5, some (.inl a)] (.inl a :: st) M := zU_step dX7_drawFeeds_82 (Or.inl rfl)
theorem dX7_drawFeeds_84 : decode cX7_drawFeeds 84 = .ok (.iload_n 3, 1) := by decide +kernel
theorem rX7_drawFeeds_84 {R : zP} {x0 x1 x2 x4 x5 x6 : Option zV} {st : List zV} {M : zM} {a : Int} : uX7_drawFeeds R 84 [x0, x1, x2, some (.inl a), x4, x5, x6] st M ↔ uX7_drawFeeds R 85 [x0, x1, x2, some (.inl a), x4, x5, x6] (.inl a :: st) M := zU_step dX7_drawFeeds_84 (Or.inl rfl)
theorem dX7_drawFeeds_85 : decode cX7_drawFeeds 85 = .ok (.aload_n 0, 1) := by decide +kernel
theorem rX7_drawFeeds_85 {R : zP} {x1 x2 x3 x4 x5 x6 : Option zV} {st : List zV} {M : zM} {a : Nat} : uX7_drawFeeds R 85 [some (.inr (.inr a)), x1, x2, x3, x4, x5, x6] st M ↔ uX7_drawFeeds R 86 [some (.inr (.inr a)), x1, x2, x3, x4, x5, x6] (.inr (.inr a) :: st) M := zU_step dX7_drawFeeds_85 (Or.inl rfl)
theorem dX7_drawFeeds_86 : decode cX7_drawFeeds 86 = .ok (.getfield 22, 3) := by decide +kernel
theorem rX7_drawFeeds_86 {R : zP} {x0 x1 x2 x3 x4 x5 x6 : Option zV} {st : List zV} {M : zM} {r : Nat} : uX7_drawFeeds R 86 [x0, x1, x2, x3, x4, x5, x6] (.inr (.inr r) :: st) M ↔ zgetx fX7 22 r M (fun v => uX7_drawFeeds R 89 [x0, x1, x2, x3, x4, x5, x6] (v :: st) M) := zU_step dX7_drawFeeds_86 (Or.inl rfl)
theorem dX7_drawFeeds_89 : decode cX7_drawFeeds 89 = .ok (.getfield 116, 3) := by decide +kernel
theorem rX7_drawFeeds_89 {R : zP} {x0 x1 x2 x3 x4 x5 x6 : Option zV} {st : List zV} {M : zM} {r : Nat} : uX7_drawFeeds R 89 [x0, x1, x2, x3, x4, x5, x6] (.inr (.inr r) :: st) M ↔ zgetx fX7 116 r M (fun v => uX7_drawFeeds R 92 [x0, x1, x2, x3, x4, x5, x6] (v :: st) M) := zU_step dX7_drawFeeds_89 (Or.inl rfl)
theorem dX7_drawFeeds_92 : decode cX7_drawFeeds 92 = .ok (.invokestatic 403, 3) := by decide +kernel
theorem rX7_drawFeeds_92 {R : zP} {x0 x1 x2 x3 x4 x5 x6 : Option zV} {st : List zV} {M : zM} {a0 a1 : zV} : uX7_drawFeeds R 92 [x0, x1, x2, x3, x4, x5, x6] (a1 :: a0 :: st) M ↔ (st.length ≤ 4 ∧ zcv tX7_lot [a0, a1] M (fun v M => uX7_drawFeeds R 95 [x0, x1, x2, x3, x4, x5, x6] (v :: st) M)) := Iff.trans (zU_step dX7_drawFeeds_92 (Or.inl rfl)) ⟨fun h => ⟨h.2.1, zcv_of h.2.2⟩, fun h => ⟨rfl, h.1, zcv_to h.2⟩⟩
theorem dX7_drawFeeds_95 : decode cX7_drawFeeds 95 = .ok (.invokevirtual 122, 3) := by decide +kernel
theorem rX7_drawFeeds_95 {R : zP} {x0 x1 x2 x3 x4 x5 x6 : Option zV} {st : List zV} {M : zM} {a0 a1 a2 a3 : zV} : uX7_drawFeeds R 95 [x0, x1, x2, x3, x4, x5, x6] (a3 :: a2 :: a1 :: a0 :: st) M ↔ (st.length ≤ 4 ∧ zcv (zv 4 tX4_add) [a0, a1, a2, a3] M (fun v M => uX7_drawFeeds R 98 [x0, x1, x2, x3, x4, x5, x6] (v :: st) M)) := Iff.trans (zU_step dX7_drawFeeds_95 (Or.inl rfl)) ⟨fun h => ⟨h.2.1, zcv_of h.2.2⟩, fun h => ⟨rfl, h.1, zcv_to h.2⟩⟩
theorem dX7_drawFeeds_98 : decode cX7_drawFeeds 98 = .ok (.pop, 1) := by decide +kernel
theorem rX7_drawFeeds_98 {R : zP} {x0 x1 x2 x3 x4 x5 x6 : Option zV} {st : List zV} {M : zM} {a : Int} : uX7_drawFeeds R 98 [x0, x1, x2, x3, x4, x5, x6] (.inl a :: st) M ↔ uX7_drawFeeds R 99 [x0, x1, x2, x3, x4, x5, x6] st M := zU_step dX7_drawFeeds_98 (Or.inl rfl)
theorem dX7_drawFeeds_99 : decode cX7_drawFeeds 99 = .ok (.iinc 4 1, 3) := by decide +kernel
theorem rX7_drawFeeds_99 {R : zP} {x0 x1 x2 x3 x5 x6 : Option zV} {st : List zV} {M : zM} {a : Int} : uX7_drawFeeds R 99 [x0, x1, x2, x3, some (.inl a), x5, x6] st M ↔ uX7_drawFeeds R 102 [x0, x1, x2, zkeep x3, some (.inl (a + (1))), x5, x6] st M := Iff.trans (zU_step dX7_drawFeeds_99 (Or.inl rfl)) ⟨fun h => h.2, fun h => ⟨show 4 < 7 by decide, h⟩⟩
theorem dX7_drawFeeds_102 : decode cX7_drawFeeds 102 = .ok (.goto (-68), 3) := by decide +kernel
theorem rX7_drawFeeds_102 {R : zP} {x0 x1 x2 x3 x4 x5 x6 : Option zV} {st : List zV} {M : zM} : uX7_drawFeeds R 102 [x0, x1, x2, x3, x4, x5, x6] st M ↔ uX7_drawFeeds R 34 [x0, x1, x2, x3, x4, x5, x6] st M := Iff.trans (zU_step dX7_drawFeeds_102 (Or.inl rfl)) ⟨fun h => h.2, fun h => ⟨by decide, h⟩⟩
theorem dX7_drawFeeds_105 : decode cX7_drawFeeds 105 = .ok (.return_, 1) := by decide +kernel
theorem rX7_drawFeeds_105 {R : zP} {x0 x1 x2 x3 x4 x5 x6 : Option zV} {M : zM} : uX7_drawFeeds R 105 [x0, x1, x2, x3, x4, x5, x6] [] M ↔ R none M := Iff.trans (zU_step dX7_drawFeeds_105 (Or.inl rfl)) ⟨fun h => h.2.2, fun h => ⟨rfl, rfl, h⟩⟩
theorem eX7_drawFeeds {R : zP} {M : zM} {a0 : Nat} {p0 : Int} {p1 : Int} : tX7_drawFeeds [.inr (.inr a0), .inl p0, .inl p1] M R ↔ uX7_drawFeeds R 0 [some (.inr (.inr a0)), some (.inl p0), some (.inl p1), none, none, none, none] [] M := ⟨fun h => h.2, fun h => ⟨show 3 ≤ 7 by decide, h⟩⟩
def uX7_sickness (R : zP) : zK := zU fX7 vX7_sickness cX7_sickness R
theorem dX7_sickness_0 : decode cX7_sickness 0 = .ok (.iconst 0, 1) := by decide +kernel
theorem rX7_sickness_0 {R : zP} {x0 x1 x2 x3 : Option zV} {st : List zV} {M : zM} : uX7_sickness R 0 [x0, x1, x2, x3] st M ↔ uX7_sickness R 1 [x0, x1, x2, x3] (.inl (0) :: st) M := zU_step dX7_sickness_0 (Or.inl rfl)
theorem dX7_sickness_1 : decode cX7_sickness 1 = .ok (.istore_n 2, 1) := by decide +kernel
theorem rX7_sickness_1 {R : zP} {x0 x1 x2 x3 : Option zV} {st : List zV} {M : zM} {a : Int} : uX7_sickness R 1 [x0, x1, x2, x3] (.inl a :: st) M ↔ uX7_sickness R 2 [x0, zkeep x1, some (.inl a), x3] st M := Iff.trans (zU_step dX7_sickness_1 (Or.inl rfl)) ⟨fun h => h.2, fun h => ⟨show 2 < 4 by decide, h⟩⟩
theorem dX7_sickness_2 : decode cX7_sickness 2 = .ok (.iconst 0, 1) := by decide +kernel
theorem rX7_sickness_2 {R : zP} {x0 x1 x2 x3 : Option zV} {st : List zV} {M : zM} : uX7_sickness R 2 [x0, x1, x2, x3] st M ↔ uX7_sickness R 3 [x0, x1, x2, x3] (.inl (0) :: st) M := zU_step dX7_sickness_2 (Or.inl rfl)
theorem dX7_sickness_3 : decode cX7_sickness 3 = .ok (.istore_n 3, 1) := by decide +kernel
theorem rX7_sickness_3 {R : zP} {x0 x1 x2 x3 : Option zV} {st : List zV} {M : zM} {a : Int} : uX7_sickness R 3 [x0, x1, x2, x3] (.inl a :: st) M ↔ uX7_sickness R 4 [x0, x1, zkeep x2, some (.inl a)] st M := Iff.trans (zU_step dX7_sickness_3 (Or.inl rfl)) ⟨fun h => h.2, fun h => ⟨show 3 < 4 by decide, h⟩⟩
theorem dX7_sickness_4 : decode cX7_sickness 4 = .ok (.iload_n 3, 1) := by decide +kernel
theorem rX7_sickness_4 {R : zP} {x0 x1 x2 : Option zV} {st : List zV} {M : zM} {a : Int} : uX7_sickness R 4 [x0, x1, x2, some (.inl a)] st M ↔ uX7_sickness R 5 [x0, x1, x2, some (.inl a)] (.inl a :: st) M := zU_step dX7_sickness_4 (Or.inl rfl)
theorem dX7_sickness_5 : decode cX7_sickness 5 = .ok (.aload_n 0, 1) := by decide +kernel
theorem rX7_sickness_5 {R : zP} {x1 x2 x3 : Option zV} {st : List zV} {M : zM} {a : Nat} : uX7_sickness R 5 [some (.inr (.inr a)), x1, x2, x3] st M ↔ uX7_sickness R 6 [some (.inr (.inr a)), x1, x2, x3] (.inr (.inr a) :: st) M := zU_step dX7_sickness_5 (Or.inl rfl)
theorem dX7_sickness_6 : decode cX7_sickness 6 = .ok (.getfield 14, 3) := by decide +kernel
theorem rX7_sickness_6 {R : zP} {x0 x1 x2 x3 : Option zV} {st : List zV} {M : zM} {r : Nat} : uX7_sickness R 6 [x0, x1, x2, x3] (.inr (.inr r) :: st) M ↔ zgetx fX7 14 r M (fun v => uX7_sickness R 9 [x0, x1, x2, x3] (v :: st) M) := zU_step dX7_sickness_6 (Or.inl rfl)
theorem dX7_sickness_9 : decode cX7_sickness 9 = .ok (.getfield 116, 3) := by decide +kernel
theorem rX7_sickness_9 {R : zP} {x0 x1 x2 x3 : Option zV} {st : List zV} {M : zM} {r : Nat} : uX7_sickness R 9 [x0, x1, x2, x3] (.inr (.inr r) :: st) M ↔ zgetx fX7 116 r M (fun v => uX7_sickness R 12 [x0, x1, x2, x3] (v :: st) M) := zU_step dX7_sickness_9 (Or.inl rfl)
theorem dX7_sickness_12 : decode cX7_sickness 12 = .ok (.if_icmp .ge 30, 3) := by decide +kernel
theorem rX7_sickness_12 {R : zP} {x0 x1 x2 x3 : Option zV} {st : List zV} {M : zM} {a b : Int} : uX7_sickness R 12 [x0, x1, x2, x3] (.inl b :: .inl a :: st) M ↔ ((zIR a ∧ zIR b) ∧ (b ≤ a → uX7_sickness R 42 [x0, x1, x2, x3] st M) ∧ (¬ b ≤ a → uX7_sickness R 15 [x0, x1, x2, x3] st M)) := Iff.trans (zU_step dX7_sickness_12 (Or.inl rfl)) ⟨fun h => ⟨⟨h.1.1, h.1.2.1⟩, h.2⟩, fun h => ⟨⟨h.1.1, h.1.2, by decide⟩, h.2⟩⟩
theorem dX7_sickness_15 : decode cX7_sickness 15 = .ok (.aload_n 0, 1) := by decide +kernel
theorem rX7_sickness_15 {R : zP} {x1 x2 x3 : Option zV} {st : List zV} {M : zM} {a : Nat} : uX7_sickness R 15 [some (.inr (.inr a)), x1, x2, x3] st M ↔ uX7_sickness R 16 [some (.inr (.inr a)), x1, x2, x3] (.inr (.inr a) :: st) M := zU_step dX7_sickness_15 (Or.inl rfl)
theorem dX7_sickness_16 : decode cX7_sickness 16 = .ok (.aload_n 1, 1) := by decide +kernel
theorem rX7_sickness_16 {R : zP} {x0 x2 x3 : Option zV} {st : List zV} {M : zM} {a : Nat} : uX7_sickness R 16 [x0, some (.inr (.inr a)), x2, x3] st M ↔ uX7_sickness R 17 [x0, some (.inr (.inr a)), x2, x3] (.inr (.inr a) :: st) M := zU_step dX7_sickness_16 (Or.inl rfl)
theorem dX7_sickness_17 : decode cX7_sickness 17 = .ok (.iload_n 3, 1) := by decide +kernel
theorem rX7_sickness_17 {R : zP} {x0 x1 x2 : Option zV} {st : List zV} {M : zM} {a : Int} : uX7_sickness R 17 [x0, x1, x2, some (.inl a)] st M ↔ uX7_sickness R 18 [x0, x1, x2, some (.inl a)] (.inl a :: st) M := zU_step dX7_sickness_17 (Or.inl rfl)
theorem dX7_sickness_18 : decode cX7_sickness 18 = .ok (.bipush 19, 2) := by decide +kernel
theorem rX7_sickness_18 {R : zP} {x0 x1 x2 x3 : Option zV} {st : List zV} {M : zM} : uX7_sickness R 18 [x0, x1, x2, x3] st M ↔ uX7_sickness R 20 [x0, x1, x2, x3] (.inl (19) :: st) M := Iff.trans (zU_step dX7_sickness_18 (Or.inl rfl)) ⟨fun h => h.2, fun h => ⟨by decide, h⟩⟩
theorem dX7_sickness_20 : decode cX7_sickness 20 = .ok (.sipush 255, 3) := by decide +kernel
theorem rX7_sickness_20 {R : zP} {x0 x1 x2 x3 : Option zV} {st : List zV} {M : zM} : uX7_sickness R 20 [x0, x1, x2, x3] st M ↔ uX7_sickness R 23 [x0, x1, x2, x3] (.inl (255) :: st) M := Iff.trans (zU_step dX7_sickness_20 (Or.inl rfl)) ⟨fun h => h.2, fun h => ⟨by decide, h⟩⟩
theorem dX7_sickness_23 : decode cX7_sickness 23 = .ok (.invokevirtual 142, 3) := by decide +kernel
theorem rX7_sickness_23 {R : zP} {x0 x1 x2 x3 : Option zV} {st : List zV} {M : zM} {a0 a1 a2 a3 a4 : zV} : uX7_sickness R 23 [x0, x1, x2, x3] (a4 :: a3 :: a2 :: a1 :: a0 :: st) M ↔ (st.length ≤ 4 ∧ zcn (zv 7 tX7_raise) [a0, a1, a2, a3, a4] M (fun M => uX7_sickness R 26 [x0, x1, x2, x3] st M)) := Iff.trans (zU_step dX7_sickness_23 (Or.inl rfl)) ⟨fun h => ⟨h.2.1, zcn_of h.2.2⟩, fun h => ⟨rfl, h.1, zcn_to h.2⟩⟩
theorem dX7_sickness_26 : decode cX7_sickness 26 = .ok (.iload_n 2, 1) := by decide +kernel
theorem rX7_sickness_26 {R : zP} {x0 x1 x3 : Option zV} {st : List zV} {M : zM} {a : Int} : uX7_sickness R 26 [x0, x1, some (.inl a), x3] st M ↔ uX7_sickness R 27 [x0, x1, some (.inl a), x3] (.inl a :: st) M := zU_step dX7_sickness_26 (Or.inl rfl)
theorem dX7_sickness_27 : decode cX7_sickness 27 = .ok (.aload_n 0, 1) := by decide +kernel
theorem rX7_sickness_27 {R : zP} {x1 x2 x3 : Option zV} {st : List zV} {M : zM} {a : Nat} : uX7_sickness R 27 [some (.inr (.inr a)), x1, x2, x3] st M ↔ uX7_sickness R 28 [some (.inr (.inr a)), x1, x2, x3] (.inr (.inr a) :: st) M := zU_step dX7_sickness_27 (Or.inl rfl)
theorem dX7_sickness_28 : decode cX7_sickness 28 = .ok (.getfield 55, 3) := by decide +kernel
theorem rX7_sickness_28 {R : zP} {x0 x1 x2 x3 : Option zV} {st : List zV} {M : zM} {r : Nat} : uX7_sickness R 28 [x0, x1, x2, x3] (.inr (.inr r) :: st) M ↔ zgetx fX7 55 r M (fun v => uX7_sickness R 31 [x0, x1, x2, x3] (v :: st) M) := zU_step dX7_sickness_28 (Or.inl rfl)
theorem dX7_sickness_31 : decode cX7_sickness 31 = .ok (.getfield 162, 3) := by decide +kernel
theorem rX7_sickness_31 {R : zP} {x0 x1 x2 x3 : Option zV} {st : List zV} {M : zM} {r : Nat} : uX7_sickness R 31 [x0, x1, x2, x3] (.inr (.inr r) :: st) M ↔ zgetx fX7 162 r M (fun v => uX7_sickness R 34 [x0, x1, x2, x3] (v :: st) M) := zU_step dX7_sickness_31 (Or.inl rfl)
theorem dX7_sickness_34 : decode cX7_sickness 34 = .ok (.iadd, 1) := by decide +kernel
theorem rX7_sickness_34 {R : zP} {x0 x1 x2 x3 : Option zV} {st : List zV} {M : zM} {a b : Int} : uX7_sickness R 34 [x0, x1, x2, x3] (.inl b :: .inl a :: st) M ↔ uX7_sickness R 35 [x0, x1, x2, x3] (.inl (a + b) :: st) M := zU_step dX7_sickness_34 (Or.inl rfl)
theorem dX7_sickness_35 : decode cX7_sickness 35 = .ok (.istore_n 2, 1) := by decide +kernel
theorem rX7_sickness_35 {R : zP} {x0 x1 x2 x3 : Option zV} {st : List zV} {M : zM} {a : Int} : uX7_sickness R 35 [x0, x1, x2, x3] (.inl a :: st) M ↔ uX7_sickness R 36 [x0, zkeep x1, some (.inl a), x3] st M := Iff.trans (zU_step dX7_sickness_35 (Or.inl rfl)) ⟨fun h => h.2, fun h => ⟨show 2 < 4 by decide, h⟩⟩
theorem dX7_sickness_36 : decode cX7_sickness 36 = .ok (.iinc 3 1, 3) := by decide +kernel
theorem rX7_sickness_36 {R : zP} {x0 x1 x2 : Option zV} {st : List zV} {M : zM} {a : Int} : uX7_sickness R 36 [x0, x1, x2, some (.inl a)] st M ↔ uX7_sickness R 39 [x0, x1, zkeep x2, some (.inl (a + (1)))] st M := Iff.trans (zU_step dX7_sickness_36 (Or.inl rfl)) ⟨fun h => h.2, fun h => ⟨show 3 < 4 by decide, h⟩⟩
theorem dX7_sickness_39 : decode cX7_sickness 39 = .ok (.goto (-35), 3) := by decide +kernel
theorem rX7_sickness_39 {R : zP} {x0 x1 x2 x3 : Option zV} {st : List zV} {M : zM} : uX7_sickness R 39 [x0, x1, x2, x3] st M ↔ uX7_sickness R 4 [x0, x1, x2, x3] st M := Iff.trans (zU_step dX7_sickness_39 (Or.inl rfl)) ⟨fun h => h.2, fun h => ⟨by decide, h⟩⟩
theorem dX7_sickness_42 : decode cX7_sickness 42 = .ok (.iload_n 2, 1) := by decide +kernel
theorem rX7_sickness_42 {R : zP} {x0 x1 x3 : Option zV} {st : List zV} {M : zM} {a : Int} : uX7_sickness R 42 [x0, x1, some (.inl a), x3] st M ↔ uX7_sickness R 43 [x0, x1, some (.inl a), x3] (.inl a :: st) M := zU_step dX7_sickness_42 (Or.inl rfl)
theorem dX7_sickness_43 : decode cX7_sickness 43 = .ok (.ireturn, 1) := by decide +kernel
theorem rX7_sickness_43 {R : zP} {x0 x1 x2 x3 : Option zV} {M : zM} {a : Int} : uX7_sickness R 43 [x0, x1, x2, x3] [.inl a] M ↔ R (some (.inl a)) M := Iff.trans (zU_step dX7_sickness_43 (Or.inl rfl)) ⟨fun h => h.2.2, fun h => ⟨rfl, Or.inl rfl, h⟩⟩
theorem eX7_sickness {R : zP} {M : zM} {a0 : Nat} {p0 : Nat} : tX7_sickness [.inr (.inr a0), .inr (.inr p0)] M R ↔ uX7_sickness R 0 [some (.inr (.inr a0)), some (.inr (.inr p0)), none, none] [] M := ⟨fun h => h.2, fun h => ⟨show 2 ≤ 4 by decide, h⟩⟩
def uX7_years (R : zP) : zK := zU fX7 vX7_years cX7_years R
theorem dX7_years_0 : decode cX7_years 0 = .ok (.iload_n 2, 1) := by decide +kernel
theorem rX7_years_0 {R : zP} {x0 x1 x3 : Option zV} {st : List zV} {M : zM} {a : Int} : uX7_years R 0 [x0, x1, some (.inl a), x3] st M ↔ uX7_years R 1 [x0, x1, some (.inl a), x3] (.inl a :: st) M := zU_step dX7_years_0 (Or.inl rfl)
theorem dX7_years_1 : decode cX7_years 1 = .ok (.bipush 9, 2) := by decide +kernel
theorem rX7_years_1 {R : zP} {x0 x1 x2 x3 : Option zV} {st : List zV} {M : zM} : uX7_years R 1 [x0, x1, x2, x3] st M ↔ uX7_years R 3 [x0, x1, x2, x3] (.inl (9) :: st) M := Iff.trans (zU_step dX7_years_1 (Or.inl rfl)) ⟨fun h => h.2, fun h => ⟨by decide, h⟩⟩
theorem dX7_years_3 : decode cX7_years 3 = .ok (.invokestatic 94, 3) := by decide +kernel
theorem rX7_years_3 {R : zP} {x0 x1 x2 x3 : Option zV} {st : List zV} {M : zM} {a0 a1 : zV} : uX7_years R 3 [x0, x1, x2, x3] (a1 :: a0 :: st) M ↔ (st.length ≤ 4 ∧ zcv tX7_outside [a0, a1] M (fun v M => uX7_years R 6 [x0, x1, x2, x3] (v :: st) M)) := Iff.trans (zU_step dX7_years_3 (Or.inl rfl)) ⟨fun h => ⟨h.2.1, zcv_of h.2.2⟩, fun h => ⟨rfl, h.1, zcv_to h.2⟩⟩
theorem dX7_years_6 : decode cX7_years 6 = .ok (.ifCond .ne 11, 3) := by decide +kernel
theorem rX7_years_6 {R : zP} {x0 x1 x2 x3 : Option zV} {st : List zV} {M : zM} {a : Int} : uX7_years R 6 [x0, x1, x2, x3] (.inl a :: st) M ↔ (zIR a ∧ (a ≠ 0 → uX7_years R 17 [x0, x1, x2, x3] st M) ∧ (¬ a ≠ 0 → uX7_years R 9 [x0, x1, x2, x3] st M)) := Iff.trans (zU_step dX7_years_6 (Or.inl rfl)) ⟨fun h => ⟨h.1.1, h.2⟩, fun h => ⟨⟨h.1, by decide⟩, h.2⟩⟩
theorem dX7_years_9 : decode cX7_years 9 = .ok (.iload_n 3, 1) := by decide +kernel
theorem rX7_years_9 {R : zP} {x0 x1 x2 : Option zV} {st : List zV} {M : zM} {a : Int} : uX7_years R 9 [x0, x1, x2, some (.inl a)] st M ↔ uX7_years R 10 [x0, x1, x2, some (.inl a)] (.inl a :: st) M := zU_step dX7_years_9 (Or.inl rfl)
theorem dX7_years_10 : decode cX7_years 10 = .ok (.iconst 2, 1) := by decide +kernel
theorem rX7_years_10 {R : zP} {x0 x1 x2 x3 : Option zV} {st : List zV} {M : zM} : uX7_years R 10 [x0, x1, x2, x3] st M ↔ uX7_years R 11 [x0, x1, x2, x3] (.inl (2) :: st) M := zU_step dX7_years_10 (Or.inl rfl)
theorem dX7_years_11 : decode cX7_years 11 = .ok (.invokestatic 94, 3) := by decide +kernel
theorem rX7_years_11 {R : zP} {x0 x1 x2 x3 : Option zV} {st : List zV} {M : zM} {a0 a1 : zV} : uX7_years R 11 [x0, x1, x2, x3] (a1 :: a0 :: st) M ↔ (st.length ≤ 4 ∧ zcv tX7_outside [a0, a1] M (fun v M => uX7_years R 14 [x0, x1, x2, x3] (v :: st) M)) := Iff.trans (zU_step dX7_years_11 (Or.inl rfl)) ⟨fun h => ⟨h.2.1, zcv_of h.2.2⟩, fun h => ⟨rfl, h.1, zcv_to h.2⟩⟩
theorem dX7_years_14 : decode cX7_years 14 = .ok (.ifCond .eq 6, 3) := by decide +kernel
theorem rX7_years_14 {R : zP} {x0 x1 x2 x3 : Option zV} {st : List zV} {M : zM} {a : Int} : uX7_years R 14 [x0, x1, x2, x3] (.inl a :: st) M ↔ (zIR a ∧ (a = 0 → uX7_years R 20 [x0, x1, x2, x3] st M) ∧ (¬ a = 0 → uX7_years R 17 [x0, x1, x2, x3] st M)) := Iff.trans (zU_step dX7_years_14 (Or.inl rfl)) ⟨fun h => ⟨h.1.1, h.2⟩, fun h => ⟨⟨h.1, by decide⟩, h.2⟩⟩
theorem dX7_years_17 : decode cX7_years 17 = .ok (.bipush (-2), 2) := by decide +kernel
theorem rX7_years_17 {R : zP} {x0 x1 x2 x3 : Option zV} {st : List zV} {M : zM} : uX7_years R 17 [x0, x1, x2, x3] st M ↔ uX7_years R 19 [x0, x1, x2, x3] (.inl (-2) :: st) M := Iff.trans (zU_step dX7_years_17 (Or.inl rfl)) ⟨fun h => h.2, fun h => ⟨by decide, h⟩⟩
theorem dX7_years_19 : decode cX7_years 19 = .ok (.ireturn, 1) := by decide +kernel
theorem rX7_years_19 {R : zP} {x0 x1 x2 x3 : Option zV} {M : zM} {a : Int} : uX7_years R 19 [x0, x1, x2, x3] [.inl a] M ↔ R (some (.inl a)) M := Iff.trans (zU_step dX7_years_19 (Or.inl rfl)) ⟨fun h => h.2.2, fun h => ⟨rfl, Or.inl rfl, h⟩⟩
theorem dX7_years_20 : decode cX7_years 20 = .ok (.aload_n 0, 1) := by decide +kernel
theorem rX7_years_20 {R : zP} {x1 x2 x3 : Option zV} {st : List zV} {M : zM} {a : Nat} : uX7_years R 20 [some (.inr (.inr a)), x1, x2, x3] st M ↔ uX7_years R 21 [some (.inr (.inr a)), x1, x2, x3] (.inr (.inr a) :: st) M := zU_step dX7_years_20 (Or.inl rfl)
theorem dX7_years_21 : decode cX7_years 21 = .ok (.iload_n 1, 1) := by decide +kernel
theorem rX7_years_21 {R : zP} {x0 x2 x3 : Option zV} {st : List zV} {M : zM} {a : Int} : uX7_years R 21 [x0, some (.inl a), x2, x3] st M ↔ uX7_years R 22 [x0, some (.inl a), x2, x3] (.inl a :: st) M := zU_step dX7_years_21 (Or.inl rfl)
theorem dX7_years_22 : decode cX7_years 22 = .ok (.iload_n 2, 1) := by decide +kernel
theorem rX7_years_22 {R : zP} {x0 x1 x3 : Option zV} {st : List zV} {M : zM} {a : Int} : uX7_years R 22 [x0, x1, some (.inl a), x3] st M ↔ uX7_years R 23 [x0, x1, some (.inl a), x3] (.inl a :: st) M := zU_step dX7_years_22 (Or.inl rfl)
theorem dX7_years_23 : decode cX7_years 23 = .ok (.invokevirtual 279, 3) := by decide +kernel
theorem rX7_years_23 {R : zP} {x0 x1 x2 x3 : Option zV} {st : List zV} {M : zM} {a0 a1 a2 : zV} : uX7_years R 23 [x0, x1, x2, x3] (a2 :: a1 :: a0 :: st) M ↔ (st.length ≤ 4 ∧ zcn (zv 7 tX7_drawFeeds) [a0, a1, a2] M (fun M => uX7_years R 26 [x0, x1, x2, x3] st M)) := Iff.trans (zU_step dX7_years_23 (Or.inl rfl)) ⟨fun h => ⟨h.2.1, zcn_of h.2.2⟩, fun h => ⟨rfl, h.1, zcn_to h.2⟩⟩
theorem dX7_years_26 : decode cX7_years 26 = .ok (.iload_n 3, 1) := by decide +kernel
theorem rX7_years_26 {R : zP} {x0 x1 x2 : Option zV} {st : List zV} {M : zM} {a : Int} : uX7_years R 26 [x0, x1, x2, some (.inl a)] st M ↔ uX7_years R 27 [x0, x1, x2, some (.inl a)] (.inl a :: st) M := zU_step dX7_years_26 (Or.inl rfl)
theorem dX7_years_27 : decode cX7_years 27 = .ok (.ifCond .ne 20, 3) := by decide +kernel
theorem rX7_years_27 {R : zP} {x0 x1 x2 x3 : Option zV} {st : List zV} {M : zM} {a : Int} : uX7_years R 27 [x0, x1, x2, x3] (.inl a :: st) M ↔ (zIR a ∧ (a ≠ 0 → uX7_years R 47 [x0, x1, x2, x3] st M) ∧ (¬ a ≠ 0 → uX7_years R 30 [x0, x1, x2, x3] st M)) := Iff.trans (zU_step dX7_years_27 (Or.inl rfl)) ⟨fun h => ⟨h.1.1, h.2⟩, fun h => ⟨⟨h.1, by decide⟩, h.2⟩⟩
theorem dX7_years_30 : decode cX7_years 30 = .ok (.aload_n 0, 1) := by decide +kernel
theorem rX7_years_30 {R : zP} {x1 x2 x3 : Option zV} {st : List zV} {M : zM} {a : Nat} : uX7_years R 30 [some (.inr (.inr a)), x1, x2, x3] st M ↔ uX7_years R 31 [some (.inr (.inr a)), x1, x2, x3] (.inr (.inr a) :: st) M := zU_step dX7_years_30 (Or.inl rfl)
theorem dX7_years_31 : decode cX7_years 31 = .ok (.aload_n 0, 1) := by decide +kernel
theorem rX7_years_31 {R : zP} {x1 x2 x3 : Option zV} {st : List zV} {M : zM} {a : Nat} : uX7_years R 31 [some (.inr (.inr a)), x1, x2, x3] st M ↔ uX7_years R 32 [some (.inr (.inr a)), x1, x2, x3] (.inr (.inr a) :: st) M := zU_step dX7_years_31 (Or.inl rfl)
theorem dX7_years_32 : decode cX7_years 32 = .ok (.getfield 32, 3) := by decide +kernel
theorem rX7_years_32 {R : zP} {x0 x1 x2 x3 : Option zV} {st : List zV} {M : zM} {r : Nat} : uX7_years R 32 [x0, x1, x2, x3] (.inr (.inr r) :: st) M ↔ zgetx fX7 32 r M (fun v => uX7_years R 35 [x0, x1, x2, x3] (v :: st) M) := zU_step dX7_years_32 (Or.inl rfl)
theorem dX7_years_35 : decode cX7_years 35 = .ok (.sipush 255, 3) := by decide +kernel
theorem rX7_years_35 {R : zP} {x0 x1 x2 x3 : Option zV} {st : List zV} {M : zM} : uX7_years R 35 [x0, x1, x2, x3] st M ↔ uX7_years R 38 [x0, x1, x2, x3] (.inl (255) :: st) M := Iff.trans (zU_step dX7_years_35 (Or.inl rfl)) ⟨fun h => h.2, fun h => ⟨by decide, h⟩⟩
theorem dX7_years_38 : decode cX7_years 38 = .ok (.invokevirtual 191, 3) := by decide +kernel
theorem rX7_years_38 {R : zP} {x0 x1 x2 x3 : Option zV} {st : List zV} {M : zM} {a0 a1 a2 : zV} : uX7_years R 38 [x0, x1, x2, x3] (a2 :: a1 :: a0 :: st) M ↔ (st.length ≤ 4 ∧ zcv (zv 7 tX7_unknowing) [a0, a1, a2] M (fun v M => uX7_years R 41 [x0, x1, x2, x3] (v :: st) M)) := Iff.trans (zU_step dX7_years_38 (Or.inl rfl)) ⟨fun h => ⟨h.2.1, zcv_of h.2.2⟩, fun h => ⟨rfl, h.1, zcv_to h.2⟩⟩
theorem dX7_years_41 : decode cX7_years 41 = .ok (.invokestatic 173, 3) := by decide +kernel
theorem rX7_years_41 {R : zP} {x0 x1 x2 x3 : Option zV} {st : List zV} {M : zM} {a0 : zV} : uX7_years R 41 [x0, x1, x2, x3] (a0 :: st) M ↔ (st.length ≤ 4 ∧ zcv tJ6_bitCount_0f7a4 [a0] M (fun v M => uX7_years R 44 [x0, x1, x2, x3] (v :: st) M)) := Iff.trans (zU_step dX7_years_41 (Or.inl rfl)) ⟨fun h => ⟨h.2.1, zcv_of h.2.2⟩, fun h => ⟨rfl, h.1, zcv_to h.2⟩⟩
theorem dX7_years_44 : decode cX7_years 44 = .ok (.goto 11, 3) := by decide +kernel
theorem rX7_years_44 {R : zP} {x0 x1 x2 x3 : Option zV} {st : List zV} {M : zM} : uX7_years R 44 [x0, x1, x2, x3] st M ↔ uX7_years R 55 [x0, x1, x2, x3] st M := Iff.trans (zU_step dX7_years_44 (Or.inl rfl)) ⟨fun h => h.2, fun h => ⟨by decide, h⟩⟩
theorem dX7_years_47 : decode cX7_years 47 = .ok (.aload_n 0, 1) := by decide +kernel
theorem rX7_years_47 {R : zP} {x1 x2 x3 : Option zV} {st : List zV} {M : zM} {a : Nat} : uX7_years R 47 [some (.inr (.inr a)), x1, x2, x3] st M ↔ uX7_years R 48 [some (.inr (.inr a)), x1, x2, x3] (.inr (.inr a) :: st) M := zU_step dX7_years_47 (Or.inl rfl)
theorem dX7_years_48 : decode cX7_years 48 = .ok (.aload_n 0, 1) := by decide +kernel
theorem rX7_years_48 {R : zP} {x1 x2 x3 : Option zV} {st : List zV} {M : zM} {a : Nat} : uX7_years R 48 [some (.inr (.inr a)), x1, x2, x3] st M ↔ uX7_years R 49 [some (.inr (.inr a)), x1, x2, x3] (.inr (.inr a) :: st) M := zU_step dX7_years_48 (Or.inl rfl)
theorem dX7_years_49 : decode cX7_years 49 = .ok (.getfield 32, 3) := by decide +kernel
theorem rX7_years_49 {R : zP} {x0 x1 x2 x3 : Option zV} {st : List zV} {M : zM} {r : Nat} : uX7_years R 49 [x0, x1, x2, x3] (.inr (.inr r) :: st) M ↔ zgetx fX7 32 r M (fun v => uX7_years R 52 [x0, x1, x2, x3] (v :: st) M) := zU_step dX7_years_49 (Or.inl rfl)
theorem dX7_years_52 : decode cX7_years 52 = .ok (.invokevirtual 282, 3) := by decide +kernel
theorem rX7_years_52 {R : zP} {x0 x1 x2 x3 : Option zV} {st : List zV} {M : zM} {a0 a1 : zV} : uX7_years R 52 [x0, x1, x2, x3] (a1 :: a0 :: st) M ↔ (st.length ≤ 4 ∧ zcv (zv 7 tX7_sickness) [a0, a1] M (fun v M => uX7_years R 55 [x0, x1, x2, x3] (v :: st) M)) := Iff.trans (zU_step dX7_years_52 (Or.inl rfl)) ⟨fun h => ⟨h.2.1, zcv_of h.2.2⟩, fun h => ⟨rfl, h.1, zcv_to h.2⟩⟩
theorem dX7_years_55 : decode cX7_years 55 = .ok (.ireturn, 1) := by decide +kernel
theorem rX7_years_55 {R : zP} {x0 x1 x2 x3 : Option zV} {M : zM} {a : Int} : uX7_years R 55 [x0, x1, x2, x3] [.inl a] M ↔ R (some (.inl a)) M := Iff.trans (zU_step dX7_years_55 (Or.inl rfl)) ⟨fun h => h.2.2, fun h => ⟨rfl, Or.inl rfl, h⟩⟩
theorem eX7_years {R : zP} {M : zM} {a0 : Nat} {p0 : Int} {p1 : Int} {p2 : Int} : tX7_years [.inr (.inr a0), .inl p0, .inl p1, .inl p2] M R ↔ uX7_years R 0 [some (.inr (.inr a0)), some (.inl p0), some (.inl p1), some (.inl p2)] [] M := ⟨fun h => h.2, fun h => ⟨show 4 ≤ 4 by decide, h⟩⟩
def uX7_sheet (R : zP) : zK := zU fX7 vX7_sheet cX7_sheet R
theorem dX7_sheet_0 : decode cX7_sheet 0 = .ok (.iload_n 1, 1) := by decide +kernel
theorem rX7_sheet_0 {R : zP} {x0 x2 x3 : Option zV} {st : List zV} {M : zM} {a : Int} : uX7_sheet R 0 [x0, some (.inl a), x2, x3] st M ↔ uX7_sheet R 1 [x0, some (.inl a), x2, x3] (.inl a :: st) M := zU_step dX7_sheet_0 (Or.inl rfl)
theorem dX7_sheet_1 : decode cX7_sheet 1 = .ok (.iconst 4, 1) := by decide +kernel
theorem rX7_sheet_1 {R : zP} {x0 x1 x2 x3 : Option zV} {st : List zV} {M : zM} : uX7_sheet R 1 [x0, x1, x2, x3] st M ↔ uX7_sheet R 2 [x0, x1, x2, x3] (.inl (4) :: st) M := zU_step dX7_sheet_1 (Or.inl rfl)
theorem dX7_sheet_2 : decode cX7_sheet 2 = .ok (.invokestatic 94, 3) := by decide +kernel
theorem rX7_sheet_2 {R : zP} {x0 x1 x2 x3 : Option zV} {st : List zV} {M : zM} {a0 a1 : zV} : uX7_sheet R 2 [x0, x1, x2, x3] (a1 :: a0 :: st) M ↔ (st.length ≤ 4 ∧ zcv tX7_outside [a0, a1] M (fun v M => uX7_sheet R 5 [x0, x1, x2, x3] (v :: st) M)) := Iff.trans (zU_step dX7_sheet_2 (Or.inl rfl)) ⟨fun h => ⟨h.2.1, zcv_of h.2.2⟩, fun h => ⟨rfl, h.1, zcv_to h.2⟩⟩
theorem dX7_sheet_5 : decode cX7_sheet 5 = .ok (.ifCond .ne 17, 3) := by decide +kernel
theorem rX7_sheet_5 {R : zP} {x0 x1 x2 x3 : Option zV} {st : List zV} {M : zM} {a : Int} : uX7_sheet R 5 [x0, x1, x2, x3] (.inl a :: st) M ↔ (zIR a ∧ (a ≠ 0 → uX7_sheet R 22 [x0, x1, x2, x3] st M) ∧ (¬ a ≠ 0 → uX7_sheet R 8 [x0, x1, x2, x3] st M)) := Iff.trans (zU_step dX7_sheet_5 (Or.inl rfl)) ⟨fun h => ⟨h.1.1, h.2⟩, fun h => ⟨⟨h.1, by decide⟩, h.2⟩⟩
theorem dX7_sheet_8 : decode cX7_sheet 8 = .ok (.iload_n 2, 1) := by decide +kernel
theorem rX7_sheet_8 {R : zP} {x0 x1 x3 : Option zV} {st : List zV} {M : zM} {a : Int} : uX7_sheet R 8 [x0, x1, some (.inl a), x3] st M ↔ uX7_sheet R 9 [x0, x1, some (.inl a), x3] (.inl a :: st) M := zU_step dX7_sheet_8 (Or.inl rfl)
theorem dX7_sheet_9 : decode cX7_sheet 9 = .ok (.iconst 3, 1) := by decide +kernel
theorem rX7_sheet_9 {R : zP} {x0 x1 x2 x3 : Option zV} {st : List zV} {M : zM} : uX7_sheet R 9 [x0, x1, x2, x3] st M ↔ uX7_sheet R 10 [x0, x1, x2, x3] (.inl (3) :: st) M := zU_step dX7_sheet_9 (Or.inl rfl)
theorem dX7_sheet_10 : decode cX7_sheet 10 = .ok (.invokestatic 94, 3) := by decide +kernel
theorem rX7_sheet_10 {R : zP} {x0 x1 x2 x3 : Option zV} {st : List zV} {M : zM} {a0 a1 : zV} : uX7_sheet R 10 [x0, x1, x2, x3] (a1 :: a0 :: st) M ↔ (st.length ≤ 4 ∧ zcv tX7_outside [a0, a1] M (fun v M => uX7_sheet R 13 [x0, x1, x2, x3] (v :: st) M)) := Iff.trans (zU_step dX7_sheet_10 (Or.inl rfl)) ⟨fun h => ⟨h.2.1, zcv_of h.2.2⟩, fun h => ⟨rfl, h.1, zcv_to h.2⟩⟩
theorem dX7_sheet_13 : decode cX7_sheet 13 = .ok (.ifCond .ne 9, 3) := by decide +kernel
theorem rX7_sheet_13 {R : zP} {x0 x1 x2 x3 : Option zV} {st : List zV} {M : zM} {a : Int} : uX7_sheet R 13 [x0, x1, x2, x3] (.inl a :: st) M ↔ (zIR a ∧ (a ≠ 0 → uX7_sheet R 22 [x0, x1, x2, x3] st M) ∧ (¬ a ≠ 0 → uX7_sheet R 16 [x0, x1, x2, x3] st M)) := Iff.trans (zU_step dX7_sheet_13 (Or.inl rfl)) ⟨fun h => ⟨h.1.1, h.2⟩, fun h => ⟨⟨h.1, by decide⟩, h.2⟩⟩
theorem dX7_sheet_16 : decode cX7_sheet 16 = .ok (.iload_n 3, 1) := by decide +kernel
theorem rX7_sheet_16 {R : zP} {x0 x1 x2 : Option zV} {st : List zV} {M : zM} {a : Int} : uX7_sheet R 16 [x0, x1, x2, some (.inl a)] st M ↔ uX7_sheet R 17 [x0, x1, x2, some (.inl a)] (.inl a :: st) M := zU_step dX7_sheet_16 (Or.inl rfl)
theorem dX7_sheet_17 : decode cX7_sheet 17 = .ok (.bipush 60, 2) := by decide +kernel
theorem rX7_sheet_17 {R : zP} {x0 x1 x2 x3 : Option zV} {st : List zV} {M : zM} : uX7_sheet R 17 [x0, x1, x2, x3] st M ↔ uX7_sheet R 19 [x0, x1, x2, x3] (.inl (60) :: st) M := Iff.trans (zU_step dX7_sheet_17 (Or.inl rfl)) ⟨fun h => h.2, fun h => ⟨by decide, h⟩⟩
theorem dX7_sheet_19 : decode cX7_sheet 19 = .ok (.if_icmp .le 6, 3) := by decide +kernel
theorem rX7_sheet_19 {R : zP} {x0 x1 x2 x3 : Option zV} {st : List zV} {M : zM} {a b : Int} : uX7_sheet R 19 [x0, x1, x2, x3] (.inl b :: .inl a :: st) M ↔ ((zIR a ∧ zIR b) ∧ (a ≤ b → uX7_sheet R 25 [x0, x1, x2, x3] st M) ∧ (¬ a ≤ b → uX7_sheet R 22 [x0, x1, x2, x3] st M)) := Iff.trans (zU_step dX7_sheet_19 (Or.inl rfl)) ⟨fun h => ⟨⟨h.1.1, h.1.2.1⟩, h.2⟩, fun h => ⟨⟨h.1.1, h.1.2, by decide⟩, h.2⟩⟩
theorem dX7_sheet_22 : decode cX7_sheet 22 = .ok (.bipush (-2), 2) := by decide +kernel
theorem rX7_sheet_22 {R : zP} {x0 x1 x2 x3 : Option zV} {st : List zV} {M : zM} : uX7_sheet R 22 [x0, x1, x2, x3] st M ↔ uX7_sheet R 24 [x0, x1, x2, x3] (.inl (-2) :: st) M := Iff.trans (zU_step dX7_sheet_22 (Or.inl rfl)) ⟨fun h => h.2, fun h => ⟨by decide, h⟩⟩
theorem dX7_sheet_24 : decode cX7_sheet 24 = .ok (.ireturn, 1) := by decide +kernel
theorem rX7_sheet_24 {R : zP} {x0 x1 x2 x3 : Option zV} {M : zM} {a : Int} : uX7_sheet R 24 [x0, x1, x2, x3] [.inl a] M ↔ R (some (.inl a)) M := Iff.trans (zU_step dX7_sheet_24 (Or.inl rfl)) ⟨fun h => h.2.2, fun h => ⟨rfl, Or.inl rfl, h⟩⟩
theorem dX7_sheet_25 : decode cX7_sheet 25 = .ok (.iload_n 3, 1) := by decide +kernel
theorem rX7_sheet_25 {R : zP} {x0 x1 x2 : Option zV} {st : List zV} {M : zM} {a : Int} : uX7_sheet R 25 [x0, x1, x2, some (.inl a)] st M ↔ uX7_sheet R 26 [x0, x1, x2, some (.inl a)] (.inl a :: st) M := zU_step dX7_sheet_25 (Or.inl rfl)
theorem dX7_sheet_26 : decode cX7_sheet 26 = .ok (.ifCond .ge 9, 3) := by decide +kernel
theorem rX7_sheet_26 {R : zP} {x0 x1 x2 x3 : Option zV} {st : List zV} {M : zM} {a : Int} : uX7_sheet R 26 [x0, x1, x2, x3] (.inl a :: st) M ↔ (zIR a ∧ (0 ≤ a → uX7_sheet R 35 [x0, x1, x2, x3] st M) ∧ (¬ 0 ≤ a → uX7_sheet R 29 [x0, x1, x2, x3] st M)) := Iff.trans (zU_step dX7_sheet_26 (Or.inl rfl)) ⟨fun h => ⟨h.1.1, h.2⟩, fun h => ⟨⟨h.1, by decide⟩, h.2⟩⟩
theorem dX7_sheet_29 : decode cX7_sheet 29 = .ok (.aload_n 0, 1) := by decide +kernel
theorem rX7_sheet_29 {R : zP} {x1 x2 x3 : Option zV} {st : List zV} {M : zM} {a : Nat} : uX7_sheet R 29 [some (.inr (.inr a)), x1, x2, x3] st M ↔ uX7_sheet R 30 [some (.inr (.inr a)), x1, x2, x3] (.inr (.inr a) :: st) M := zU_step dX7_sheet_29 (Or.inl rfl)
theorem dX7_sheet_30 : decode cX7_sheet 30 = .ok (.iconst 5, 1) := by decide +kernel
theorem rX7_sheet_30 {R : zP} {x0 x1 x2 x3 : Option zV} {st : List zV} {M : zM} : uX7_sheet R 30 [x0, x1, x2, x3] st M ↔ uX7_sheet R 31 [x0, x1, x2, x3] (.inl (5) :: st) M := zU_step dX7_sheet_30 (Or.inl rfl)
theorem dX7_sheet_31 : decode cX7_sheet 31 = .ok (.invokevirtual 131, 3) := by decide +kernel
theorem rX7_sheet_31 {R : zP} {x0 x1 x2 x3 : Option zV} {st : List zV} {M : zM} {a0 a1 : zV} : uX7_sheet R 31 [x0, x1, x2, x3] (a1 :: a0 :: st) M ↔ (st.length ≤ 4 ∧ zcv (zv 7 tX7_finding) [a0, a1] M (fun v M => uX7_sheet R 34 [x0, x1, x2, x3] (v :: st) M)) := Iff.trans (zU_step dX7_sheet_31 (Or.inl rfl)) ⟨fun h => ⟨h.2.1, zcv_of h.2.2⟩, fun h => ⟨rfl, h.1, zcv_to h.2⟩⟩
theorem dX7_sheet_34 : decode cX7_sheet 34 = .ok (.ireturn, 1) := by decide +kernel
theorem rX7_sheet_34 {R : zP} {x0 x1 x2 x3 : Option zV} {M : zM} {a : Int} : uX7_sheet R 34 [x0, x1, x2, x3] [.inl a] M ↔ R (some (.inl a)) M := Iff.trans (zU_step dX7_sheet_34 (Or.inl rfl)) ⟨fun h => h.2.2, fun h => ⟨rfl, Or.inl rfl, h⟩⟩
theorem dX7_sheet_35 : decode cX7_sheet 35 = .ok (.aload_n 0, 1) := by decide +kernel
theorem rX7_sheet_35 {R : zP} {x1 x2 x3 : Option zV} {st : List zV} {M : zM} {a : Nat} : uX7_sheet R 35 [some (.inr (.inr a)), x1, x2, x3] st M ↔ uX7_sheet R 36 [some (.inr (.inr a)), x1, x2, x3] (.inr (.inr a) :: st) M := zU_step dX7_sheet_35 (Or.inl rfl)
theorem dX7_sheet_36 : decode cX7_sheet 36 = .ok (.getfield 44, 3) := by decide +kernel
theorem rX7_sheet_36 {R : zP} {x0 x1 x2 x3 : Option zV} {st : List zV} {M : zM} {r : Nat} : uX7_sheet R 36 [x0, x1, x2, x3] (.inr (.inr r) :: st) M ↔ zgetx fX7 44 r M (fun v => uX7_sheet R 39 [x0, x1, x2, x3] (v :: st) M) := zU_step dX7_sheet_36 (Or.inl rfl)
theorem dX7_sheet_39 : decode cX7_sheet 39 = .ok (.iload_n 1, 1) := by decide +kernel
theorem rX7_sheet_39 {R : zP} {x0 x2 x3 : Option zV} {st : List zV} {M : zM} {a : Int} : uX7_sheet R 39 [x0, some (.inl a), x2, x3] st M ↔ uX7_sheet R 40 [x0, some (.inl a), x2, x3] (.inl a :: st) M := zU_step dX7_sheet_39 (Or.inl rfl)
theorem dX7_sheet_40 : decode cX7_sheet 40 = .ok (.aaload, 1) := by decide +kernel
theorem rX7_sheet_40 {R : zP} {x0 x1 x2 x3 : Option zV} {st : List zV} {M : zM} {i : Int} {r : Nat} : uX7_sheet R 40 [x0, x1, x2, x3] (.inl i :: .inr (.inr r) :: st) M ↔ zopt (zrow r) (fun rs => (0 ≤ i ∧ i < rs.length) ∧ uX7_sheet R 41 [x0, x1, x2, x3] (.inr (.inr (rs.getD i.toNat 0)) :: st) M) := zU_step dX7_sheet_40 (Or.inl rfl)
theorem dX7_sheet_41 : decode cX7_sheet 41 = .ok (.iload_n 2, 1) := by decide +kernel
theorem rX7_sheet_41 {R : zP} {x0 x1 x3 : Option zV} {st : List zV} {M : zM} {a : Int} : uX7_sheet R 41 [x0, x1, some (.inl a), x3] st M ↔ uX7_sheet R 42 [x0, x1, some (.inl a), x3] (.inl a :: st) M := zU_step dX7_sheet_41 (Or.inl rfl)
theorem dX7_sheet_42 : decode cX7_sheet 42 = .ok (.iload_n 3, 1) := by decide +kernel
theorem rX7_sheet_42 {R : zP} {x0 x1 x2 : Option zV} {st : List zV} {M : zM} {a : Int} : uX7_sheet R 42 [x0, x1, x2, some (.inl a)] st M ↔ uX7_sheet R 43 [x0, x1, x2, some (.inl a)] (.inl a :: st) M := zU_step dX7_sheet_42 (Or.inl rfl)
theorem dX7_sheet_43 : decode cX7_sheet 43 = .ok (.invokevirtual 286, 3) := by decide +kernel
theorem rX7_sheet_43 {R : zP} {x0 x1 x2 x3 : Option zV} {st : List zV} {M : zM} {a0 a1 a2 : zV} : uX7_sheet R 43 [x0, x1, x2, x3] (a2 :: a1 :: a0 :: st) M ↔ (st.length ≤ 4 ∧ zcn (zv 1 tX1_begin) [a0, a1, a2] M (fun M => uX7_sheet R 46 [x0, x1, x2, x3] st M)) := Iff.trans (zU_step dX7_sheet_43 (Or.inl rfl)) ⟨fun h => ⟨h.2.1, zcn_of h.2.2⟩, fun h => ⟨rfl, h.1, zcn_to h.2⟩⟩
theorem dX7_sheet_46 : decode cX7_sheet 46 = .ok (.iload_n 3, 1) := by decide +kernel
theorem rX7_sheet_46 {R : zP} {x0 x1 x2 : Option zV} {st : List zV} {M : zM} {a : Int} : uX7_sheet R 46 [x0, x1, x2, some (.inl a)] st M ↔ uX7_sheet R 47 [x0, x1, x2, some (.inl a)] (.inl a :: st) M := zU_step dX7_sheet_46 (Or.inl rfl)
theorem dX7_sheet_47 : decode cX7_sheet 47 = .ok (.ireturn, 1) := by decide +kernel
theorem rX7_sheet_47 {R : zP} {x0 x1 x2 x3 : Option zV} {M : zM} {a : Int} : uX7_sheet R 47 [x0, x1, x2, x3] [.inl a] M ↔ R (some (.inl a)) M := Iff.trans (zU_step dX7_sheet_47 (Or.inl rfl)) ⟨fun h => h.2.2, fun h => ⟨rfl, Or.inl rfl, h⟩⟩
theorem eX7_sheet {R : zP} {M : zM} {a0 : Nat} {p0 : Int} {p1 : Int} {p2 : Int} : tX7_sheet [.inr (.inr a0), .inl p0, .inl p1, .inl p2] M R ↔ uX7_sheet R 0 [some (.inr (.inr a0)), some (.inl p0), some (.inl p1), some (.inl p2)] [] M := ⟨fun h => h.2, fun h => ⟨show 4 ≤ 4 by decide, h⟩⟩
def uX7_lose (R : zP) : zK := zU fX7 vX7_lose cX7_lose R
theorem dX7_lose_0 : decode cX7_lose 0 = .ok (.iload_n 1, 1) := by decide +kernel
theorem rX7_lose_0 {R : zP} {x0 x2 x3 : Option zV} {st : List zV} {M : zM} {a : Int} : uX7_lose R 0 [x0, some (.inl a), x2, x3] st M ↔ uX7_lose R 1 [x0, some (.inl a), x2, x3] (.inl a :: st) M := zU_step dX7_lose_0 (Or.inl rfl)
theorem dX7_lose_1 : decode cX7_lose 1 = .ok (.iconst 4, 1) := by decide +kernel
theorem rX7_lose_1 {R : zP} {x0 x1 x2 x3 : Option zV} {st : List zV} {M : zM} : uX7_lose R 1 [x0, x1, x2, x3] st M ↔ uX7_lose R 2 [x0, x1, x2, x3] (.inl (4) :: st) M := zU_step dX7_lose_1 (Or.inl rfl)
theorem dX7_lose_2 : decode cX7_lose 2 = .ok (.invokestatic 94, 3) := by decide +kernel
theorem rX7_lose_2 {R : zP} {x0 x1 x2 x3 : Option zV} {st : List zV} {M : zM} {a0 a1 : zV} : uX7_lose R 2 [x0, x1, x2, x3] (a1 :: a0 :: st) M ↔ (st.length ≤ 4 ∧ zcv tX7_outside [a0, a1] M (fun v M => uX7_lose R 5 [x0, x1, x2, x3] (v :: st) M)) := Iff.trans (zU_step dX7_lose_2 (Or.inl rfl)) ⟨fun h => ⟨h.2.1, zcv_of h.2.2⟩, fun h => ⟨rfl, h.1, zcv_to h.2⟩⟩
theorem dX7_lose_5 : decode cX7_lose 5 = .ok (.ifCond .eq 6, 3) := by decide +kernel
theorem rX7_lose_5 {R : zP} {x0 x1 x2 x3 : Option zV} {st : List zV} {M : zM} {a : Int} : uX7_lose R 5 [x0, x1, x2, x3] (.inl a :: st) M ↔ (zIR a ∧ (a = 0 → uX7_lose R 11 [x0, x1, x2, x3] st M) ∧ (¬ a = 0 → uX7_lose R 8 [x0, x1, x2, x3] st M)) := Iff.trans (zU_step dX7_lose_5 (Or.inl rfl)) ⟨fun h => ⟨h.1.1, h.2⟩, fun h => ⟨⟨h.1, by decide⟩, h.2⟩⟩
theorem dX7_lose_8 : decode cX7_lose 8 = .ok (.bipush (-2), 2) := by decide +kernel
theorem rX7_lose_8 {R : zP} {x0 x1 x2 x3 : Option zV} {st : List zV} {M : zM} : uX7_lose R 8 [x0, x1, x2, x3] st M ↔ uX7_lose R 10 [x0, x1, x2, x3] (.inl (-2) :: st) M := Iff.trans (zU_step dX7_lose_8 (Or.inl rfl)) ⟨fun h => h.2, fun h => ⟨by decide, h⟩⟩
theorem dX7_lose_10 : decode cX7_lose 10 = .ok (.ireturn, 1) := by decide +kernel
theorem rX7_lose_10 {R : zP} {x0 x1 x2 x3 : Option zV} {M : zM} {a : Int} : uX7_lose R 10 [x0, x1, x2, x3] [.inl a] M ↔ R (some (.inl a)) M := Iff.trans (zU_step dX7_lose_10 (Or.inl rfl)) ⟨fun h => h.2.2, fun h => ⟨rfl, Or.inl rfl, h⟩⟩
theorem dX7_lose_11 : decode cX7_lose 11 = .ok (.aload_n 0, 1) := by decide +kernel
theorem rX7_lose_11 {R : zP} {x1 x2 x3 : Option zV} {st : List zV} {M : zM} {a : Nat} : uX7_lose R 11 [some (.inr (.inr a)), x1, x2, x3] st M ↔ uX7_lose R 12 [some (.inr (.inr a)), x1, x2, x3] (.inr (.inr a) :: st) M := zU_step dX7_lose_11 (Or.inl rfl)
theorem dX7_lose_12 : decode cX7_lose 12 = .ok (.getfield 44, 3) := by decide +kernel
theorem rX7_lose_12 {R : zP} {x0 x1 x2 x3 : Option zV} {st : List zV} {M : zM} {r : Nat} : uX7_lose R 12 [x0, x1, x2, x3] (.inr (.inr r) :: st) M ↔ zgetx fX7 44 r M (fun v => uX7_lose R 15 [x0, x1, x2, x3] (v :: st) M) := zU_step dX7_lose_12 (Or.inl rfl)
theorem dX7_lose_15 : decode cX7_lose 15 = .ok (.iload_n 1, 1) := by decide +kernel
theorem rX7_lose_15 {R : zP} {x0 x2 x3 : Option zV} {st : List zV} {M : zM} {a : Int} : uX7_lose R 15 [x0, some (.inl a), x2, x3] st M ↔ uX7_lose R 16 [x0, some (.inl a), x2, x3] (.inl a :: st) M := zU_step dX7_lose_15 (Or.inl rfl)
theorem dX7_lose_16 : decode cX7_lose 16 = .ok (.aaload, 1) := by decide +kernel
theorem rX7_lose_16 {R : zP} {x0 x1 x2 x3 : Option zV} {st : List zV} {M : zM} {i : Int} {r : Nat} : uX7_lose R 16 [x0, x1, x2, x3] (.inl i :: .inr (.inr r) :: st) M ↔ zopt (zrow r) (fun rs => (0 ≤ i ∧ i < rs.length) ∧ uX7_lose R 17 [x0, x1, x2, x3] (.inr (.inr (rs.getD i.toNat 0)) :: st) M) := zU_step dX7_lose_16 (Or.inl rfl)
theorem dX7_lose_17 : decode cX7_lose 17 = .ok (.astore_n 2, 1) := by decide +kernel
theorem rX7_lose_17 {R : zP} {x0 x1 x2 x3 : Option zV} {st : List zV} {M : zM} {a : Nat} : uX7_lose R 17 [x0, x1, x2, x3] (.inr (.inr a) :: st) M ↔ uX7_lose R 18 [x0, zkeep x1, some (.inr (.inr a)), x3] st M := Iff.trans (zU_step dX7_lose_17 (Or.inl rfl)) ⟨fun h => h.2, fun h => ⟨show 2 < 4 by decide, h⟩⟩
theorem dX7_lose_18 : decode cX7_lose 18 = .ok (.aload_n 2, 1) := by decide +kernel
theorem rX7_lose_18 {R : zP} {x0 x1 x3 : Option zV} {st : List zV} {M : zM} {a : Nat} : uX7_lose R 18 [x0, x1, some (.inr (.inr a)), x3] st M ↔ uX7_lose R 19 [x0, x1, some (.inr (.inr a)), x3] (.inr (.inr a) :: st) M := zU_step dX7_lose_18 (Or.inl rfl)
theorem dX7_lose_19 : decode cX7_lose 19 = .ok (.invokevirtual 127, 3) := by decide +kernel
theorem rX7_lose_19 {R : zP} {x0 x1 x2 x3 : Option zV} {st : List zV} {M : zM} {a0 : zV} : uX7_lose R 19 [x0, x1, x2, x3] (a0 :: st) M ↔ (st.length ≤ 4 ∧ zcv (zv 1 tX1_isLost) [a0] M (fun v M => uX7_lose R 22 [x0, x1, x2, x3] (v :: st) M)) := Iff.trans (zU_step dX7_lose_19 (Or.inl rfl)) ⟨fun h => ⟨h.2.1, zcv_of h.2.2⟩, fun h => ⟨rfl, h.1, zcv_to h.2⟩⟩
theorem dX7_lose_22 : decode cX7_lose 22 = .ok (.ifCond .eq 9, 3) := by decide +kernel
theorem rX7_lose_22 {R : zP} {x0 x1 x2 x3 : Option zV} {st : List zV} {M : zM} {a : Int} : uX7_lose R 22 [x0, x1, x2, x3] (.inl a :: st) M ↔ (zIR a ∧ (a = 0 → uX7_lose R 31 [x0, x1, x2, x3] st M) ∧ (¬ a = 0 → uX7_lose R 25 [x0, x1, x2, x3] st M)) := Iff.trans (zU_step dX7_lose_22 (Or.inl rfl)) ⟨fun h => ⟨h.1.1, h.2⟩, fun h => ⟨⟨h.1, by decide⟩, h.2⟩⟩
theorem dX7_lose_25 : decode cX7_lose 25 = .ok (.aload_n 0, 1) := by decide +kernel
theorem rX7_lose_25 {R : zP} {x1 x2 x3 : Option zV} {st : List zV} {M : zM} {a : Nat} : uX7_lose R 25 [some (.inr (.inr a)), x1, x2, x3] st M ↔ uX7_lose R 26 [some (.inr (.inr a)), x1, x2, x3] (.inr (.inr a) :: st) M := zU_step dX7_lose_25 (Or.inl rfl)
theorem dX7_lose_26 : decode cX7_lose 26 = .ok (.iconst 1, 1) := by decide +kernel
theorem rX7_lose_26 {R : zP} {x0 x1 x2 x3 : Option zV} {st : List zV} {M : zM} : uX7_lose R 26 [x0, x1, x2, x3] st M ↔ uX7_lose R 27 [x0, x1, x2, x3] (.inl (1) :: st) M := zU_step dX7_lose_26 (Or.inl rfl)
theorem dX7_lose_27 : decode cX7_lose 27 = .ok (.invokevirtual 131, 3) := by decide +kernel
theorem rX7_lose_27 {R : zP} {x0 x1 x2 x3 : Option zV} {st : List zV} {M : zM} {a0 a1 : zV} : uX7_lose R 27 [x0, x1, x2, x3] (a1 :: a0 :: st) M ↔ (st.length ≤ 4 ∧ zcv (zv 7 tX7_finding) [a0, a1] M (fun v M => uX7_lose R 30 [x0, x1, x2, x3] (v :: st) M)) := Iff.trans (zU_step dX7_lose_27 (Or.inl rfl)) ⟨fun h => ⟨h.2.1, zcv_of h.2.2⟩, fun h => ⟨rfl, h.1, zcv_to h.2⟩⟩
theorem dX7_lose_30 : decode cX7_lose 30 = .ok (.ireturn, 1) := by decide +kernel
theorem rX7_lose_30 {R : zP} {x0 x1 x2 x3 : Option zV} {M : zM} {a : Int} : uX7_lose R 30 [x0, x1, x2, x3] [.inl a] M ↔ R (some (.inl a)) M := Iff.trans (zU_step dX7_lose_30 (Or.inl rfl)) ⟨fun h => h.2.2, fun h => ⟨rfl, Or.inl rfl, h⟩⟩
theorem dX7_lose_31 : decode cX7_lose 31 = .ok (.aload_n 2, 1) := by decide +kernel
theorem rX7_lose_31 {R : zP} {x0 x1 x3 : Option zV} {st : List zV} {M : zM} {a : Nat} : uX7_lose R 31 [x0, x1, some (.inr (.inr a)), x3] st M ↔ uX7_lose R 32 [x0, x1, some (.inr (.inr a)), x3] (.inr (.inr a) :: st) M := zU_step dX7_lose_31 (Or.inl rfl)
theorem dX7_lose_32 : decode cX7_lose 32 = .ok (.getfield 134, 3) := by decide +kernel
theorem rX7_lose_32 {R : zP} {x0 x1 x2 x3 : Option zV} {st : List zV} {M : zM} {r : Nat} : uX7_lose R 32 [x0, x1, x2, x3] (.inr (.inr r) :: st) M ↔ zgetx fX7 134 r M (fun v => uX7_lose R 35 [x0, x1, x2, x3] (v :: st) M) := zU_step dX7_lose_32 (Or.inl rfl)
theorem dX7_lose_35 : decode cX7_lose 35 = .ok (.istore_n 3, 1) := by decide +kernel
theorem rX7_lose_35 {R : zP} {x0 x1 x2 x3 : Option zV} {st : List zV} {M : zM} {a : Int} : uX7_lose R 35 [x0, x1, x2, x3] (.inl a :: st) M ↔ uX7_lose R 36 [x0, x1, zkeep x2, some (.inl a)] st M := Iff.trans (zU_step dX7_lose_35 (Or.inl rfl)) ⟨fun h => h.2, fun h => ⟨show 3 < 4 by decide, h⟩⟩
theorem dX7_lose_36 : decode cX7_lose 36 = .ok (.aload_n 2, 1) := by decide +kernel
theorem rX7_lose_36 {R : zP} {x0 x1 x3 : Option zV} {st : List zV} {M : zM} {a : Nat} : uX7_lose R 36 [x0, x1, some (.inr (.inr a)), x3] st M ↔ uX7_lose R 37 [x0, x1, some (.inr (.inr a)), x3] (.inr (.inr a) :: st) M := zU_step dX7_lose_36 (Or.inl rfl)
theorem dX7_lose_37 : decode cX7_lose 37 = .ok (.invokevirtual 289, 3) := by decide +kernel
theorem rX7_lose_37 {R : zP} {x0 x1 x2 x3 : Option zV} {st : List zV} {M : zM} {a0 : zV} : uX7_lose R 37 [x0, x1, x2, x3] (a0 :: st) M ↔ (st.length ≤ 4 ∧ zcn (zv 1 tX1_vanish) [a0] M (fun M => uX7_lose R 40 [x0, x1, x2, x3] st M)) := Iff.trans (zU_step dX7_lose_37 (Or.inl rfl)) ⟨fun h => ⟨h.2.1, zcn_of h.2.2⟩, fun h => ⟨rfl, h.1, zcn_to h.2⟩⟩
theorem dX7_lose_40 : decode cX7_lose 40 = .ok (.iload_n 3, 1) := by decide +kernel
theorem rX7_lose_40 {R : zP} {x0 x1 x2 : Option zV} {st : List zV} {M : zM} {a : Int} : uX7_lose R 40 [x0, x1, x2, some (.inl a)] st M ↔ uX7_lose R 41 [x0, x1, x2, some (.inl a)] (.inl a :: st) M := zU_step dX7_lose_40 (Or.inl rfl)
theorem dX7_lose_41 : decode cX7_lose 41 = .ok (.ireturn, 1) := by decide +kernel
theorem rX7_lose_41 {R : zP} {x0 x1 x2 x3 : Option zV} {M : zM} {a : Int} : uX7_lose R 41 [x0, x1, x2, x3] [.inl a] M ↔ R (some (.inl a)) M := Iff.trans (zU_step dX7_lose_41 (Or.inl rfl)) ⟨fun h => h.2.2, fun h => ⟨rfl, Or.inl rfl, h⟩⟩
theorem eX7_lose {R : zP} {M : zM} {a0 : Nat} {p0 : Int} : tX7_lose [.inr (.inr a0), .inl p0] M R ↔ uX7_lose R 0 [some (.inr (.inr a0)), some (.inl p0), none, none] [] M := ⟨fun h => h.2, fun h => ⟨show 2 ≤ 4 by decide, h⟩⟩
def uX7_itemRefusal (R : zP) : zK := zU fX7 vX7_itemRefusal cX7_itemRefusal R
theorem dX7_itemRefusal_0 : decode cX7_itemRefusal 0 = .ok (.iload_n 1, 1) := by decide +kernel
theorem rX7_itemRefusal_0 {R : zP} {x0 x2 x3 x4 : Option zV} {st : List zV} {M : zM} {a : Int} : uX7_itemRefusal R 0 [x0, some (.inl a), x2, x3, x4] st M ↔ uX7_itemRefusal R 1 [x0, some (.inl a), x2, x3, x4] (.inl a :: st) M := zU_step dX7_itemRefusal_0 (Or.inl rfl)
theorem dX7_itemRefusal_1 : decode cX7_itemRefusal 1 = .ok (.iconst 4, 1) := by decide +kernel
theorem rX7_itemRefusal_1 {R : zP} {x0 x1 x2 x3 x4 : Option zV} {st : List zV} {M : zM} : uX7_itemRefusal R 1 [x0, x1, x2, x3, x4] st M ↔ uX7_itemRefusal R 2 [x0, x1, x2, x3, x4] (.inl (4) :: st) M := zU_step dX7_itemRefusal_1 (Or.inl rfl)
theorem dX7_itemRefusal_2 : decode cX7_itemRefusal 2 = .ok (.invokestatic 94, 3) := by decide +kernel
theorem rX7_itemRefusal_2 {R : zP} {x0 x1 x2 x3 x4 : Option zV} {st : List zV} {M : zM} {a0 a1 : zV} : uX7_itemRefusal R 2 [x0, x1, x2, x3, x4] (a1 :: a0 :: st) M ↔ (st.length ≤ 4 ∧ zcv tX7_outside [a0, a1] M (fun v M => uX7_itemRefusal R 5 [x0, x1, x2, x3, x4] (v :: st) M)) := Iff.trans (zU_step dX7_itemRefusal_2 (Or.inl rfl)) ⟨fun h => ⟨h.2.1, zcv_of h.2.2⟩, fun h => ⟨rfl, h.1, zcv_to h.2⟩⟩
theorem dX7_itemRefusal_5 : decode cX7_itemRefusal 5 = .ok (.ifCond .ne 11, 3) := by decide +kernel
theorem rX7_itemRefusal_5 {R : zP} {x0 x1 x2 x3 x4 : Option zV} {st : List zV} {M : zM} {a : Int} : uX7_itemRefusal R 5 [x0, x1, x2, x3, x4] (.inl a :: st) M ↔ (zIR a ∧ (a ≠ 0 → uX7_itemRefusal R 16 [x0, x1, x2, x3, x4] st M) ∧ (¬ a ≠ 0 → uX7_itemRefusal R 8 [x0, x1, x2, x3, x4] st M)) := Iff.trans (zU_step dX7_itemRefusal_5 (Or.inl rfl)) ⟨fun h => ⟨h.1.1, h.2⟩, fun h => ⟨⟨h.1, by decide⟩, h.2⟩⟩
theorem dX7_itemRefusal_8 : decode cX7_itemRefusal 8 = .ok (.iload_n 2, 1) := by decide +kernel
theorem rX7_itemRefusal_8 {R : zP} {x0 x1 x3 x4 : Option zV} {st : List zV} {M : zM} {a : Int} : uX7_itemRefusal R 8 [x0, x1, some (.inl a), x3, x4] st M ↔ uX7_itemRefusal R 9 [x0, x1, some (.inl a), x3, x4] (.inl a :: st) M := zU_step dX7_itemRefusal_8 (Or.inl rfl)
theorem dX7_itemRefusal_9 : decode cX7_itemRefusal 9 = .ok (.iconst 3, 1) := by decide +kernel
theorem rX7_itemRefusal_9 {R : zP} {x0 x1 x2 x3 x4 : Option zV} {st : List zV} {M : zM} : uX7_itemRefusal R 9 [x0, x1, x2, x3, x4] st M ↔ uX7_itemRefusal R 10 [x0, x1, x2, x3, x4] (.inl (3) :: st) M := zU_step dX7_itemRefusal_9 (Or.inl rfl)
theorem dX7_itemRefusal_10 : decode cX7_itemRefusal 10 = .ok (.invokestatic 94, 3) := by decide +kernel
theorem rX7_itemRefusal_10 {R : zP} {x0 x1 x2 x3 x4 : Option zV} {st : List zV} {M : zM} {a0 a1 : zV} : uX7_itemRefusal R 10 [x0, x1, x2, x3, x4] (a1 :: a0 :: st) M ↔ (st.length ≤ 4 ∧ zcv tX7_outside [a0, a1] M (fun v M => uX7_itemRefusal R 13 [x0, x1, x2, x3, x4] (v :: st) M)) := Iff.trans (zU_step dX7_itemRefusal_10 (Or.inl rfl)) ⟨fun h => ⟨h.2.1, zcv_of h.2.2⟩, fun h => ⟨rfl, h.1, zcv_to h.2⟩⟩
theorem dX7_itemRefusal_13 : decode cX7_itemRefusal 13 = .ok (.ifCond .eq 6, 3) := by decide +kernel
theorem rX7_itemRefusal_13 {R : zP} {x0 x1 x2 x3 x4 : Option zV} {st : List zV} {M : zM} {a : Int} : uX7_itemRefusal R 13 [x0, x1, x2, x3, x4] (.inl a :: st) M ↔ (zIR a ∧ (a = 0 → uX7_itemRefusal R 19 [x0, x1, x2, x3, x4] st M) ∧ (¬ a = 0 → uX7_itemRefusal R 16 [x0, x1, x2, x3, x4] st M)) := Iff.trans (zU_step dX7_itemRefusal_13 (Or.inl rfl)) ⟨fun h => ⟨h.1.1, h.2⟩, fun h => ⟨⟨h.1, by decide⟩, h.2⟩⟩
theorem dX7_itemRefusal_16 : decode cX7_itemRefusal 16 = .ok (.bipush (-2), 2) := by decide +kernel
theorem rX7_itemRefusal_16 {R : zP} {x0 x1 x2 x3 x4 : Option zV} {st : List zV} {M : zM} : uX7_itemRefusal R 16 [x0, x1, x2, x3, x4] st M ↔ uX7_itemRefusal R 18 [x0, x1, x2, x3, x4] (.inl (-2) :: st) M := Iff.trans (zU_step dX7_itemRefusal_16 (Or.inl rfl)) ⟨fun h => h.2, fun h => ⟨by decide, h⟩⟩
theorem dX7_itemRefusal_18 : decode cX7_itemRefusal 18 = .ok (.ireturn, 1) := by decide +kernel
theorem rX7_itemRefusal_18 {R : zP} {x0 x1 x2 x3 x4 : Option zV} {M : zM} {a : Int} : uX7_itemRefusal R 18 [x0, x1, x2, x3, x4] [.inl a] M ↔ R (some (.inl a)) M := Iff.trans (zU_step dX7_itemRefusal_18 (Or.inl rfl)) ⟨fun h => h.2.2, fun h => ⟨rfl, Or.inl rfl, h⟩⟩
theorem dX7_itemRefusal_19 : decode cX7_itemRefusal 19 = .ok (.aload_n 0, 1) := by decide +kernel
theorem rX7_itemRefusal_19 {R : zP} {x1 x2 x3 x4 : Option zV} {st : List zV} {M : zM} {a : Nat} : uX7_itemRefusal R 19 [some (.inr (.inr a)), x1, x2, x3, x4] st M ↔ uX7_itemRefusal R 20 [some (.inr (.inr a)), x1, x2, x3, x4] (.inr (.inr a) :: st) M := zU_step dX7_itemRefusal_19 (Or.inl rfl)
theorem dX7_itemRefusal_20 : decode cX7_itemRefusal 20 = .ok (.getfield 44, 3) := by decide +kernel
theorem rX7_itemRefusal_20 {R : zP} {x0 x1 x2 x3 x4 : Option zV} {st : List zV} {M : zM} {r : Nat} : uX7_itemRefusal R 20 [x0, x1, x2, x3, x4] (.inr (.inr r) :: st) M ↔ zgetx fX7 44 r M (fun v => uX7_itemRefusal R 23 [x0, x1, x2, x3, x4] (v :: st) M) := zU_step dX7_itemRefusal_20 (Or.inl rfl)
theorem dX7_itemRefusal_23 : decode cX7_itemRefusal 23 = .ok (.iload_n 1, 1) := by decide +kernel
theorem rX7_itemRefusal_23 {R : zP} {x0 x2 x3 x4 : Option zV} {st : List zV} {M : zM} {a : Int} : uX7_itemRefusal R 23 [x0, some (.inl a), x2, x3, x4] st M ↔ uX7_itemRefusal R 24 [x0, some (.inl a), x2, x3, x4] (.inl a :: st) M := zU_step dX7_itemRefusal_23 (Or.inl rfl)
theorem dX7_itemRefusal_24 : decode cX7_itemRefusal 24 = .ok (.aaload, 1) := by decide +kernel
theorem rX7_itemRefusal_24 {R : zP} {x0 x1 x2 x3 x4 : Option zV} {st : List zV} {M : zM} {i : Int} {r : Nat} : uX7_itemRefusal R 24 [x0, x1, x2, x3, x4] (.inl i :: .inr (.inr r) :: st) M ↔ zopt (zrow r) (fun rs => (0 ≤ i ∧ i < rs.length) ∧ uX7_itemRefusal R 25 [x0, x1, x2, x3, x4] (.inr (.inr (rs.getD i.toNat 0)) :: st) M) := zU_step dX7_itemRefusal_24 (Or.inl rfl)
theorem dX7_itemRefusal_25 : decode cX7_itemRefusal 25 = .ok (.astore 4, 2) := by decide +kernel
theorem rX7_itemRefusal_25 {R : zP} {x0 x1 x2 x3 x4 : Option zV} {st : List zV} {M : zM} {a : Nat} : uX7_itemRefusal R 25 [x0, x1, x2, x3, x4] (.inr (.inr a) :: st) M ↔ uX7_itemRefusal R 27 [x0, x1, x2, zkeep x3, some (.inr (.inr a))] st M := Iff.trans (zU_step dX7_itemRefusal_25 (Or.inl rfl)) ⟨fun h => h.2, fun h => ⟨show 4 < 5 by decide, h⟩⟩
theorem dX7_itemRefusal_27 : decode cX7_itemRefusal 27 = .ok (.aload 4, 2) := by decide +kernel
theorem rX7_itemRefusal_27 {R : zP} {x0 x1 x2 x3 : Option zV} {st : List zV} {M : zM} {a : Nat} : uX7_itemRefusal R 27 [x0, x1, x2, x3, some (.inr (.inr a))] st M ↔ uX7_itemRefusal R 29 [x0, x1, x2, x3, some (.inr (.inr a))] (.inr (.inr a) :: st) M := zU_step dX7_itemRefusal_27 (Or.inl rfl)
theorem dX7_itemRefusal_29 : decode cX7_itemRefusal 29 = .ok (.invokevirtual 127, 3) := by decide +kernel
theorem rX7_itemRefusal_29 {R : zP} {x0 x1 x2 x3 x4 : Option zV} {st : List zV} {M : zM} {a0 : zV} : uX7_itemRefusal R 29 [x0, x1, x2, x3, x4] (a0 :: st) M ↔ (st.length ≤ 4 ∧ zcv (zv 1 tX1_isLost) [a0] M (fun v M => uX7_itemRefusal R 32 [x0, x1, x2, x3, x4] (v :: st) M)) := Iff.trans (zU_step dX7_itemRefusal_29 (Or.inl rfl)) ⟨fun h => ⟨h.2.1, zcv_of h.2.2⟩, fun h => ⟨rfl, h.1, zcv_to h.2⟩⟩
theorem dX7_itemRefusal_32 : decode cX7_itemRefusal 32 = .ok (.ifCond .eq 9, 3) := by decide +kernel
theorem rX7_itemRefusal_32 {R : zP} {x0 x1 x2 x3 x4 : Option zV} {st : List zV} {M : zM} {a : Int} : uX7_itemRefusal R 32 [x0, x1, x2, x3, x4] (.inl a :: st) M ↔ (zIR a ∧ (a = 0 → uX7_itemRefusal R 41 [x0, x1, x2, x3, x4] st M) ∧ (¬ a = 0 → uX7_itemRefusal R 35 [x0, x1, x2, x3, x4] st M)) := Iff.trans (zU_step dX7_itemRefusal_32 (Or.inl rfl)) ⟨fun h => ⟨h.1.1, h.2⟩, fun h => ⟨⟨h.1, by decide⟩, h.2⟩⟩
theorem dX7_itemRefusal_35 : decode cX7_itemRefusal 35 = .ok (.aload_n 0, 1) := by decide +kernel
theorem rX7_itemRefusal_35 {R : zP} {x1 x2 x3 x4 : Option zV} {st : List zV} {M : zM} {a : Nat} : uX7_itemRefusal R 35 [some (.inr (.inr a)), x1, x2, x3, x4] st M ↔ uX7_itemRefusal R 36 [some (.inr (.inr a)), x1, x2, x3, x4] (.inr (.inr a) :: st) M := zU_step dX7_itemRefusal_35 (Or.inl rfl)
theorem dX7_itemRefusal_36 : decode cX7_itemRefusal 36 = .ok (.iconst 1, 1) := by decide +kernel
theorem rX7_itemRefusal_36 {R : zP} {x0 x1 x2 x3 x4 : Option zV} {st : List zV} {M : zM} : uX7_itemRefusal R 36 [x0, x1, x2, x3, x4] st M ↔ uX7_itemRefusal R 37 [x0, x1, x2, x3, x4] (.inl (1) :: st) M := zU_step dX7_itemRefusal_36 (Or.inl rfl)
theorem dX7_itemRefusal_37 : decode cX7_itemRefusal 37 = .ok (.invokevirtual 131, 3) := by decide +kernel
theorem rX7_itemRefusal_37 {R : zP} {x0 x1 x2 x3 x4 : Option zV} {st : List zV} {M : zM} {a0 a1 : zV} : uX7_itemRefusal R 37 [x0, x1, x2, x3, x4] (a1 :: a0 :: st) M ↔ (st.length ≤ 4 ∧ zcv (zv 7 tX7_finding) [a0, a1] M (fun v M => uX7_itemRefusal R 40 [x0, x1, x2, x3, x4] (v :: st) M)) := Iff.trans (zU_step dX7_itemRefusal_37 (Or.inl rfl)) ⟨fun h => ⟨h.2.1, zcv_of h.2.2⟩, fun h => ⟨rfl, h.1, zcv_to h.2⟩⟩
theorem dX7_itemRefusal_40 : decode cX7_itemRefusal 40 = .ok (.ireturn, 1) := by decide +kernel
theorem rX7_itemRefusal_40 {R : zP} {x0 x1 x2 x3 x4 : Option zV} {M : zM} {a : Int} : uX7_itemRefusal R 40 [x0, x1, x2, x3, x4] [.inl a] M ↔ R (some (.inl a)) M := Iff.trans (zU_step dX7_itemRefusal_40 (Or.inl rfl)) ⟨fun h => h.2.2, fun h => ⟨rfl, Or.inl rfl, h⟩⟩
theorem dX7_itemRefusal_41 : decode cX7_itemRefusal 41 = .ok (.aload 4, 2) := by decide +kernel
theorem rX7_itemRefusal_41 {R : zP} {x0 x1 x2 x3 : Option zV} {st : List zV} {M : zM} {a : Nat} : uX7_itemRefusal R 41 [x0, x1, x2, x3, some (.inr (.inr a))] st M ↔ uX7_itemRefusal R 43 [x0, x1, x2, x3, some (.inr (.inr a))] (.inr (.inr a) :: st) M := zU_step dX7_itemRefusal_41 (Or.inl rfl)
theorem dX7_itemRefusal_43 : decode cX7_itemRefusal 43 = .ok (.getfield 299, 3) := by decide +kernel
theorem rX7_itemRefusal_43 {R : zP} {x0 x1 x2 x3 x4 : Option zV} {st : List zV} {M : zM} {r : Nat} : uX7_itemRefusal R 43 [x0, x1, x2, x3, x4] (.inr (.inr r) :: st) M ↔ zgetx fX7 299 r M (fun v => uX7_itemRefusal R 46 [x0, x1, x2, x3, x4] (v :: st) M) := zU_step dX7_itemRefusal_43 (Or.inl rfl)
theorem dX7_itemRefusal_46 : decode cX7_itemRefusal 46 = .ok (.iload_n 2, 1) := by decide +kernel
theorem rX7_itemRefusal_46 {R : zP} {x0 x1 x3 x4 : Option zV} {st : List zV} {M : zM} {a : Int} : uX7_itemRefusal R 46 [x0, x1, some (.inl a), x3, x4] st M ↔ uX7_itemRefusal R 47 [x0, x1, some (.inl a), x3, x4] (.inl a :: st) M := zU_step dX7_itemRefusal_46 (Or.inl rfl)
theorem dX7_itemRefusal_47 : decode cX7_itemRefusal 47 = .ok (.if_icmp .eq 9, 3) := by decide +kernel
theorem rX7_itemRefusal_47 {R : zP} {x0 x1 x2 x3 x4 : Option zV} {st : List zV} {M : zM} {a b : Int} : uX7_itemRefusal R 47 [x0, x1, x2, x3, x4] (.inl b :: .inl a :: st) M ↔ ((zIR a ∧ zIR b) ∧ (a = b → uX7_itemRefusal R 56 [x0, x1, x2, x3, x4] st M) ∧ (¬ a = b → uX7_itemRefusal R 50 [x0, x1, x2, x3, x4] st M)) := Iff.trans (zU_step dX7_itemRefusal_47 (Or.inl rfl)) ⟨fun h => ⟨⟨h.1.1, h.1.2.1⟩, h.2⟩, fun h => ⟨⟨h.1.1, h.1.2, by decide⟩, h.2⟩⟩
theorem dX7_itemRefusal_50 : decode cX7_itemRefusal 50 = .ok (.aload_n 0, 1) := by decide +kernel
theorem rX7_itemRefusal_50 {R : zP} {x1 x2 x3 x4 : Option zV} {st : List zV} {M : zM} {a : Nat} : uX7_itemRefusal R 50 [some (.inr (.inr a)), x1, x2, x3, x4] st M ↔ uX7_itemRefusal R 51 [some (.inr (.inr a)), x1, x2, x3, x4] (.inr (.inr a) :: st) M := zU_step dX7_itemRefusal_50 (Or.inl rfl)
theorem dX7_itemRefusal_51 : decode cX7_itemRefusal 51 = .ok (.iconst 3, 1) := by decide +kernel
theorem rX7_itemRefusal_51 {R : zP} {x0 x1 x2 x3 x4 : Option zV} {st : List zV} {M : zM} : uX7_itemRefusal R 51 [x0, x1, x2, x3, x4] st M ↔ uX7_itemRefusal R 52 [x0, x1, x2, x3, x4] (.inl (3) :: st) M := zU_step dX7_itemRefusal_51 (Or.inl rfl)
theorem dX7_itemRefusal_52 : decode cX7_itemRefusal 52 = .ok (.invokevirtual 131, 3) := by decide +kernel
theorem rX7_itemRefusal_52 {R : zP} {x0 x1 x2 x3 x4 : Option zV} {st : List zV} {M : zM} {a0 a1 : zV} : uX7_itemRefusal R 52 [x0, x1, x2, x3, x4] (a1 :: a0 :: st) M ↔ (st.length ≤ 4 ∧ zcv (zv 7 tX7_finding) [a0, a1] M (fun v M => uX7_itemRefusal R 55 [x0, x1, x2, x3, x4] (v :: st) M)) := Iff.trans (zU_step dX7_itemRefusal_52 (Or.inl rfl)) ⟨fun h => ⟨h.2.1, zcv_of h.2.2⟩, fun h => ⟨rfl, h.1, zcv_to h.2⟩⟩
theorem dX7_itemRefusal_55 : decode cX7_itemRefusal 55 = .ok (.ireturn, 1) := by decide +kernel
theorem rX7_itemRefusal_55 {R : zP} {x0 x1 x2 x3 x4 : Option zV} {M : zM} {a : Int} : uX7_itemRefusal R 55 [x0, x1, x2, x3, x4] [.inl a] M ↔ R (some (.inl a)) M := Iff.trans (zU_step dX7_itemRefusal_55 (Or.inl rfl)) ⟨fun h => h.2.2, fun h => ⟨rfl, Or.inl rfl, h⟩⟩
theorem dX7_itemRefusal_56 : decode cX7_itemRefusal 56 = .ok (.iload_n 3, 1) := by decide +kernel
theorem rX7_itemRefusal_56 {R : zP} {x0 x1 x2 x4 : Option zV} {st : List zV} {M : zM} {a : Int} : uX7_itemRefusal R 56 [x0, x1, x2, some (.inl a), x4] st M ↔ uX7_itemRefusal R 57 [x0, x1, x2, some (.inl a), x4] (.inl a :: st) M := zU_step dX7_itemRefusal_56 (Or.inl rfl)
theorem dX7_itemRefusal_57 : decode cX7_itemRefusal 57 = .ok (.aload 4, 2) := by decide +kernel
theorem rX7_itemRefusal_57 {R : zP} {x0 x1 x2 x3 : Option zV} {st : List zV} {M : zM} {a : Nat} : uX7_itemRefusal R 57 [x0, x1, x2, x3, some (.inr (.inr a))] st M ↔ uX7_itemRefusal R 59 [x0, x1, x2, x3, some (.inr (.inr a))] (.inr (.inr a) :: st) M := zU_step dX7_itemRefusal_57 (Or.inl rfl)
theorem dX7_itemRefusal_59 : decode cX7_itemRefusal 59 = .ok (.getfield 134, 3) := by decide +kernel
theorem rX7_itemRefusal_59 {R : zP} {x0 x1 x2 x3 x4 : Option zV} {st : List zV} {M : zM} {r : Nat} : uX7_itemRefusal R 59 [x0, x1, x2, x3, x4] (.inr (.inr r) :: st) M ↔ zgetx fX7 134 r M (fun v => uX7_itemRefusal R 62 [x0, x1, x2, x3, x4] (v :: st) M) := zU_step dX7_itemRefusal_59 (Or.inl rfl)
theorem dX7_itemRefusal_62 : decode cX7_itemRefusal 62 = .ok (.invokestatic 94, 3) := by decide +kernel
theorem rX7_itemRefusal_62 {R : zP} {x0 x1 x2 x3 x4 : Option zV} {st : List zV} {M : zM} {a0 a1 : zV} : uX7_itemRefusal R 62 [x0, x1, x2, x3, x4] (a1 :: a0 :: st) M ↔ (st.length ≤ 4 ∧ zcv tX7_outside [a0, a1] M (fun v M => uX7_itemRefusal R 65 [x0, x1, x2, x3, x4] (v :: st) M)) := Iff.trans (zU_step dX7_itemRefusal_62 (Or.inl rfl)) ⟨fun h => ⟨h.2.1, zcv_of h.2.2⟩, fun h => ⟨rfl, h.1, zcv_to h.2⟩⟩
theorem dX7_itemRefusal_65 : decode cX7_itemRefusal 65 = .ok (.ifCond .eq 11, 3) := by decide +kernel
theorem rX7_itemRefusal_65 {R : zP} {x0 x1 x2 x3 x4 : Option zV} {st : List zV} {M : zM} {a : Int} : uX7_itemRefusal R 65 [x0, x1, x2, x3, x4] (.inl a :: st) M ↔ (zIR a ∧ (a = 0 → uX7_itemRefusal R 76 [x0, x1, x2, x3, x4] st M) ∧ (¬ a = 0 → uX7_itemRefusal R 68 [x0, x1, x2, x3, x4] st M)) := Iff.trans (zU_step dX7_itemRefusal_65 (Or.inl rfl)) ⟨fun h => ⟨h.1.1, h.2⟩, fun h => ⟨⟨h.1, by decide⟩, h.2⟩⟩
theorem dX7_itemRefusal_68 : decode cX7_itemRefusal 68 = .ok (.aload_n 0, 1) := by decide +kernel
theorem rX7_itemRefusal_68 {R : zP} {x1 x2 x3 x4 : Option zV} {st : List zV} {M : zM} {a : Nat} : uX7_itemRefusal R 68 [some (.inr (.inr a)), x1, x2, x3, x4] st M ↔ uX7_itemRefusal R 69 [some (.inr (.inr a)), x1, x2, x3, x4] (.inr (.inr a) :: st) M := zU_step dX7_itemRefusal_68 (Or.inl rfl)
theorem dX7_itemRefusal_69 : decode cX7_itemRefusal 69 = .ok (.iconst 2, 1) := by decide +kernel
theorem rX7_itemRefusal_69 {R : zP} {x0 x1 x2 x3 x4 : Option zV} {st : List zV} {M : zM} : uX7_itemRefusal R 69 [x0, x1, x2, x3, x4] st M ↔ uX7_itemRefusal R 70 [x0, x1, x2, x3, x4] (.inl (2) :: st) M := zU_step dX7_itemRefusal_69 (Or.inl rfl)
theorem dX7_itemRefusal_70 : decode cX7_itemRefusal 70 = .ok (.invokevirtual 131, 3) := by decide +kernel
theorem rX7_itemRefusal_70 {R : zP} {x0 x1 x2 x3 x4 : Option zV} {st : List zV} {M : zM} {a0 a1 : zV} : uX7_itemRefusal R 70 [x0, x1, x2, x3, x4] (a1 :: a0 :: st) M ↔ (st.length ≤ 4 ∧ zcv (zv 7 tX7_finding) [a0, a1] M (fun v M => uX7_itemRefusal R 73 [x0, x1, x2, x3, x4] (v :: st) M)) := Iff.trans (zU_step dX7_itemRefusal_70 (Or.inl rfl)) ⟨fun h => ⟨h.2.1, zcv_of h.2.2⟩, fun h => ⟨rfl, h.1, zcv_to h.2⟩⟩
theorem dX7_itemRefusal_73 : decode cX7_itemRefusal 73 = .ok (.goto 4, 3) := by decide +kernel
theorem rX7_itemRefusal_73 {R : zP} {x0 x1 x2 x3 x4 : Option zV} {st : List zV} {M : zM} : uX7_itemRefusal R 73 [x0, x1, x2, x3, x4] st M ↔ uX7_itemRefusal R 77 [x0, x1, x2, x3, x4] st M := Iff.trans (zU_step dX7_itemRefusal_73 (Or.inl rfl)) ⟨fun h => h.2, fun h => ⟨by decide, h⟩⟩
theorem dX7_itemRefusal_76 : decode cX7_itemRefusal 76 = .ok (.iconst 0, 1) := by decide +kernel
theorem rX7_itemRefusal_76 {R : zP} {x0 x1 x2 x3 x4 : Option zV} {st : List zV} {M : zM} : uX7_itemRefusal R 76 [x0, x1, x2, x3, x4] st M ↔ uX7_itemRefusal R 77 [x0, x1, x2, x3, x4] (.inl (0) :: st) M := zU_step dX7_itemRefusal_76 (Or.inl rfl)
theorem dX7_itemRefusal_77 : decode cX7_itemRefusal 77 = .ok (.ireturn, 1) := by decide +kernel
theorem rX7_itemRefusal_77 {R : zP} {x0 x1 x2 x3 x4 : Option zV} {M : zM} {a : Int} : uX7_itemRefusal R 77 [x0, x1, x2, x3, x4] [.inl a] M ↔ R (some (.inl a)) M := Iff.trans (zU_step dX7_itemRefusal_77 (Or.inl rfl)) ⟨fun h => h.2.2, fun h => ⟨rfl, Or.inl rfl, h⟩⟩
theorem eX7_itemRefusal {R : zP} {M : zM} {a0 : Nat} {p0 : Int} {p1 : Int} {p2 : Int} : tX7_itemRefusal [.inr (.inr a0), .inl p0, .inl p1, .inl p2] M R ↔ uX7_itemRefusal R 0 [some (.inr (.inr a0)), some (.inl p0), some (.inl p1), some (.inl p2), none] [] M := ⟨fun h => h.2, fun h => ⟨show 4 ≤ 5 by decide, h⟩⟩
def uX7_put (R : zP) : zK := zU fX7 vX7_put cX7_put R
theorem dX7_put_0 : decode cX7_put 0 = .ok (.aload_n 0, 1) := by decide +kernel
theorem rX7_put_0 {R : zP} {x1 x2 x3 x4 x5 : Option zV} {st : List zV} {M : zM} {a : Nat} : uX7_put R 0 [some (.inr (.inr a)), x1, x2, x3, x4, x5] st M ↔ uX7_put R 1 [some (.inr (.inr a)), x1, x2, x3, x4, x5] (.inr (.inr a) :: st) M := zU_step dX7_put_0 (Or.inl rfl)
theorem dX7_put_1 : decode cX7_put 1 = .ok (.iload_n 1, 1) := by decide +kernel
theorem rX7_put_1 {R : zP} {x0 x2 x3 x4 x5 : Option zV} {st : List zV} {M : zM} {a : Int} : uX7_put R 1 [x0, some (.inl a), x2, x3, x4, x5] st M ↔ uX7_put R 2 [x0, some (.inl a), x2, x3, x4, x5] (.inl a :: st) M := zU_step dX7_put_1 (Or.inl rfl)
theorem dX7_put_2 : decode cX7_put 2 = .ok (.iload_n 2, 1) := by decide +kernel
theorem rX7_put_2 {R : zP} {x0 x1 x3 x4 x5 : Option zV} {st : List zV} {M : zM} {a : Int} : uX7_put R 2 [x0, x1, some (.inl a), x3, x4, x5] st M ↔ uX7_put R 3 [x0, x1, some (.inl a), x3, x4, x5] (.inl a :: st) M := zU_step dX7_put_2 (Or.inl rfl)
theorem dX7_put_3 : decode cX7_put 3 = .ok (.iload_n 3, 1) := by decide +kernel
theorem rX7_put_3 {R : zP} {x0 x1 x2 x4 x5 : Option zV} {st : List zV} {M : zM} {a : Int} : uX7_put R 3 [x0, x1, x2, some (.inl a), x4, x5] st M ↔ uX7_put R 4 [x0, x1, x2, some (.inl a), x4, x5] (.inl a :: st) M := zU_step dX7_put_3 (Or.inl rfl)
theorem dX7_put_4 : decode cX7_put 4 = .ok (.invokevirtual 292, 3) := by decide +kernel
theorem rX7_put_4 {R : zP} {x0 x1 x2 x3 x4 x5 : Option zV} {st : List zV} {M : zM} {a0 a1 a2 a3 : zV} : uX7_put R 4 [x0, x1, x2, x3, x4, x5] (a3 :: a2 :: a1 :: a0 :: st) M ↔ (st.length ≤ 4 ∧ zcv (zv 7 tX7_itemRefusal) [a0, a1, a2, a3] M (fun v M => uX7_put R 7 [x0, x1, x2, x3, x4, x5] (v :: st) M)) := Iff.trans (zU_step dX7_put_4 (Or.inl rfl)) ⟨fun h => ⟨h.2.1, zcv_of h.2.2⟩, fun h => ⟨rfl, h.1, zcv_to h.2⟩⟩
theorem dX7_put_7 : decode cX7_put 7 = .ok (.istore 5, 2) := by decide +kernel
theorem rX7_put_7 {R : zP} {x0 x1 x2 x3 x4 x5 : Option zV} {st : List zV} {M : zM} {a : Int} : uX7_put R 7 [x0, x1, x2, x3, x4, x5] (.inl a :: st) M ↔ uX7_put R 9 [x0, x1, x2, x3, zkeep x4, some (.inl a)] st M := Iff.trans (zU_step dX7_put_7 (Or.inl rfl)) ⟨fun h => h.2, fun h => ⟨show 5 < 6 by decide, h⟩⟩
theorem dX7_put_9 : decode cX7_put 9 = .ok (.iload 5, 2) := by decide +kernel
theorem rX7_put_9 {R : zP} {x0 x1 x2 x3 x4 : Option zV} {st : List zV} {M : zM} {a : Int} : uX7_put R 9 [x0, x1, x2, x3, x4, some (.inl a)] st M ↔ uX7_put R 11 [x0, x1, x2, x3, x4, some (.inl a)] (.inl a :: st) M := zU_step dX7_put_9 (Or.inl rfl)
theorem dX7_put_11 : decode cX7_put 11 = .ok (.ifCond .eq 6, 3) := by decide +kernel
theorem rX7_put_11 {R : zP} {x0 x1 x2 x3 x4 x5 : Option zV} {st : List zV} {M : zM} {a : Int} : uX7_put R 11 [x0, x1, x2, x3, x4, x5] (.inl a :: st) M ↔ (zIR a ∧ (a = 0 → uX7_put R 17 [x0, x1, x2, x3, x4, x5] st M) ∧ (¬ a = 0 → uX7_put R 14 [x0, x1, x2, x3, x4, x5] st M)) := Iff.trans (zU_step dX7_put_11 (Or.inl rfl)) ⟨fun h => ⟨h.1.1, h.2⟩, fun h => ⟨⟨h.1, by decide⟩, h.2⟩⟩
theorem dX7_put_14 : decode cX7_put 14 = .ok (.iload 5, 2) := by decide +kernel
theorem rX7_put_14 {R : zP} {x0 x1 x2 x3 x4 : Option zV} {st : List zV} {M : zM} {a : Int} : uX7_put R 14 [x0, x1, x2, x3, x4, some (.inl a)] st M ↔ uX7_put R 16 [x0, x1, x2, x3, x4, some (.inl a)] (.inl a :: st) M := zU_step dX7_put_14 (Or.inl rfl)
theorem dX7_put_16 : decode cX7_put 16 = .ok (.ireturn, 1) := by decide +kernel
theorem rX7_put_16 {R : zP} {x0 x1 x2 x3 x4 x5 : Option zV} {M : zM} {a : Int} : uX7_put R 16 [x0, x1, x2, x3, x4, x5] [.inl a] M ↔ R (some (.inl a)) M := Iff.trans (zU_step dX7_put_16 (Or.inl rfl)) ⟨fun h => h.2.2, fun h => ⟨rfl, Or.inl rfl, h⟩⟩
theorem dX7_put_17 : decode cX7_put 17 = .ok (.aload_n 0, 1) := by decide +kernel
theorem rX7_put_17 {R : zP} {x1 x2 x3 x4 x5 : Option zV} {st : List zV} {M : zM} {a : Nat} : uX7_put R 17 [some (.inr (.inr a)), x1, x2, x3, x4, x5] st M ↔ uX7_put R 18 [some (.inr (.inr a)), x1, x2, x3, x4, x5] (.inr (.inr a) :: st) M := zU_step dX7_put_17 (Or.inl rfl)
theorem dX7_put_18 : decode cX7_put 18 = .ok (.getfield 44, 3) := by decide +kernel
theorem rX7_put_18 {R : zP} {x0 x1 x2 x3 x4 x5 : Option zV} {st : List zV} {M : zM} {r : Nat} : uX7_put R 18 [x0, x1, x2, x3, x4, x5] (.inr (.inr r) :: st) M ↔ zgetx fX7 44 r M (fun v => uX7_put R 21 [x0, x1, x2, x3, x4, x5] (v :: st) M) := zU_step dX7_put_18 (Or.inl rfl)
theorem dX7_put_21 : decode cX7_put 21 = .ok (.iload_n 1, 1) := by decide +kernel
theorem rX7_put_21 {R : zP} {x0 x2 x3 x4 x5 : Option zV} {st : List zV} {M : zM} {a : Int} : uX7_put R 21 [x0, some (.inl a), x2, x3, x4, x5] st M ↔ uX7_put R 22 [x0, some (.inl a), x2, x3, x4, x5] (.inl a :: st) M := zU_step dX7_put_21 (Or.inl rfl)
theorem dX7_put_22 : decode cX7_put 22 = .ok (.aaload, 1) := by decide +kernel
theorem rX7_put_22 {R : zP} {x0 x1 x2 x3 x4 x5 : Option zV} {st : List zV} {M : zM} {i : Int} {r : Nat} : uX7_put R 22 [x0, x1, x2, x3, x4, x5] (.inl i :: .inr (.inr r) :: st) M ↔ zopt (zrow r) (fun rs => (0 ≤ i ∧ i < rs.length) ∧ uX7_put R 23 [x0, x1, x2, x3, x4, x5] (.inr (.inr (rs.getD i.toNat 0)) :: st) M) := zU_step dX7_put_22 (Or.inl rfl)
theorem dX7_put_23 : decode cX7_put 23 = .ok (.iload_n 3, 1) := by decide +kernel
theorem rX7_put_23 {R : zP} {x0 x1 x2 x4 x5 : Option zV} {st : List zV} {M : zM} {a : Int} : uX7_put R 23 [x0, x1, x2, some (.inl a), x4, x5] st M ↔ uX7_put R 24 [x0, x1, x2, some (.inl a), x4, x5] (.inl a :: st) M := zU_step dX7_put_23 (Or.inl rfl)
theorem dX7_put_24 : decode cX7_put 24 = .ok (.iload 4, 2) := by decide +kernel
theorem rX7_put_24 {R : zP} {x0 x1 x2 x3 x5 : Option zV} {st : List zV} {M : zM} {a : Int} : uX7_put R 24 [x0, x1, x2, x3, some (.inl a), x5] st M ↔ uX7_put R 26 [x0, x1, x2, x3, some (.inl a), x5] (.inl a :: st) M := zU_step dX7_put_24 (Or.inl rfl)
theorem dX7_put_26 : decode cX7_put 26 = .ok (.invokevirtual 295, 3) := by decide +kernel
theorem rX7_put_26 {R : zP} {x0 x1 x2 x3 x4 x5 : Option zV} {st : List zV} {M : zM} {a0 a1 a2 : zV} : uX7_put R 26 [x0, x1, x2, x3, x4, x5] (a2 :: a1 :: a0 :: st) M ↔ (st.length ≤ 4 ∧ zcn (zv 1 tX1_store) [a0, a1, a2] M (fun M => uX7_put R 29 [x0, x1, x2, x3, x4, x5] st M)) := Iff.trans (zU_step dX7_put_26 (Or.inl rfl)) ⟨fun h => ⟨h.2.1, zcn_of h.2.2⟩, fun h => ⟨rfl, h.1, zcn_to h.2⟩⟩
theorem dX7_put_29 : decode cX7_put 29 = .ok (.iconst 1, 1) := by decide +kernel
theorem rX7_put_29 {R : zP} {x0 x1 x2 x3 x4 x5 : Option zV} {st : List zV} {M : zM} : uX7_put R 29 [x0, x1, x2, x3, x4, x5] st M ↔ uX7_put R 30 [x0, x1, x2, x3, x4, x5] (.inl (1) :: st) M := zU_step dX7_put_29 (Or.inl rfl)
theorem dX7_put_30 : decode cX7_put 30 = .ok (.ireturn, 1) := by decide +kernel
theorem rX7_put_30 {R : zP} {x0 x1 x2 x3 x4 x5 : Option zV} {M : zM} {a : Int} : uX7_put R 30 [x0, x1, x2, x3, x4, x5] [.inl a] M ↔ R (some (.inl a)) M := Iff.trans (zU_step dX7_put_30 (Or.inl rfl)) ⟨fun h => h.2.2, fun h => ⟨rfl, Or.inl rfl, h⟩⟩
theorem eX7_put {R : zP} {M : zM} {a0 : Nat} {p0 : Int} {p1 : Int} {p2 : Int} {p3 : Int} : tX7_put [.inr (.inr a0), .inl p0, .inl p1, .inl p2, .inl p3] M R ↔ uX7_put R 0 [some (.inr (.inr a0)), some (.inl p0), some (.inl p1), some (.inl p2), some (.inl p3), none] [] M := ⟨fun h => h.2, fun h => ⟨show 5 ≤ 6 by decide, h⟩⟩
def uX7_get (R : zP) : zK := zU fX7 vX7_get cX7_get R
theorem dX7_get_0 : decode cX7_get 0 = .ok (.aload_n 0, 1) := by decide +kernel
theorem rX7_get_0 {R : zP} {x1 x2 x3 : Option zV} {st : List zV} {M : zM} {a : Nat} : uX7_get R 0 [some (.inr (.inr a)), x1, x2, x3] st M ↔ uX7_get R 1 [some (.inr (.inr a)), x1, x2, x3] (.inr (.inr a) :: st) M := zU_step dX7_get_0 (Or.inl rfl)
theorem dX7_get_1 : decode cX7_get 1 = .ok (.iload_n 1, 1) := by decide +kernel
theorem rX7_get_1 {R : zP} {x0 x2 x3 : Option zV} {st : List zV} {M : zM} {a : Int} : uX7_get R 1 [x0, some (.inl a), x2, x3] st M ↔ uX7_get R 2 [x0, some (.inl a), x2, x3] (.inl a :: st) M := zU_step dX7_get_1 (Or.inl rfl)
theorem dX7_get_2 : decode cX7_get 2 = .ok (.iload_n 2, 1) := by decide +kernel
theorem rX7_get_2 {R : zP} {x0 x1 x3 : Option zV} {st : List zV} {M : zM} {a : Int} : uX7_get R 2 [x0, x1, some (.inl a), x3] st M ↔ uX7_get R 3 [x0, x1, some (.inl a), x3] (.inl a :: st) M := zU_step dX7_get_2 (Or.inl rfl)
theorem dX7_get_3 : decode cX7_get 3 = .ok (.iload_n 3, 1) := by decide +kernel
theorem rX7_get_3 {R : zP} {x0 x1 x2 : Option zV} {st : List zV} {M : zM} {a : Int} : uX7_get R 3 [x0, x1, x2, some (.inl a)] st M ↔ uX7_get R 4 [x0, x1, x2, some (.inl a)] (.inl a :: st) M := zU_step dX7_get_3 (Or.inl rfl)
theorem dX7_get_4 : decode cX7_get 4 = .ok (.invokevirtual 292, 3) := by decide +kernel
theorem rX7_get_4 {R : zP} {x0 x1 x2 x3 : Option zV} {st : List zV} {M : zM} {a0 a1 a2 a3 : zV} : uX7_get R 4 [x0, x1, x2, x3] (a3 :: a2 :: a1 :: a0 :: st) M ↔ (st.length ≤ 4 ∧ zcv (zv 7 tX7_itemRefusal) [a0, a1, a2, a3] M (fun v M => uX7_get R 7 [x0, x1, x2, x3] (v :: st) M)) := Iff.trans (zU_step dX7_get_4 (Or.inl rfl)) ⟨fun h => ⟨h.2.1, zcv_of h.2.2⟩, fun h => ⟨rfl, h.1, zcv_to h.2⟩⟩
theorem dX7_get_7 : decode cX7_get 7 = .ok (.ifCond .eq 7, 3) := by decide +kernel
theorem rX7_get_7 {R : zP} {x0 x1 x2 x3 : Option zV} {st : List zV} {M : zM} {a : Int} : uX7_get R 7 [x0, x1, x2, x3] (.inl a :: st) M ↔ (zIR a ∧ (a = 0 → uX7_get R 14 [x0, x1, x2, x3] st M) ∧ (¬ a = 0 → uX7_get R 10 [x0, x1, x2, x3] st M)) := Iff.trans (zU_step dX7_get_7 (Or.inl rfl)) ⟨fun h => ⟨h.1.1, h.2⟩, fun h => ⟨⟨h.1, by decide⟩, h.2⟩⟩
theorem dX7_get_10 : decode cX7_get 10 = .ok (.ldc_w 298, 3) := by decide +kernel
theorem rX7_get_10 {R : zP} {x0 x1 x2 x3 : Option zV} {st : List zV} {M : zM} : uX7_get R 10 [x0, x1, x2, x3] st M ↔ uX7_get R 13 [x0, x1, x2, x3] (.inl (-2147483648) :: st) M := zU_step dX7_get_10 (Or.inl rfl)
theorem dX7_get_13 : decode cX7_get 13 = .ok (.ireturn, 1) := by decide +kernel
theorem rX7_get_13 {R : zP} {x0 x1 x2 x3 : Option zV} {M : zM} {a : Int} : uX7_get R 13 [x0, x1, x2, x3] [.inl a] M ↔ R (some (.inl a)) M := Iff.trans (zU_step dX7_get_13 (Or.inl rfl)) ⟨fun h => h.2.2, fun h => ⟨rfl, Or.inl rfl, h⟩⟩
theorem dX7_get_14 : decode cX7_get 14 = .ok (.aload_n 0, 1) := by decide +kernel
theorem rX7_get_14 {R : zP} {x1 x2 x3 : Option zV} {st : List zV} {M : zM} {a : Nat} : uX7_get R 14 [some (.inr (.inr a)), x1, x2, x3] st M ↔ uX7_get R 15 [some (.inr (.inr a)), x1, x2, x3] (.inr (.inr a) :: st) M := zU_step dX7_get_14 (Or.inl rfl)
theorem dX7_get_15 : decode cX7_get 15 = .ok (.getfield 44, 3) := by decide +kernel
theorem rX7_get_15 {R : zP} {x0 x1 x2 x3 : Option zV} {st : List zV} {M : zM} {r : Nat} : uX7_get R 15 [x0, x1, x2, x3] (.inr (.inr r) :: st) M ↔ zgetx fX7 44 r M (fun v => uX7_get R 18 [x0, x1, x2, x3] (v :: st) M) := zU_step dX7_get_15 (Or.inl rfl)
theorem dX7_get_18 : decode cX7_get 18 = .ok (.iload_n 1, 1) := by decide +kernel
theorem rX7_get_18 {R : zP} {x0 x2 x3 : Option zV} {st : List zV} {M : zM} {a : Int} : uX7_get R 18 [x0, some (.inl a), x2, x3] st M ↔ uX7_get R 19 [x0, some (.inl a), x2, x3] (.inl a :: st) M := zU_step dX7_get_18 (Or.inl rfl)
theorem dX7_get_19 : decode cX7_get 19 = .ok (.aaload, 1) := by decide +kernel
theorem rX7_get_19 {R : zP} {x0 x1 x2 x3 : Option zV} {st : List zV} {M : zM} {i : Int} {r : Nat} : uX7_get R 19 [x0, x1, x2, x3] (.inl i :: .inr (.inr r) :: st) M ↔ zopt (zrow r) (fun rs => (0 ≤ i ∧ i < rs.length) ∧ uX7_get R 20 [x0, x1, x2, x3] (.inr (.inr (rs.getD i.toNat 0)) :: st) M) := zU_step dX7_get_19 (Or.inl rfl)
theorem dX7_get_20 : decode cX7_get 20 = .ok (.getfield 137, 3) := by decide +kernel
theorem rX7_get_20 {R : zP} {x0 x1 x2 x3 : Option zV} {st : List zV} {M : zM} {r : Nat} : uX7_get R 20 [x0, x1, x2, x3] (.inr (.inr r) :: st) M ↔ zgetx fX7 137 r M (fun v => uX7_get R 23 [x0, x1, x2, x3] (v :: st) M) := zU_step dX7_get_20 (Or.inl rfl)
theorem dX7_get_23 : decode cX7_get 23 = .ok (.iload_n 3, 1) := by decide +kernel
theorem rX7_get_23 {R : zP} {x0 x1 x2 : Option zV} {st : List zV} {M : zM} {a : Int} : uX7_get R 23 [x0, x1, x2, some (.inl a)] st M ↔ uX7_get R 24 [x0, x1, x2, some (.inl a)] (.inl a :: st) M := zU_step dX7_get_23 (Or.inl rfl)
theorem dX7_get_24 : decode cX7_get 24 = .ok (.iaload, 1) := by decide +kernel
theorem rX7_get_24 {R : zP} {x0 x1 x2 x3 : Option zV} {st : List zV} {M : zM} {i : Int} {r : Nat} : uX7_get R 24 [x0, x1, x2, x3] (.inl i :: .inr (.inr r) :: st) M ↔ zread fX7 0 r M i (fun v => uX7_get R 25 [x0, x1, x2, x3] (.inl v :: st) M) := zU_step dX7_get_24 (Or.inl rfl)
theorem dX7_get_25 : decode cX7_get 25 = .ok (.ireturn, 1) := by decide +kernel
theorem rX7_get_25 {R : zP} {x0 x1 x2 x3 : Option zV} {M : zM} {a : Int} : uX7_get R 25 [x0, x1, x2, x3] [.inl a] M ↔ R (some (.inl a)) M := Iff.trans (zU_step dX7_get_25 (Or.inl rfl)) ⟨fun h => h.2.2, fun h => ⟨rfl, Or.inl rfl, h⟩⟩
theorem eX7_get {R : zP} {M : zM} {a0 : Nat} {p0 : Int} {p1 : Int} {p2 : Int} : tX7_get [.inr (.inr a0), .inl p0, .inl p1, .inl p2] M R ↔ uX7_get R 0 [some (.inr (.inr a0)), some (.inl p0), some (.inl p1), some (.inl p2)] [] M := ⟨fun h => h.2, fun h => ⟨show 4 ≤ 4 by decide, h⟩⟩
def uX7_copy (R : zP) : zK := zU fX7 vX7_copy cX7_copy R
theorem dX7_copy_0 : decode cX7_copy 0 = .ok (.iload_n 1, 1) := by decide +kernel
theorem rX7_copy_0 {R : zP} {x0 x2 x3 x4 x5 x6 x7 : Option zV} {st : List zV} {M : zM} {a : Int} : uX7_copy R 0 [x0, some (.inl a), x2, x3, x4, x5, x6, x7] st M ↔ uX7_copy R 1 [x0, some (.inl a), x2, x3, x4, x5, x6, x7] (.inl a :: st) M := zU_step dX7_copy_0 (Or.inl rfl)
theorem dX7_copy_1 : decode cX7_copy 1 = .ok (.iconst 4, 1) := by decide +kernel
theorem rX7_copy_1 {R : zP} {x0 x1 x2 x3 x4 x5 x6 x7 : Option zV} {st : List zV} {M : zM} : uX7_copy R 1 [x0, x1, x2, x3, x4, x5, x6, x7] st M ↔ uX7_copy R 2 [x0, x1, x2, x3, x4, x5, x6, x7] (.inl (4) :: st) M := zU_step dX7_copy_1 (Or.inl rfl)
theorem dX7_copy_2 : decode cX7_copy 2 = .ok (.invokestatic 94, 3) := by decide +kernel
theorem rX7_copy_2 {R : zP} {x0 x1 x2 x3 x4 x5 x6 x7 : Option zV} {st : List zV} {M : zM} {a0 a1 : zV} : uX7_copy R 2 [x0, x1, x2, x3, x4, x5, x6, x7] (a1 :: a0 :: st) M ↔ (st.length ≤ 4 ∧ zcv tX7_outside [a0, a1] M (fun v M => uX7_copy R 5 [x0, x1, x2, x3, x4, x5, x6, x7] (v :: st) M)) := Iff.trans (zU_step dX7_copy_2 (Or.inl rfl)) ⟨fun h => ⟨h.2.1, zcv_of h.2.2⟩, fun h => ⟨rfl, h.1, zcv_to h.2⟩⟩
theorem dX7_copy_5 : decode cX7_copy 5 = .ok (.ifCond .ne 11, 3) := by decide +kernel
theorem rX7_copy_5 {R : zP} {x0 x1 x2 x3 x4 x5 x6 x7 : Option zV} {st : List zV} {M : zM} {a : Int} : uX7_copy R 5 [x0, x1, x2, x3, x4, x5, x6, x7] (.inl a :: st) M ↔ (zIR a ∧ (a ≠ 0 → uX7_copy R 16 [x0, x1, x2, x3, x4, x5, x6, x7] st M) ∧ (¬ a ≠ 0 → uX7_copy R 8 [x0, x1, x2, x3, x4, x5, x6, x7] st M)) := Iff.trans (zU_step dX7_copy_5 (Or.inl rfl)) ⟨fun h => ⟨h.1.1, h.2⟩, fun h => ⟨⟨h.1, by decide⟩, h.2⟩⟩
theorem dX7_copy_8 : decode cX7_copy 8 = .ok (.iload_n 3, 1) := by decide +kernel
theorem rX7_copy_8 {R : zP} {x0 x1 x2 x4 x5 x6 x7 : Option zV} {st : List zV} {M : zM} {a : Int} : uX7_copy R 8 [x0, x1, x2, some (.inl a), x4, x5, x6, x7] st M ↔ uX7_copy R 9 [x0, x1, x2, some (.inl a), x4, x5, x6, x7] (.inl a :: st) M := zU_step dX7_copy_8 (Or.inl rfl)
theorem dX7_copy_9 : decode cX7_copy 9 = .ok (.iconst 4, 1) := by decide +kernel
theorem rX7_copy_9 {R : zP} {x0 x1 x2 x3 x4 x5 x6 x7 : Option zV} {st : List zV} {M : zM} : uX7_copy R 9 [x0, x1, x2, x3, x4, x5, x6, x7] st M ↔ uX7_copy R 10 [x0, x1, x2, x3, x4, x5, x6, x7] (.inl (4) :: st) M := zU_step dX7_copy_9 (Or.inl rfl)
theorem dX7_copy_10 : decode cX7_copy 10 = .ok (.invokestatic 94, 3) := by decide +kernel
theorem rX7_copy_10 {R : zP} {x0 x1 x2 x3 x4 x5 x6 x7 : Option zV} {st : List zV} {M : zM} {a0 a1 : zV} : uX7_copy R 10 [x0, x1, x2, x3, x4, x5, x6, x7] (a1 :: a0 :: st) M ↔ (st.length ≤ 4 ∧ zcv tX7_outside [a0, a1] M (fun v M => uX7_copy R 13 [x0, x1, x2, x3, x4, x5, x6, x7] (v :: st) M)) := Iff.trans (zU_step dX7_copy_10 (Or.inl rfl)) ⟨fun h => ⟨h.2.1, zcv_of h.2.2⟩, fun h => ⟨rfl, h.1, zcv_to h.2⟩⟩
theorem dX7_copy_13 : decode cX7_copy 13 = .ok (.ifCond .eq 6, 3) := by decide +kernel
theorem rX7_copy_13 {R : zP} {x0 x1 x2 x3 x4 x5 x6 x7 : Option zV} {st : List zV} {M : zM} {a : Int} : uX7_copy R 13 [x0, x1, x2, x3, x4, x5, x6, x7] (.inl a :: st) M ↔ (zIR a ∧ (a = 0 → uX7_copy R 19 [x0, x1, x2, x3, x4, x5, x6, x7] st M) ∧ (¬ a = 0 → uX7_copy R 16 [x0, x1, x2, x3, x4, x5, x6, x7] st M)) := Iff.trans (zU_step dX7_copy_13 (Or.inl rfl)) ⟨fun h => ⟨h.1.1, h.2⟩, fun h => ⟨⟨h.1, by decide⟩, h.2⟩⟩
theorem dX7_copy_16 : decode cX7_copy 16 = .ok (.bipush (-2), 2) := by decide +kernel
theorem rX7_copy_16 {R : zP} {x0 x1 x2 x3 x4 x5 x6 x7 : Option zV} {st : List zV} {M : zM} : uX7_copy R 16 [x0, x1, x2, x3, x4, x5, x6, x7] st M ↔ uX7_copy R 18 [x0, x1, x2, x3, x4, x5, x6, x7] (.inl (-2) :: st) M := Iff.trans (zU_step dX7_copy_16 (Or.inl rfl)) ⟨fun h => h.2, fun h => ⟨by decide, h⟩⟩
theorem dX7_copy_18 : decode cX7_copy 18 = .ok (.ireturn, 1) := by decide +kernel
theorem rX7_copy_18 {R : zP} {x0 x1 x2 x3 x4 x5 x6 x7 : Option zV} {M : zM} {a : Int} : uX7_copy R 18 [x0, x1, x2, x3, x4, x5, x6, x7] [.inl a] M ↔ R (some (.inl a)) M := Iff.trans (zU_step dX7_copy_18 (Or.inl rfl)) ⟨fun h => h.2.2, fun h => ⟨rfl, Or.inl rfl, h⟩⟩
theorem dX7_copy_19 : decode cX7_copy 19 = .ok (.aload_n 0, 1) := by decide +kernel
theorem rX7_copy_19 {R : zP} {x1 x2 x3 x4 x5 x6 x7 : Option zV} {st : List zV} {M : zM} {a : Nat} : uX7_copy R 19 [some (.inr (.inr a)), x1, x2, x3, x4, x5, x6, x7] st M ↔ uX7_copy R 20 [some (.inr (.inr a)), x1, x2, x3, x4, x5, x6, x7] (.inr (.inr a) :: st) M := zU_step dX7_copy_19 (Or.inl rfl)
theorem dX7_copy_20 : decode cX7_copy 20 = .ok (.getfield 44, 3) := by decide +kernel
theorem rX7_copy_20 {R : zP} {x0 x1 x2 x3 x4 x5 x6 x7 : Option zV} {st : List zV} {M : zM} {r : Nat} : uX7_copy R 20 [x0, x1, x2, x3, x4, x5, x6, x7] (.inr (.inr r) :: st) M ↔ zgetx fX7 44 r M (fun v => uX7_copy R 23 [x0, x1, x2, x3, x4, x5, x6, x7] (v :: st) M) := zU_step dX7_copy_20 (Or.inl rfl)
theorem dX7_copy_23 : decode cX7_copy 23 = .ok (.iload_n 1, 1) := by decide +kernel
theorem rX7_copy_23 {R : zP} {x0 x2 x3 x4 x5 x6 x7 : Option zV} {st : List zV} {M : zM} {a : Int} : uX7_copy R 23 [x0, some (.inl a), x2, x3, x4, x5, x6, x7] st M ↔ uX7_copy R 24 [x0, some (.inl a), x2, x3, x4, x5, x6, x7] (.inl a :: st) M := zU_step dX7_copy_23 (Or.inl rfl)
theorem dX7_copy_24 : decode cX7_copy 24 = .ok (.aaload, 1) := by decide +kernel
theorem rX7_copy_24 {R : zP} {x0 x1 x2 x3 x4 x5 x6 x7 : Option zV} {st : List zV} {M : zM} {i : Int} {r : Nat} : uX7_copy R 24 [x0, x1, x2, x3, x4, x5, x6, x7] (.inl i :: .inr (.inr r) :: st) M ↔ zopt (zrow r) (fun rs => (0 ≤ i ∧ i < rs.length) ∧ uX7_copy R 25 [x0, x1, x2, x3, x4, x5, x6, x7] (.inr (.inr (rs.getD i.toNat 0)) :: st) M) := zU_step dX7_copy_24 (Or.inl rfl)
theorem dX7_copy_25 : decode cX7_copy 25 = .ok (.astore 6, 2) := by decide +kernel
theorem rX7_copy_25 {R : zP} {x0 x1 x2 x3 x4 x5 x6 x7 : Option zV} {st : List zV} {M : zM} {a : Nat} : uX7_copy R 25 [x0, x1, x2, x3, x4, x5, x6, x7] (.inr (.inr a) :: st) M ↔ uX7_copy R 27 [x0, x1, x2, x3, x4, zkeep x5, some (.inr (.inr a)), x7] st M := Iff.trans (zU_step dX7_copy_25 (Or.inl rfl)) ⟨fun h => h.2, fun h => ⟨show 6 < 8 by decide, h⟩⟩
theorem dX7_copy_27 : decode cX7_copy 27 = .ok (.aload_n 0, 1) := by decide +kernel
theorem rX7_copy_27 {R : zP} {x1 x2 x3 x4 x5 x6 x7 : Option zV} {st : List zV} {M : zM} {a : Nat} : uX7_copy R 27 [some (.inr (.inr a)), x1, x2, x3, x4, x5, x6, x7] st M ↔ uX7_copy R 28 [some (.inr (.inr a)), x1, x2, x3, x4, x5, x6, x7] (.inr (.inr a) :: st) M := zU_step dX7_copy_27 (Or.inl rfl)
theorem dX7_copy_28 : decode cX7_copy 28 = .ok (.getfield 44, 3) := by decide +kernel
theorem rX7_copy_28 {R : zP} {x0 x1 x2 x3 x4 x5 x6 x7 : Option zV} {st : List zV} {M : zM} {r : Nat} : uX7_copy R 28 [x0, x1, x2, x3, x4, x5, x6, x7] (.inr (.inr r) :: st) M ↔ zgetx fX7 44 r M (fun v => uX7_copy R 31 [x0, x1, x2, x3, x4, x5, x6, x7] (v :: st) M) := zU_step dX7_copy_28 (Or.inl rfl)
theorem dX7_copy_31 : decode cX7_copy 31 = .ok (.iload_n 3, 1) := by decide +kernel
theorem rX7_copy_31 {R : zP} {x0 x1 x2 x4 x5 x6 x7 : Option zV} {st : List zV} {M : zM} {a : Int} : uX7_copy R 31 [x0, x1, x2, some (.inl a), x4, x5, x6, x7] st M ↔ uX7_copy R 32 [x0, x1, x2, some (.inl a), x4, x5, x6, x7] (.inl a :: st) M := zU_step dX7_copy_31 (Or.inl rfl)
theorem dX7_copy_32 : decode cX7_copy 32 = .ok (.aaload, 1) := by decide +kernel
theorem rX7_copy_32 {R : zP} {x0 x1 x2 x3 x4 x5 x6 x7 : Option zV} {st : List zV} {M : zM} {i : Int} {r : Nat} : uX7_copy R 32 [x0, x1, x2, x3, x4, x5, x6, x7] (.inl i :: .inr (.inr r) :: st) M ↔ zopt (zrow r) (fun rs => (0 ≤ i ∧ i < rs.length) ∧ uX7_copy R 33 [x0, x1, x2, x3, x4, x5, x6, x7] (.inr (.inr (rs.getD i.toNat 0)) :: st) M) := zU_step dX7_copy_32 (Or.inl rfl)
theorem dX7_copy_33 : decode cX7_copy 33 = .ok (.astore 7, 2) := by decide +kernel
theorem rX7_copy_33 {R : zP} {x0 x1 x2 x3 x4 x5 x6 x7 : Option zV} {st : List zV} {M : zM} {a : Nat} : uX7_copy R 33 [x0, x1, x2, x3, x4, x5, x6, x7] (.inr (.inr a) :: st) M ↔ uX7_copy R 35 [x0, x1, x2, x3, x4, x5, zkeep x6, some (.inr (.inr a))] st M := Iff.trans (zU_step dX7_copy_33 (Or.inl rfl)) ⟨fun h => h.2, fun h => ⟨show 7 < 8 by decide, h⟩⟩
theorem dX7_copy_35 : decode cX7_copy 35 = .ok (.aload 6, 2) := by decide +kernel
theorem rX7_copy_35 {R : zP} {x0 x1 x2 x3 x4 x5 x7 : Option zV} {st : List zV} {M : zM} {a : Nat} : uX7_copy R 35 [x0, x1, x2, x3, x4, x5, some (.inr (.inr a)), x7] st M ↔ uX7_copy R 37 [x0, x1, x2, x3, x4, x5, some (.inr (.inr a)), x7] (.inr (.inr a) :: st) M := zU_step dX7_copy_35 (Or.inl rfl)
theorem dX7_copy_37 : decode cX7_copy 37 = .ok (.invokevirtual 127, 3) := by decide +kernel
theorem rX7_copy_37 {R : zP} {x0 x1 x2 x3 x4 x5 x6 x7 : Option zV} {st : List zV} {M : zM} {a0 : zV} : uX7_copy R 37 [x0, x1, x2, x3, x4, x5, x6, x7] (a0 :: st) M ↔ (st.length ≤ 4 ∧ zcv (zv 1 tX1_isLost) [a0] M (fun v M => uX7_copy R 40 [x0, x1, x2, x3, x4, x5, x6, x7] (v :: st) M)) := Iff.trans (zU_step dX7_copy_37 (Or.inl rfl)) ⟨fun h => ⟨h.2.1, zcv_of h.2.2⟩, fun h => ⟨rfl, h.1, zcv_to h.2⟩⟩
theorem dX7_copy_40 : decode cX7_copy 40 = .ok (.ifCond .ne 11, 3) := by decide +kernel
theorem rX7_copy_40 {R : zP} {x0 x1 x2 x3 x4 x5 x6 x7 : Option zV} {st : List zV} {M : zM} {a : Int} : uX7_copy R 40 [x0, x1, x2, x3, x4, x5, x6, x7] (.inl a :: st) M ↔ (zIR a ∧ (a ≠ 0 → uX7_copy R 51 [x0, x1, x2, x3, x4, x5, x6, x7] st M) ∧ (¬ a ≠ 0 → uX7_copy R 43 [x0, x1, x2, x3, x4, x5, x6, x7] st M)) := Iff.trans (zU_step dX7_copy_40 (Or.inl rfl)) ⟨fun h => ⟨h.1.1, h.2⟩, fun h => ⟨⟨h.1, by decide⟩, h.2⟩⟩
theorem dX7_copy_43 : decode cX7_copy 43 = .ok (.aload 7, 2) := by decide +kernel
theorem rX7_copy_43 {R : zP} {x0 x1 x2 x3 x4 x5 x6 : Option zV} {st : List zV} {M : zM} {a : Nat} : uX7_copy R 43 [x0, x1, x2, x3, x4, x5, x6, some (.inr (.inr a))] st M ↔ uX7_copy R 45 [x0, x1, x2, x3, x4, x5, x6, some (.inr (.inr a))] (.inr (.inr a) :: st) M := zU_step dX7_copy_43 (Or.inl rfl)
theorem dX7_copy_45 : decode cX7_copy 45 = .ok (.invokevirtual 127, 3) := by decide +kernel
theorem rX7_copy_45 {R : zP} {x0 x1 x2 x3 x4 x5 x6 x7 : Option zV} {st : List zV} {M : zM} {a0 : zV} : uX7_copy R 45 [x0, x1, x2, x3, x4, x5, x6, x7] (a0 :: st) M ↔ (st.length ≤ 4 ∧ zcv (zv 1 tX1_isLost) [a0] M (fun v M => uX7_copy R 48 [x0, x1, x2, x3, x4, x5, x6, x7] (v :: st) M)) := Iff.trans (zU_step dX7_copy_45 (Or.inl rfl)) ⟨fun h => ⟨h.2.1, zcv_of h.2.2⟩, fun h => ⟨rfl, h.1, zcv_to h.2⟩⟩
theorem dX7_copy_48 : decode cX7_copy 48 = .ok (.ifCond .eq 9, 3) := by decide +kernel
theorem rX7_copy_48 {R : zP} {x0 x1 x2 x3 x4 x5 x6 x7 : Option zV} {st : List zV} {M : zM} {a : Int} : uX7_copy R 48 [x0, x1, x2, x3, x4, x5, x6, x7] (.inl a :: st) M ↔ (zIR a ∧ (a = 0 → uX7_copy R 57 [x0, x1, x2, x3, x4, x5, x6, x7] st M) ∧ (¬ a = 0 → uX7_copy R 51 [x0, x1, x2, x3, x4, x5, x6, x7] st M)) := Iff.trans (zU_step dX7_copy_48 (Or.inl rfl)) ⟨fun h => ⟨h.1.1, h.2⟩, fun h => ⟨⟨h.1, by decide⟩, h.2⟩⟩
theorem dX7_copy_51 : decode cX7_copy 51 = .ok (.aload_n 0, 1) := by decide +kernel
theorem rX7_copy_51 {R : zP} {x1 x2 x3 x4 x5 x6 x7 : Option zV} {st : List zV} {M : zM} {a : Nat} : uX7_copy R 51 [some (.inr (.inr a)), x1, x2, x3, x4, x5, x6, x7] st M ↔ uX7_copy R 52 [some (.inr (.inr a)), x1, x2, x3, x4, x5, x6, x7] (.inr (.inr a) :: st) M := zU_step dX7_copy_51 (Or.inl rfl)
theorem dX7_copy_52 : decode cX7_copy 52 = .ok (.iconst 1, 1) := by decide +kernel
theorem rX7_copy_52 {R : zP} {x0 x1 x2 x3 x4 x5 x6 x7 : Option zV} {st : List zV} {M : zM} : uX7_copy R 52 [x0, x1, x2, x3, x4, x5, x6, x7] st M ↔ uX7_copy R 53 [x0, x1, x2, x3, x4, x5, x6, x7] (.inl (1) :: st) M := zU_step dX7_copy_52 (Or.inl rfl)
theorem dX7_copy_53 : decode cX7_copy 53 = .ok (.invokevirtual 131, 3) := by decide +kernel
theorem rX7_copy_53 {R : zP} {x0 x1 x2 x3 x4 x5 x6 x7 : Option zV} {st : List zV} {M : zM} {a0 a1 : zV} : uX7_copy R 53 [x0, x1, x2, x3, x4, x5, x6, x7] (a1 :: a0 :: st) M ↔ (st.length ≤ 4 ∧ zcv (zv 7 tX7_finding) [a0, a1] M (fun v M => uX7_copy R 56 [x0, x1, x2, x3, x4, x5, x6, x7] (v :: st) M)) := Iff.trans (zU_step dX7_copy_53 (Or.inl rfl)) ⟨fun h => ⟨h.2.1, zcv_of h.2.2⟩, fun h => ⟨rfl, h.1, zcv_to h.2⟩⟩
theorem dX7_copy_56 : decode cX7_copy 56 = .ok (.ireturn, 1) := by decide +kernel
theorem rX7_copy_56 {R : zP} {x0 x1 x2 x3 x4 x5 x6 x7 : Option zV} {M : zM} {a : Int} : uX7_copy R 56 [x0, x1, x2, x3, x4, x5, x6, x7] [.inl a] M ↔ R (some (.inl a)) M := Iff.trans (zU_step dX7_copy_56 (Or.inl rfl)) ⟨fun h => h.2.2, fun h => ⟨rfl, Or.inl rfl, h⟩⟩
theorem dX7_copy_57 : decode cX7_copy 57 = .ok (.aload 6, 2) := by decide +kernel
theorem rX7_copy_57 {R : zP} {x0 x1 x2 x3 x4 x5 x7 : Option zV} {st : List zV} {M : zM} {a : Nat} : uX7_copy R 57 [x0, x1, x2, x3, x4, x5, some (.inr (.inr a)), x7] st M ↔ uX7_copy R 59 [x0, x1, x2, x3, x4, x5, some (.inr (.inr a)), x7] (.inr (.inr a) :: st) M := zU_step dX7_copy_57 (Or.inl rfl)
theorem dX7_copy_59 : decode cX7_copy 59 = .ok (.getfield 299, 3) := by decide +kernel
theorem rX7_copy_59 {R : zP} {x0 x1 x2 x3 x4 x5 x6 x7 : Option zV} {st : List zV} {M : zM} {r : Nat} : uX7_copy R 59 [x0, x1, x2, x3, x4, x5, x6, x7] (.inr (.inr r) :: st) M ↔ zgetx fX7 299 r M (fun v => uX7_copy R 62 [x0, x1, x2, x3, x4, x5, x6, x7] (v :: st) M) := zU_step dX7_copy_59 (Or.inl rfl)
theorem dX7_copy_62 : decode cX7_copy 62 = .ok (.aload 7, 2) := by decide +kernel
theorem rX7_copy_62 {R : zP} {x0 x1 x2 x3 x4 x5 x6 : Option zV} {st : List zV} {M : zM} {a : Nat} : uX7_copy R 62 [x0, x1, x2, x3, x4, x5, x6, some (.inr (.inr a))] st M ↔ uX7_copy R 64 [x0, x1, x2, x3, x4, x5, x6, some (.inr (.inr a))] (.inr (.inr a) :: st) M := zU_step dX7_copy_62 (Or.inl rfl)
theorem dX7_copy_64 : decode cX7_copy 64 = .ok (.getfield 299, 3) := by decide +kernel
theorem rX7_copy_64 {R : zP} {x0 x1 x2 x3 x4 x5 x6 x7 : Option zV} {st : List zV} {M : zM} {r : Nat} : uX7_copy R 64 [x0, x1, x2, x3, x4, x5, x6, x7] (.inr (.inr r) :: st) M ↔ zgetx fX7 299 r M (fun v => uX7_copy R 67 [x0, x1, x2, x3, x4, x5, x6, x7] (v :: st) M) := zU_step dX7_copy_64 (Or.inl rfl)
theorem dX7_copy_67 : decode cX7_copy 67 = .ok (.if_icmp .eq 9, 3) := by decide +kernel
theorem rX7_copy_67 {R : zP} {x0 x1 x2 x3 x4 x5 x6 x7 : Option zV} {st : List zV} {M : zM} {a b : Int} : uX7_copy R 67 [x0, x1, x2, x3, x4, x5, x6, x7] (.inl b :: .inl a :: st) M ↔ ((zIR a ∧ zIR b) ∧ (a = b → uX7_copy R 76 [x0, x1, x2, x3, x4, x5, x6, x7] st M) ∧ (¬ a = b → uX7_copy R 70 [x0, x1, x2, x3, x4, x5, x6, x7] st M)) := Iff.trans (zU_step dX7_copy_67 (Or.inl rfl)) ⟨fun h => ⟨⟨h.1.1, h.1.2.1⟩, h.2⟩, fun h => ⟨⟨h.1.1, h.1.2, by decide⟩, h.2⟩⟩
theorem dX7_copy_70 : decode cX7_copy 70 = .ok (.aload_n 0, 1) := by decide +kernel
theorem rX7_copy_70 {R : zP} {x1 x2 x3 x4 x5 x6 x7 : Option zV} {st : List zV} {M : zM} {a : Nat} : uX7_copy R 70 [some (.inr (.inr a)), x1, x2, x3, x4, x5, x6, x7] st M ↔ uX7_copy R 71 [some (.inr (.inr a)), x1, x2, x3, x4, x5, x6, x7] (.inr (.inr a) :: st) M := zU_step dX7_copy_70 (Or.inl rfl)
theorem dX7_copy_71 : decode cX7_copy 71 = .ok (.iconst 4, 1) := by decide +kernel
theorem rX7_copy_71 {R : zP} {x0 x1 x2 x3 x4 x5 x6 x7 : Option zV} {st : List zV} {M : zM} : uX7_copy R 71 [x0, x1, x2, x3, x4, x5, x6, x7] st M ↔ uX7_copy R 72 [x0, x1, x2, x3, x4, x5, x6, x7] (.inl (4) :: st) M := zU_step dX7_copy_71 (Or.inl rfl)
theorem dX7_copy_72 : decode cX7_copy 72 = .ok (.invokevirtual 131, 3) := by decide +kernel
theorem rX7_copy_72 {R : zP} {x0 x1 x2 x3 x4 x5 x6 x7 : Option zV} {st : List zV} {M : zM} {a0 a1 : zV} : uX7_copy R 72 [x0, x1, x2, x3, x4, x5, x6, x7] (a1 :: a0 :: st) M ↔ (st.length ≤ 4 ∧ zcv (zv 7 tX7_finding) [a0, a1] M (fun v M => uX7_copy R 75 [x0, x1, x2, x3, x4, x5, x6, x7] (v :: st) M)) := Iff.trans (zU_step dX7_copy_72 (Or.inl rfl)) ⟨fun h => ⟨h.2.1, zcv_of h.2.2⟩, fun h => ⟨rfl, h.1, zcv_to h.2⟩⟩
theorem dX7_copy_75 : decode cX7_copy 75 = .ok (.ireturn, 1) := by decide +kernel
theorem rX7_copy_75 {R : zP} {x0 x1 x2 x3 x4 x5 x6 x7 : Option zV} {M : zM} {a : Int} : uX7_copy R 75 [x0, x1, x2, x3, x4, x5, x6, x7] [.inl a] M ↔ R (some (.inl a)) M := Iff.trans (zU_step dX7_copy_75 (Or.inl rfl)) ⟨fun h => h.2.2, fun h => ⟨rfl, Or.inl rfl, h⟩⟩
theorem dX7_copy_76 : decode cX7_copy 76 = .ok (.aload 6, 2) := by decide +kernel
theorem rX7_copy_76 {R : zP} {x0 x1 x2 x3 x4 x5 x7 : Option zV} {st : List zV} {M : zM} {a : Nat} : uX7_copy R 76 [x0, x1, x2, x3, x4, x5, some (.inr (.inr a)), x7] st M ↔ uX7_copy R 78 [x0, x1, x2, x3, x4, x5, some (.inr (.inr a)), x7] (.inr (.inr a) :: st) M := zU_step dX7_copy_76 (Or.inl rfl)
theorem dX7_copy_78 : decode cX7_copy 78 = .ok (.iload_n 2, 1) := by decide +kernel
theorem rX7_copy_78 {R : zP} {x0 x1 x3 x4 x5 x6 x7 : Option zV} {st : List zV} {M : zM} {a : Int} : uX7_copy R 78 [x0, x1, some (.inl a), x3, x4, x5, x6, x7] st M ↔ uX7_copy R 79 [x0, x1, some (.inl a), x3, x4, x5, x6, x7] (.inl a :: st) M := zU_step dX7_copy_78 (Or.inl rfl)
theorem dX7_copy_79 : decode cX7_copy 79 = .ok (.iload 5, 2) := by decide +kernel
theorem rX7_copy_79 {R : zP} {x0 x1 x2 x3 x4 x6 x7 : Option zV} {st : List zV} {M : zM} {a : Int} : uX7_copy R 79 [x0, x1, x2, x3, x4, some (.inl a), x6, x7] st M ↔ uX7_copy R 81 [x0, x1, x2, x3, x4, some (.inl a), x6, x7] (.inl a :: st) M := zU_step dX7_copy_79 (Or.inl rfl)
theorem dX7_copy_81 : decode cX7_copy 81 = .ok (.invokevirtual 302, 3) := by decide +kernel
theorem rX7_copy_81 {R : zP} {x0 x1 x2 x3 x4 x5 x6 x7 : Option zV} {st : List zV} {M : zM} {a0 a1 a2 : zV} : uX7_copy R 81 [x0, x1, x2, x3, x4, x5, x6, x7] (a2 :: a1 :: a0 :: st) M ↔ (st.length ≤ 4 ∧ zcv (zv 1 tX1_hasRun) [a0, a1, a2] M (fun v M => uX7_copy R 84 [x0, x1, x2, x3, x4, x5, x6, x7] (v :: st) M)) := Iff.trans (zU_step dX7_copy_81 (Or.inl rfl)) ⟨fun h => ⟨h.2.1, zcv_of h.2.2⟩, fun h => ⟨rfl, h.1, zcv_to h.2⟩⟩
theorem dX7_copy_84 : decode cX7_copy 84 = .ok (.ifCond .eq 15, 3) := by decide +kernel
theorem rX7_copy_84 {R : zP} {x0 x1 x2 x3 x4 x5 x6 x7 : Option zV} {st : List zV} {M : zM} {a : Int} : uX7_copy R 84 [x0, x1, x2, x3, x4, x5, x6, x7] (.inl a :: st) M ↔ (zIR a ∧ (a = 0 → uX7_copy R 99 [x0, x1, x2, x3, x4, x5, x6, x7] st M) ∧ (¬ a = 0 → uX7_copy R 87 [x0, x1, x2, x3, x4, x5, x6, x7] st M)) := Iff.trans (zU_step dX7_copy_84 (Or.inl rfl)) ⟨fun h => ⟨h.1.1, h.2⟩, fun h => ⟨⟨h.1, by decide⟩, h.2⟩⟩
theorem dX7_copy_87 : decode cX7_copy 87 = .ok (.aload 7, 2) := by decide +kernel
theorem rX7_copy_87 {R : zP} {x0 x1 x2 x3 x4 x5 x6 : Option zV} {st : List zV} {M : zM} {a : Nat} : uX7_copy R 87 [x0, x1, x2, x3, x4, x5, x6, some (.inr (.inr a))] st M ↔ uX7_copy R 89 [x0, x1, x2, x3, x4, x5, x6, some (.inr (.inr a))] (.inr (.inr a) :: st) M := zU_step dX7_copy_87 (Or.inl rfl)
theorem dX7_copy_89 : decode cX7_copy 89 = .ok (.iload 4, 2) := by decide +kernel
theorem rX7_copy_89 {R : zP} {x0 x1 x2 x3 x5 x6 x7 : Option zV} {st : List zV} {M : zM} {a : Int} : uX7_copy R 89 [x0, x1, x2, x3, some (.inl a), x5, x6, x7] st M ↔ uX7_copy R 91 [x0, x1, x2, x3, some (.inl a), x5, x6, x7] (.inl a :: st) M := zU_step dX7_copy_89 (Or.inl rfl)
theorem dX7_copy_91 : decode cX7_copy 91 = .ok (.iload 5, 2) := by decide +kernel
theorem rX7_copy_91 {R : zP} {x0 x1 x2 x3 x4 x6 x7 : Option zV} {st : List zV} {M : zM} {a : Int} : uX7_copy R 91 [x0, x1, x2, x3, x4, some (.inl a), x6, x7] st M ↔ uX7_copy R 93 [x0, x1, x2, x3, x4, some (.inl a), x6, x7] (.inl a :: st) M := zU_step dX7_copy_91 (Or.inl rfl)
theorem dX7_copy_93 : decode cX7_copy 93 = .ok (.invokevirtual 302, 3) := by decide +kernel
theorem rX7_copy_93 {R : zP} {x0 x1 x2 x3 x4 x5 x6 x7 : Option zV} {st : List zV} {M : zM} {a0 a1 a2 : zV} : uX7_copy R 93 [x0, x1, x2, x3, x4, x5, x6, x7] (a2 :: a1 :: a0 :: st) M ↔ (st.length ≤ 4 ∧ zcv (zv 1 tX1_hasRun) [a0, a1, a2] M (fun v M => uX7_copy R 96 [x0, x1, x2, x3, x4, x5, x6, x7] (v :: st) M)) := Iff.trans (zU_step dX7_copy_93 (Or.inl rfl)) ⟨fun h => ⟨h.2.1, zcv_of h.2.2⟩, fun h => ⟨rfl, h.1, zcv_to h.2⟩⟩
theorem dX7_copy_96 : decode cX7_copy 96 = .ok (.ifCond .ne 9, 3) := by decide +kernel
theorem rX7_copy_96 {R : zP} {x0 x1 x2 x3 x4 x5 x6 x7 : Option zV} {st : List zV} {M : zM} {a : Int} : uX7_copy R 96 [x0, x1, x2, x3, x4, x5, x6, x7] (.inl a :: st) M ↔ (zIR a ∧ (a ≠ 0 → uX7_copy R 105 [x0, x1, x2, x3, x4, x5, x6, x7] st M) ∧ (¬ a ≠ 0 → uX7_copy R 99 [x0, x1, x2, x3, x4, x5, x6, x7] st M)) := Iff.trans (zU_step dX7_copy_96 (Or.inl rfl)) ⟨fun h => ⟨h.1.1, h.2⟩, fun h => ⟨⟨h.1, by decide⟩, h.2⟩⟩
theorem dX7_copy_99 : decode cX7_copy 99 = .ok (.aload_n 0, 1) := by decide +kernel
theorem rX7_copy_99 {R : zP} {x1 x2 x3 x4 x5 x6 x7 : Option zV} {st : List zV} {M : zM} {a : Nat} : uX7_copy R 99 [some (.inr (.inr a)), x1, x2, x3, x4, x5, x6, x7] st M ↔ uX7_copy R 100 [some (.inr (.inr a)), x1, x2, x3, x4, x5, x6, x7] (.inr (.inr a) :: st) M := zU_step dX7_copy_99 (Or.inl rfl)
theorem dX7_copy_100 : decode cX7_copy 100 = .ok (.iconst 2, 1) := by decide +kernel
theorem rX7_copy_100 {R : zP} {x0 x1 x2 x3 x4 x5 x6 x7 : Option zV} {st : List zV} {M : zM} : uX7_copy R 100 [x0, x1, x2, x3, x4, x5, x6, x7] st M ↔ uX7_copy R 101 [x0, x1, x2, x3, x4, x5, x6, x7] (.inl (2) :: st) M := zU_step dX7_copy_100 (Or.inl rfl)
theorem dX7_copy_101 : decode cX7_copy 101 = .ok (.invokevirtual 131, 3) := by decide +kernel
theorem rX7_copy_101 {R : zP} {x0 x1 x2 x3 x4 x5 x6 x7 : Option zV} {st : List zV} {M : zM} {a0 a1 : zV} : uX7_copy R 101 [x0, x1, x2, x3, x4, x5, x6, x7] (a1 :: a0 :: st) M ↔ (st.length ≤ 4 ∧ zcv (zv 7 tX7_finding) [a0, a1] M (fun v M => uX7_copy R 104 [x0, x1, x2, x3, x4, x5, x6, x7] (v :: st) M)) := Iff.trans (zU_step dX7_copy_101 (Or.inl rfl)) ⟨fun h => ⟨h.2.1, zcv_of h.2.2⟩, fun h => ⟨rfl, h.1, zcv_to h.2⟩⟩
theorem dX7_copy_104 : decode cX7_copy 104 = .ok (.ireturn, 1) := by decide +kernel
theorem rX7_copy_104 {R : zP} {x0 x1 x2 x3 x4 x5 x6 x7 : Option zV} {M : zM} {a : Int} : uX7_copy R 104 [x0, x1, x2, x3, x4, x5, x6, x7] [.inl a] M ↔ R (some (.inl a)) M := Iff.trans (zU_step dX7_copy_104 (Or.inl rfl)) ⟨fun h => h.2.2, fun h => ⟨rfl, Or.inl rfl, h⟩⟩
theorem dX7_copy_105 : decode cX7_copy 105 = .ok (.aload 6, 2) := by decide +kernel
theorem rX7_copy_105 {R : zP} {x0 x1 x2 x3 x4 x5 x7 : Option zV} {st : List zV} {M : zM} {a : Nat} : uX7_copy R 105 [x0, x1, x2, x3, x4, x5, some (.inr (.inr a)), x7] st M ↔ uX7_copy R 107 [x0, x1, x2, x3, x4, x5, some (.inr (.inr a)), x7] (.inr (.inr a) :: st) M := zU_step dX7_copy_105 (Or.inl rfl)
theorem dX7_copy_107 : decode cX7_copy 107 = .ok (.getfield 137, 3) := by decide +kernel
theorem rX7_copy_107 {R : zP} {x0 x1 x2 x3 x4 x5 x6 x7 : Option zV} {st : List zV} {M : zM} {r : Nat} : uX7_copy R 107 [x0, x1, x2, x3, x4, x5, x6, x7] (.inr (.inr r) :: st) M ↔ zgetx fX7 137 r M (fun v => uX7_copy R 110 [x0, x1, x2, x3, x4, x5, x6, x7] (v :: st) M) := zU_step dX7_copy_107 (Or.inl rfl)
theorem dX7_copy_110 : decode cX7_copy 110 = .ok (.iload_n 2, 1) := by decide +kernel
theorem rX7_copy_110 {R : zP} {x0 x1 x3 x4 x5 x6 x7 : Option zV} {st : List zV} {M : zM} {a : Int} : uX7_copy R 110 [x0, x1, some (.inl a), x3, x4, x5, x6, x7] st M ↔ uX7_copy R 111 [x0, x1, some (.inl a), x3, x4, x5, x6, x7] (.inl a :: st) M := zU_step dX7_copy_110 (Or.inl rfl)
theorem dX7_copy_111 : decode cX7_copy 111 = .ok (.aload 7, 2) := by decide +kernel
theorem rX7_copy_111 {R : zP} {x0 x1 x2 x3 x4 x5 x6 : Option zV} {st : List zV} {M : zM} {a : Nat} : uX7_copy R 111 [x0, x1, x2, x3, x4, x5, x6, some (.inr (.inr a))] st M ↔ uX7_copy R 113 [x0, x1, x2, x3, x4, x5, x6, some (.inr (.inr a))] (.inr (.inr a) :: st) M := zU_step dX7_copy_111 (Or.inl rfl)
theorem dX7_copy_113 : decode cX7_copy 113 = .ok (.getfield 137, 3) := by decide +kernel
theorem rX7_copy_113 {R : zP} {x0 x1 x2 x3 x4 x5 x6 x7 : Option zV} {st : List zV} {M : zM} {r : Nat} : uX7_copy R 113 [x0, x1, x2, x3, x4, x5, x6, x7] (.inr (.inr r) :: st) M ↔ zgetx fX7 137 r M (fun v => uX7_copy R 116 [x0, x1, x2, x3, x4, x5, x6, x7] (v :: st) M) := zU_step dX7_copy_113 (Or.inl rfl)
theorem dX7_copy_116 : decode cX7_copy 116 = .ok (.iload 4, 2) := by decide +kernel
theorem rX7_copy_116 {R : zP} {x0 x1 x2 x3 x5 x6 x7 : Option zV} {st : List zV} {M : zM} {a : Int} : uX7_copy R 116 [x0, x1, x2, x3, some (.inl a), x5, x6, x7] st M ↔ uX7_copy R 118 [x0, x1, x2, x3, some (.inl a), x5, x6, x7] (.inl a :: st) M := zU_step dX7_copy_116 (Or.inl rfl)
theorem dX7_copy_118 : decode cX7_copy 118 = .ok (.iload 5, 2) := by decide +kernel
theorem rX7_copy_118 {R : zP} {x0 x1 x2 x3 x4 x6 x7 : Option zV} {st : List zV} {M : zM} {a : Int} : uX7_copy R 118 [x0, x1, x2, x3, x4, some (.inl a), x6, x7] st M ↔ uX7_copy R 120 [x0, x1, x2, x3, x4, some (.inl a), x6, x7] (.inl a :: st) M := zU_step dX7_copy_118 (Or.inl rfl)
theorem dX7_copy_120 : decode cX7_copy 120 = .ok (.invokestatic 305, 3) := by decide +kernel
theorem rX7_copy_120 {R : zP} {x0 x1 x2 x3 x4 x5 x6 x7 : Option zV} {st : List zV} {M : zM} {a0 a1 a2 a3 a4 : zV} : uX7_copy R 120 [x0, x1, x2, x3, x4, x5, x6, x7] (a4 :: a3 :: a2 :: a1 :: a0 :: st) M ↔ (st.length ≤ 4 ∧ zcn zcopyT [a0, a1, a2, a3, a4] M (fun M => uX7_copy R 123 [x0, x1, x2, x3, x4, x5, x6, x7] st M)) := Iff.trans (zU_step dX7_copy_120 (Or.inl rfl)) ⟨fun h => ⟨h.2.1, zcn_of h.2.2⟩, fun h => ⟨rfl, h.1, zcn_to h.2⟩⟩
theorem dX7_copy_123 : decode cX7_copy 123 = .ok (.iconst 1, 1) := by decide +kernel
theorem rX7_copy_123 {R : zP} {x0 x1 x2 x3 x4 x5 x6 x7 : Option zV} {st : List zV} {M : zM} : uX7_copy R 123 [x0, x1, x2, x3, x4, x5, x6, x7] st M ↔ uX7_copy R 124 [x0, x1, x2, x3, x4, x5, x6, x7] (.inl (1) :: st) M := zU_step dX7_copy_123 (Or.inl rfl)
theorem dX7_copy_124 : decode cX7_copy 124 = .ok (.ireturn, 1) := by decide +kernel
theorem rX7_copy_124 {R : zP} {x0 x1 x2 x3 x4 x5 x6 x7 : Option zV} {M : zM} {a : Int} : uX7_copy R 124 [x0, x1, x2, x3, x4, x5, x6, x7] [.inl a] M ↔ R (some (.inl a)) M := Iff.trans (zU_step dX7_copy_124 (Or.inl rfl)) ⟨fun h => h.2.2, fun h => ⟨rfl, Or.inl rfl, h⟩⟩
theorem eX7_copy {R : zP} {M : zM} {a0 : Nat} {p0 : Int} {p1 : Int} {p2 : Int} {p3 : Int} {p4 : Int} : tX7_copy [.inr (.inr a0), .inl p0, .inl p1, .inl p2, .inl p3, .inl p4] M R ↔ uX7_copy R 0 [some (.inr (.inr a0)), some (.inl p0), some (.inl p1), some (.inl p2), some (.inl p3), some (.inl p4), none, none] [] M := ⟨fun h => h.2, fun h => ⟨show 6 ≤ 8 by decide, h⟩⟩
def uX7_write (R : zP) : zK := zU fX7 vX7_write cX7_write R
theorem dX7_write_0 : decode cX7_write 0 = .ok (.iload_n 1, 1) := by decide +kernel
theorem rX7_write_0 {R : zP} {x0 x2 x3 x4 x5 x6 : Option zV} {st : List zV} {M : zM} {a : Int} : uX7_write R 0 [x0, some (.inl a), x2, x3, x4, x5, x6] st M ↔ uX7_write R 1 [x0, some (.inl a), x2, x3, x4, x5, x6] (.inl a :: st) M := zU_step dX7_write_0 (Or.inl rfl)
theorem dX7_write_1 : decode cX7_write 1 = .ok (.aload_n 0, 1) := by decide +kernel
theorem rX7_write_1 {R : zP} {x1 x2 x3 x4 x5 x6 : Option zV} {st : List zV} {M : zM} {a : Nat} : uX7_write R 1 [some (.inr (.inr a)), x1, x2, x3, x4, x5, x6] st M ↔ uX7_write R 2 [some (.inr (.inr a)), x1, x2, x3, x4, x5, x6] (.inr (.inr a) :: st) M := zU_step dX7_write_1 (Or.inl rfl)
theorem dX7_write_2 : decode cX7_write 2 = .ok (.getfield 14, 3) := by decide +kernel
theorem rX7_write_2 {R : zP} {x0 x1 x2 x3 x4 x5 x6 : Option zV} {st : List zV} {M : zM} {r : Nat} : uX7_write R 2 [x0, x1, x2, x3, x4, x5, x6] (.inr (.inr r) :: st) M ↔ zgetx fX7 14 r M (fun v => uX7_write R 5 [x0, x1, x2, x3, x4, x5, x6] (v :: st) M) := zU_step dX7_write_2 (Or.inl rfl)
theorem dX7_write_5 : decode cX7_write 5 = .ok (.getfield 116, 3) := by decide +kernel
theorem rX7_write_5 {R : zP} {x0 x1 x2 x3 x4 x5 x6 : Option zV} {st : List zV} {M : zM} {r : Nat} : uX7_write R 5 [x0, x1, x2, x3, x4, x5, x6] (.inr (.inr r) :: st) M ↔ zgetx fX7 116 r M (fun v => uX7_write R 8 [x0, x1, x2, x3, x4, x5, x6] (v :: st) M) := zU_step dX7_write_5 (Or.inl rfl)
theorem dX7_write_8 : decode cX7_write 8 = .ok (.invokestatic 94, 3) := by decide +kernel
theorem rX7_write_8 {R : zP} {x0 x1 x2 x3 x4 x5 x6 : Option zV} {st : List zV} {M : zM} {a0 a1 : zV} : uX7_write R 8 [x0, x1, x2, x3, x4, x5, x6] (a1 :: a0 :: st) M ↔ (st.length ≤ 4 ∧ zcv tX7_outside [a0, a1] M (fun v M => uX7_write R 11 [x0, x1, x2, x3, x4, x5, x6] (v :: st) M)) := Iff.trans (zU_step dX7_write_8 (Or.inl rfl)) ⟨fun h => ⟨h.2.1, zcv_of h.2.2⟩, fun h => ⟨rfl, h.1, zcv_to h.2⟩⟩
theorem dX7_write_11 : decode cX7_write 11 = .ok (.ifCond .ne 19, 3) := by decide +kernel
theorem rX7_write_11 {R : zP} {x0 x1 x2 x3 x4 x5 x6 : Option zV} {st : List zV} {M : zM} {a : Int} : uX7_write R 11 [x0, x1, x2, x3, x4, x5, x6] (.inl a :: st) M ↔ (zIR a ∧ (a ≠ 0 → uX7_write R 30 [x0, x1, x2, x3, x4, x5, x6] st M) ∧ (¬ a ≠ 0 → uX7_write R 14 [x0, x1, x2, x3, x4, x5, x6] st M)) := Iff.trans (zU_step dX7_write_11 (Or.inl rfl)) ⟨fun h => ⟨h.1.1, h.2⟩, fun h => ⟨⟨h.1, by decide⟩, h.2⟩⟩
theorem dX7_write_14 : decode cX7_write 14 = .ok (.iload_n 2, 1) := by decide +kernel
theorem rX7_write_14 {R : zP} {x0 x1 x3 x4 x5 x6 : Option zV} {st : List zV} {M : zM} {a : Int} : uX7_write R 14 [x0, x1, some (.inl a), x3, x4, x5, x6] st M ↔ uX7_write R 15 [x0, x1, some (.inl a), x3, x4, x5, x6] (.inl a :: st) M := zU_step dX7_write_14 (Or.inl rfl)
theorem dX7_write_15 : decode cX7_write 15 = .ok (.iconst 4, 1) := by decide +kernel
theorem rX7_write_15 {R : zP} {x0 x1 x2 x3 x4 x5 x6 : Option zV} {st : List zV} {M : zM} : uX7_write R 15 [x0, x1, x2, x3, x4, x5, x6] st M ↔ uX7_write R 16 [x0, x1, x2, x3, x4, x5, x6] (.inl (4) :: st) M := zU_step dX7_write_15 (Or.inl rfl)
theorem dX7_write_16 : decode cX7_write 16 = .ok (.invokestatic 94, 3) := by decide +kernel
theorem rX7_write_16 {R : zP} {x0 x1 x2 x3 x4 x5 x6 : Option zV} {st : List zV} {M : zM} {a0 a1 : zV} : uX7_write R 16 [x0, x1, x2, x3, x4, x5, x6] (a1 :: a0 :: st) M ↔ (st.length ≤ 4 ∧ zcv tX7_outside [a0, a1] M (fun v M => uX7_write R 19 [x0, x1, x2, x3, x4, x5, x6] (v :: st) M)) := Iff.trans (zU_step dX7_write_16 (Or.inl rfl)) ⟨fun h => ⟨h.2.1, zcv_of h.2.2⟩, fun h => ⟨rfl, h.1, zcv_to h.2⟩⟩
theorem dX7_write_19 : decode cX7_write 19 = .ok (.ifCond .ne 11, 3) := by decide +kernel
theorem rX7_write_19 {R : zP} {x0 x1 x2 x3 x4 x5 x6 : Option zV} {st : List zV} {M : zM} {a : Int} : uX7_write R 19 [x0, x1, x2, x3, x4, x5, x6] (.inl a :: st) M ↔ (zIR a ∧ (a ≠ 0 → uX7_write R 30 [x0, x1, x2, x3, x4, x5, x6] st M) ∧ (¬ a ≠ 0 → uX7_write R 22 [x0, x1, x2, x3, x4, x5, x6] st M)) := Iff.trans (zU_step dX7_write_19 (Or.inl rfl)) ⟨fun h => ⟨h.1.1, h.2⟩, fun h => ⟨⟨h.1, by decide⟩, h.2⟩⟩
theorem dX7_write_22 : decode cX7_write 22 = .ok (.iload_n 3, 1) := by decide +kernel
theorem rX7_write_22 {R : zP} {x0 x1 x2 x4 x5 x6 : Option zV} {st : List zV} {M : zM} {a : Int} : uX7_write R 22 [x0, x1, x2, some (.inl a), x4, x5, x6] st M ↔ uX7_write R 23 [x0, x1, x2, some (.inl a), x4, x5, x6] (.inl a :: st) M := zU_step dX7_write_22 (Or.inl rfl)
theorem dX7_write_23 : decode cX7_write 23 = .ok (.iconst 4, 1) := by decide +kernel
theorem rX7_write_23 {R : zP} {x0 x1 x2 x3 x4 x5 x6 : Option zV} {st : List zV} {M : zM} : uX7_write R 23 [x0, x1, x2, x3, x4, x5, x6] st M ↔ uX7_write R 24 [x0, x1, x2, x3, x4, x5, x6] (.inl (4) :: st) M := zU_step dX7_write_23 (Or.inl rfl)
theorem dX7_write_24 : decode cX7_write 24 = .ok (.invokestatic 94, 3) := by decide +kernel
theorem rX7_write_24 {R : zP} {x0 x1 x2 x3 x4 x5 x6 : Option zV} {st : List zV} {M : zM} {a0 a1 : zV} : uX7_write R 24 [x0, x1, x2, x3, x4, x5, x6] (a1 :: a0 :: st) M ↔ (st.length ≤ 4 ∧ zcv tX7_outside [a0, a1] M (fun v M => uX7_write R 27 [x0, x1, x2, x3, x4, x5, x6] (v :: st) M)) := Iff.trans (zU_step dX7_write_24 (Or.inl rfl)) ⟨fun h => ⟨h.2.1, zcv_of h.2.2⟩, fun h => ⟨rfl, h.1, zcv_to h.2⟩⟩
theorem dX7_write_27 : decode cX7_write 27 = .ok (.ifCond .eq 6, 3) := by decide +kernel
theorem rX7_write_27 {R : zP} {x0 x1 x2 x3 x4 x5 x6 : Option zV} {st : List zV} {M : zM} {a : Int} : uX7_write R 27 [x0, x1, x2, x3, x4, x5, x6] (.inl a :: st) M ↔ (zIR a ∧ (a = 0 → uX7_write R 33 [x0, x1, x2, x3, x4, x5, x6] st M) ∧ (¬ a = 0 → uX7_write R 30 [x0, x1, x2, x3, x4, x5, x6] st M)) := Iff.trans (zU_step dX7_write_27 (Or.inl rfl)) ⟨fun h => ⟨h.1.1, h.2⟩, fun h => ⟨⟨h.1, by decide⟩, h.2⟩⟩
theorem dX7_write_30 : decode cX7_write 30 = .ok (.bipush (-2), 2) := by decide +kernel
theorem rX7_write_30 {R : zP} {x0 x1 x2 x3 x4 x5 x6 : Option zV} {st : List zV} {M : zM} : uX7_write R 30 [x0, x1, x2, x3, x4, x5, x6] st M ↔ uX7_write R 32 [x0, x1, x2, x3, x4, x5, x6] (.inl (-2) :: st) M := Iff.trans (zU_step dX7_write_30 (Or.inl rfl)) ⟨fun h => h.2, fun h => ⟨by decide, h⟩⟩
theorem dX7_write_32 : decode cX7_write 32 = .ok (.ireturn, 1) := by decide +kernel
theorem rX7_write_32 {R : zP} {x0 x1 x2 x3 x4 x5 x6 : Option zV} {M : zM} {a : Int} : uX7_write R 32 [x0, x1, x2, x3, x4, x5, x6] [.inl a] M ↔ R (some (.inl a)) M := Iff.trans (zU_step dX7_write_32 (Or.inl rfl)) ⟨fun h => h.2.2, fun h => ⟨rfl, Or.inl rfl, h⟩⟩
theorem dX7_write_33 : decode cX7_write 33 = .ok (.aload_n 0, 1) := by decide +kernel
theorem rX7_write_33 {R : zP} {x1 x2 x3 x4 x5 x6 : Option zV} {st : List zV} {M : zM} {a : Nat} : uX7_write R 33 [some (.inr (.inr a)), x1, x2, x3, x4, x5, x6] st M ↔ uX7_write R 34 [some (.inr (.inr a)), x1, x2, x3, x4, x5, x6] (.inr (.inr a) :: st) M := zU_step dX7_write_33 (Or.inl rfl)
theorem dX7_write_34 : decode cX7_write 34 = .ok (.getfield 44, 3) := by decide +kernel
theorem rX7_write_34 {R : zP} {x0 x1 x2 x3 x4 x5 x6 : Option zV} {st : List zV} {M : zM} {r : Nat} : uX7_write R 34 [x0, x1, x2, x3, x4, x5, x6] (.inr (.inr r) :: st) M ↔ zgetx fX7 44 r M (fun v => uX7_write R 37 [x0, x1, x2, x3, x4, x5, x6] (v :: st) M) := zU_step dX7_write_34 (Or.inl rfl)
theorem dX7_write_37 : decode cX7_write 37 = .ok (.iload_n 3, 1) := by decide +kernel
theorem rX7_write_37 {R : zP} {x0 x1 x2 x4 x5 x6 : Option zV} {st : List zV} {M : zM} {a : Int} : uX7_write R 37 [x0, x1, x2, some (.inl a), x4, x5, x6] st M ↔ uX7_write R 38 [x0, x1, x2, some (.inl a), x4, x5, x6] (.inl a :: st) M := zU_step dX7_write_37 (Or.inl rfl)
theorem dX7_write_38 : decode cX7_write 38 = .ok (.aaload, 1) := by decide +kernel
theorem rX7_write_38 {R : zP} {x0 x1 x2 x3 x4 x5 x6 : Option zV} {st : List zV} {M : zM} {i : Int} {r : Nat} : uX7_write R 38 [x0, x1, x2, x3, x4, x5, x6] (.inl i :: .inr (.inr r) :: st) M ↔ zopt (zrow r) (fun rs => (0 ≤ i ∧ i < rs.length) ∧ uX7_write R 39 [x0, x1, x2, x3, x4, x5, x6] (.inr (.inr (rs.getD i.toNat 0)) :: st) M) := zU_step dX7_write_38 (Or.inl rfl)
theorem dX7_write_39 : decode cX7_write 39 = .ok (.astore 4, 2) := by decide +kernel
theorem rX7_write_39 {R : zP} {x0 x1 x2 x3 x4 x5 x6 : Option zV} {st : List zV} {M : zM} {a : Nat} : uX7_write R 39 [x0, x1, x2, x3, x4, x5, x6] (.inr (.inr a) :: st) M ↔ uX7_write R 41 [x0, x1, x2, zkeep x3, some (.inr (.inr a)), x5, x6] st M := Iff.trans (zU_step dX7_write_39 (Or.inl rfl)) ⟨fun h => h.2, fun h => ⟨show 4 < 7 by decide, h⟩⟩
theorem dX7_write_41 : decode cX7_write 41 = .ok (.aload 4, 2) := by decide +kernel
theorem rX7_write_41 {R : zP} {x0 x1 x2 x3 x5 x6 : Option zV} {st : List zV} {M : zM} {a : Nat} : uX7_write R 41 [x0, x1, x2, x3, some (.inr (.inr a)), x5, x6] st M ↔ uX7_write R 43 [x0, x1, x2, x3, some (.inr (.inr a)), x5, x6] (.inr (.inr a) :: st) M := zU_step dX7_write_41 (Or.inl rfl)
theorem dX7_write_43 : decode cX7_write 43 = .ok (.invokevirtual 127, 3) := by decide +kernel
theorem rX7_write_43 {R : zP} {x0 x1 x2 x3 x4 x5 x6 : Option zV} {st : List zV} {M : zM} {a0 : zV} : uX7_write R 43 [x0, x1, x2, x3, x4, x5, x6] (a0 :: st) M ↔ (st.length ≤ 4 ∧ zcv (zv 1 tX1_isLost) [a0] M (fun v M => uX7_write R 46 [x0, x1, x2, x3, x4, x5, x6] (v :: st) M)) := Iff.trans (zU_step dX7_write_43 (Or.inl rfl)) ⟨fun h => ⟨h.2.1, zcv_of h.2.2⟩, fun h => ⟨rfl, h.1, zcv_to h.2⟩⟩
theorem dX7_write_46 : decode cX7_write 46 = .ok (.ifCond .eq 9, 3) := by decide +kernel
theorem rX7_write_46 {R : zP} {x0 x1 x2 x3 x4 x5 x6 : Option zV} {st : List zV} {M : zM} {a : Int} : uX7_write R 46 [x0, x1, x2, x3, x4, x5, x6] (.inl a :: st) M ↔ (zIR a ∧ (a = 0 → uX7_write R 55 [x0, x1, x2, x3, x4, x5, x6] st M) ∧ (¬ a = 0 → uX7_write R 49 [x0, x1, x2, x3, x4, x5, x6] st M)) := Iff.trans (zU_step dX7_write_46 (Or.inl rfl)) ⟨fun h => ⟨h.1.1, h.2⟩, fun h => ⟨⟨h.1, by decide⟩, h.2⟩⟩
theorem dX7_write_49 : decode cX7_write 49 = .ok (.aload_n 0, 1) := by decide +kernel
theorem rX7_write_49 {R : zP} {x1 x2 x3 x4 x5 x6 : Option zV} {st : List zV} {M : zM} {a : Nat} : uX7_write R 49 [some (.inr (.inr a)), x1, x2, x3, x4, x5, x6] st M ↔ uX7_write R 50 [some (.inr (.inr a)), x1, x2, x3, x4, x5, x6] (.inr (.inr a) :: st) M := zU_step dX7_write_49 (Or.inl rfl)
theorem dX7_write_50 : decode cX7_write 50 = .ok (.iconst 1, 1) := by decide +kernel
theorem rX7_write_50 {R : zP} {x0 x1 x2 x3 x4 x5 x6 : Option zV} {st : List zV} {M : zM} : uX7_write R 50 [x0, x1, x2, x3, x4, x5, x6] st M ↔ uX7_write R 51 [x0, x1, x2, x3, x4, x5, x6] (.inl (1) :: st) M := zU_step dX7_write_50 (Or.inl rfl)
theorem dX7_write_51 : decode cX7_write 51 = .ok (.invokevirtual 131, 3) := by decide +kernel
theorem rX7_write_51 {R : zP} {x0 x1 x2 x3 x4 x5 x6 : Option zV} {st : List zV} {M : zM} {a0 a1 : zV} : uX7_write R 51 [x0, x1, x2, x3, x4, x5, x6] (a1 :: a0 :: st) M ↔ (st.length ≤ 4 ∧ zcv (zv 7 tX7_finding) [a0, a1] M (fun v M => uX7_write R 54 [x0, x1, x2, x3, x4, x5, x6] (v :: st) M)) := Iff.trans (zU_step dX7_write_51 (Or.inl rfl)) ⟨fun h => ⟨h.2.1, zcv_of h.2.2⟩, fun h => ⟨rfl, h.1, zcv_to h.2⟩⟩
theorem dX7_write_54 : decode cX7_write 54 = .ok (.ireturn, 1) := by decide +kernel
theorem rX7_write_54 {R : zP} {x0 x1 x2 x3 x4 x5 x6 : Option zV} {M : zM} {a : Int} : uX7_write R 54 [x0, x1, x2, x3, x4, x5, x6] [.inl a] M ↔ R (some (.inl a)) M := Iff.trans (zU_step dX7_write_54 (Or.inl rfl)) ⟨fun h => h.2.2, fun h => ⟨rfl, Or.inl rfl, h⟩⟩
theorem dX7_write_55 : decode cX7_write 55 = .ok (.aload_n 0, 1) := by decide +kernel
theorem rX7_write_55 {R : zP} {x1 x2 x3 x4 x5 x6 : Option zV} {st : List zV} {M : zM} {a : Nat} : uX7_write R 55 [some (.inr (.inr a)), x1, x2, x3, x4, x5, x6] st M ↔ uX7_write R 56 [some (.inr (.inr a)), x1, x2, x3, x4, x5, x6] (.inr (.inr a) :: st) M := zU_step dX7_write_55 (Or.inl rfl)
theorem dX7_write_56 : decode cX7_write 56 = .ok (.getfield 55, 3) := by decide +kernel
theorem rX7_write_56 {R : zP} {x0 x1 x2 x3 x4 x5 x6 : Option zV} {st : List zV} {M : zM} {r : Nat} : uX7_write R 56 [x0, x1, x2, x3, x4, x5, x6] (.inr (.inr r) :: st) M ↔ zgetx fX7 55 r M (fun v => uX7_write R 59 [x0, x1, x2, x3, x4, x5, x6] (v :: st) M) := zU_step dX7_write_56 (Or.inl rfl)
theorem dX7_write_59 : decode cX7_write 59 = .ok (.aload_n 0, 1) := by decide +kernel
theorem rX7_write_59 {R : zP} {x1 x2 x3 x4 x5 x6 : Option zV} {st : List zV} {M : zM} {a : Nat} : uX7_write R 59 [some (.inr (.inr a)), x1, x2, x3, x4, x5, x6] st M ↔ uX7_write R 60 [some (.inr (.inr a)), x1, x2, x3, x4, x5, x6] (.inr (.inr a) :: st) M := zU_step dX7_write_59 (Or.inl rfl)
theorem dX7_write_60 : decode cX7_write 60 = .ok (.getfield 14, 3) := by decide +kernel
theorem rX7_write_60 {R : zP} {x0 x1 x2 x3 x4 x5 x6 : Option zV} {st : List zV} {M : zM} {r : Nat} : uX7_write R 60 [x0, x1, x2, x3, x4, x5, x6] (.inr (.inr r) :: st) M ↔ zgetx fX7 14 r M (fun v => uX7_write R 63 [x0, x1, x2, x3, x4, x5, x6] (v :: st) M) := zU_step dX7_write_60 (Or.inl rfl)
theorem dX7_write_63 : decode cX7_write 63 = .ok (.iload_n 1, 1) := by decide +kernel
theorem rX7_write_63 {R : zP} {x0 x2 x3 x4 x5 x6 : Option zV} {st : List zV} {M : zM} {a : Int} : uX7_write R 63 [x0, some (.inl a), x2, x3, x4, x5, x6] st M ↔ uX7_write R 64 [x0, some (.inl a), x2, x3, x4, x5, x6] (.inl a :: st) M := zU_step dX7_write_63 (Or.inl rfl)
theorem dX7_write_64 : decode cX7_write 64 = .ok (.invokevirtual 238, 3) := by decide +kernel
theorem rX7_write_64 {R : zP} {x0 x1 x2 x3 x4 x5 x6 : Option zV} {st : List zV} {M : zM} {a0 a1 a2 : zV} : uX7_write R 64 [x0, x1, x2, x3, x4, x5, x6] (a2 :: a1 :: a0 :: st) M ↔ (st.length ≤ 4 ∧ zcn (zv 3 tX3_enter) [a0, a1, a2] M (fun M => uX7_write R 67 [x0, x1, x2, x3, x4, x5, x6] st M)) := Iff.trans (zU_step dX7_write_64 (Or.inl rfl)) ⟨fun h => ⟨h.2.1, zcn_of h.2.2⟩, fun h => ⟨rfl, h.1, zcn_to h.2⟩⟩
theorem dX7_write_67 : decode cX7_write 67 = .ok (.aload_n 0, 1) := by decide +kernel
theorem rX7_write_67 {R : zP} {x1 x2 x3 x4 x5 x6 : Option zV} {st : List zV} {M : zM} {a : Nat} : uX7_write R 67 [some (.inr (.inr a)), x1, x2, x3, x4, x5, x6] st M ↔ uX7_write R 68 [some (.inr (.inr a)), x1, x2, x3, x4, x5, x6] (.inr (.inr a) :: st) M := zU_step dX7_write_67 (Or.inl rfl)
theorem dX7_write_68 : decode cX7_write 68 = .ok (.iload_n 1, 1) := by decide +kernel
theorem rX7_write_68 {R : zP} {x0 x2 x3 x4 x5 x6 : Option zV} {st : List zV} {M : zM} {a : Int} : uX7_write R 68 [x0, some (.inl a), x2, x3, x4, x5, x6] st M ↔ uX7_write R 69 [x0, some (.inl a), x2, x3, x4, x5, x6] (.inl a :: st) M := zU_step dX7_write_68 (Or.inl rfl)
theorem dX7_write_69 : decode cX7_write 69 = .ok (.sipush 255, 3) := by decide +kernel
theorem rX7_write_69 {R : zP} {x0 x1 x2 x3 x4 x5 x6 : Option zV} {st : List zV} {M : zM} : uX7_write R 69 [x0, x1, x2, x3, x4, x5, x6] st M ↔ uX7_write R 72 [x0, x1, x2, x3, x4, x5, x6] (.inl (255) :: st) M := Iff.trans (zU_step dX7_write_69 (Or.inl rfl)) ⟨fun h => h.2, fun h => ⟨by decide, h⟩⟩
theorem dX7_write_72 : decode cX7_write 72 = .ok (.invokevirtual 245, 3) := by decide +kernel
theorem rX7_write_72 {R : zP} {x0 x1 x2 x3 x4 x5 x6 : Option zV} {st : List zV} {M : zM} {a0 a1 a2 : zV} : uX7_write R 72 [x0, x1, x2, x3, x4, x5, x6] (a2 :: a1 :: a0 :: st) M ↔ (st.length ≤ 4 ∧ zcn (zv 7 tX7_trace) [a0, a1, a2] M (fun M => uX7_write R 75 [x0, x1, x2, x3, x4, x5, x6] st M)) := Iff.trans (zU_step dX7_write_72 (Or.inl rfl)) ⟨fun h => ⟨h.2.1, zcn_of h.2.2⟩, fun h => ⟨rfl, h.1, zcn_to h.2⟩⟩
theorem dX7_write_75 : decode cX7_write 75 = .ok (.aload 4, 2) := by decide +kernel
theorem rX7_write_75 {R : zP} {x0 x1 x2 x3 x5 x6 : Option zV} {st : List zV} {M : zM} {a : Nat} : uX7_write R 75 [x0, x1, x2, x3, some (.inr (.inr a)), x5, x6] st M ↔ uX7_write R 77 [x0, x1, x2, x3, some (.inr (.inr a)), x5, x6] (.inr (.inr a) :: st) M := zU_step dX7_write_75 (Or.inl rfl)
theorem dX7_write_77 : decode cX7_write 77 = .ok (.getfield 134, 3) := by decide +kernel
theorem rX7_write_77 {R : zP} {x0 x1 x2 x3 x4 x5 x6 : Option zV} {st : List zV} {M : zM} {r : Nat} : uX7_write R 77 [x0, x1, x2, x3, x4, x5, x6] (.inr (.inr r) :: st) M ↔ zgetx fX7 134 r M (fun v => uX7_write R 80 [x0, x1, x2, x3, x4, x5, x6] (v :: st) M) := zU_step dX7_write_77 (Or.inl rfl)
theorem dX7_write_80 : decode cX7_write 80 = .ok (.bipush 20, 2) := by decide +kernel
theorem rX7_write_80 {R : zP} {x0 x1 x2 x3 x4 x5 x6 : Option zV} {st : List zV} {M : zM} : uX7_write R 80 [x0, x1, x2, x3, x4, x5, x6] st M ↔ uX7_write R 82 [x0, x1, x2, x3, x4, x5, x6] (.inl (20) :: st) M := Iff.trans (zU_step dX7_write_80 (Or.inl rfl)) ⟨fun h => h.2, fun h => ⟨by decide, h⟩⟩
theorem dX7_write_82 : decode cX7_write 82 = .ok (.invokestatic 311, 3) := by decide +kernel
theorem rX7_write_82 {R : zP} {x0 x1 x2 x3 x4 x5 x6 : Option zV} {st : List zV} {M : zM} {a0 a1 : zV} : uX7_write R 82 [x0, x1, x2, x3, x4, x5, x6] (a1 :: a0 :: st) M ↔ (st.length ≤ 4 ∧ zcv zminT [a0, a1] M (fun v M => uX7_write R 85 [x0, x1, x2, x3, x4, x5, x6] (v :: st) M)) := Iff.trans (zU_step dX7_write_82 (Or.inl rfl)) ⟨fun h => ⟨h.2.1, zcv_of h.2.2⟩, fun h => ⟨rfl, h.1, zcv_to h.2⟩⟩
theorem dX7_write_85 : decode cX7_write 85 = .ok (.istore 5, 2) := by decide +kernel
theorem rX7_write_85 {R : zP} {x0 x1 x2 x3 x4 x5 x6 : Option zV} {st : List zV} {M : zM} {a : Int} : uX7_write R 85 [x0, x1, x2, x3, x4, x5, x6] (.inl a :: st) M ↔ uX7_write R 87 [x0, x1, x2, x3, zkeep x4, some (.inl a), x6] st M := Iff.trans (zU_step dX7_write_85 (Or.inl rfl)) ⟨fun h => h.2, fun h => ⟨show 5 < 7 by decide, h⟩⟩
theorem dX7_write_87 : decode cX7_write 87 = .ok (.iconst 0, 1) := by decide +kernel
theorem rX7_write_87 {R : zP} {x0 x1 x2 x3 x4 x5 x6 : Option zV} {st : List zV} {M : zM} : uX7_write R 87 [x0, x1, x2, x3, x4, x5, x6] st M ↔ uX7_write R 88 [x0, x1, x2, x3, x4, x5, x6] (.inl (0) :: st) M := zU_step dX7_write_87 (Or.inl rfl)
theorem dX7_write_88 : decode cX7_write 88 = .ok (.istore 6, 2) := by decide +kernel
theorem rX7_write_88 {R : zP} {x0 x1 x2 x3 x4 x5 x6 : Option zV} {st : List zV} {M : zM} {a : Int} : uX7_write R 88 [x0, x1, x2, x3, x4, x5, x6] (.inl a :: st) M ↔ uX7_write R 90 [x0, x1, x2, x3, x4, zkeep x5, some (.inl a)] st M := Iff.trans (zU_step dX7_write_88 (Or.inl rfl)) ⟨fun h => h.2, fun h => ⟨show 6 < 7 by decide, h⟩⟩
theorem dX7_write_90 : decode cX7_write 90 = .ok (.iload 6, 2) := by decide +kernel
theorem rX7_write_90 {R : zP} {x0 x1 x2 x3 x4 x5 : Option zV} {st : List zV} {M : zM} {a : Int} : uX7_write R 90 [x0, x1, x2, x3, x4, x5, some (.inl a)] st M ↔ uX7_write R 92 [x0, x1, x2, x3, x4, x5, some (.inl a)] (.inl a :: st) M := zU_step dX7_write_90 (Or.inl rfl)
theorem dX7_write_92 : decode cX7_write 92 = .ok (.iload 5, 2) := by decide +kernel
theorem rX7_write_92 {R : zP} {x0 x1 x2 x3 x4 x6 : Option zV} {st : List zV} {M : zM} {a : Int} : uX7_write R 92 [x0, x1, x2, x3, x4, some (.inl a), x6] st M ↔ uX7_write R 94 [x0, x1, x2, x3, x4, some (.inl a), x6] (.inl a :: st) M := zU_step dX7_write_92 (Or.inl rfl)
theorem dX7_write_94 : decode cX7_write 94 = .ok (.if_icmp .ge 27, 3) := by decide +kernel
theorem rX7_write_94 {R : zP} {x0 x1 x2 x3 x4 x5 x6 : Option zV} {st : List zV} {M : zM} {a b : Int} : uX7_write R 94 [x0, x1, x2, x3, x4, x5, x6] (.inl b :: .inl a :: st) M ↔ ((zIR a ∧ zIR b) ∧ (b ≤ a → uX7_write R 121 [x0, x1, x2, x3, x4, x5, x6] st M) ∧ (¬ b ≤ a → uX7_write R 97 [x0, x1, x2, x3, x4, x5, x6] st M)) := Iff.trans (zU_step dX7_write_94 (Or.inl rfl)) ⟨fun h => ⟨⟨h.1.1, h.1.2.1⟩, h.2⟩, fun h => ⟨⟨h.1.1, h.1.2, by decide⟩, h.2⟩⟩
theorem dX7_write_97 : decode cX7_write 97 = .ok (.aload 4, 2) := by decide +kernel
theorem rX7_write_97 {R : zP} {x0 x1 x2 x3 x5 x6 : Option zV} {st : List zV} {M : zM} {a : Nat} : uX7_write R 97 [x0, x1, x2, x3, some (.inr (.inr a)), x5, x6] st M ↔ uX7_write R 99 [x0, x1, x2, x3, some (.inr (.inr a)), x5, x6] (.inr (.inr a) :: st) M := zU_step dX7_write_97 (Or.inl rfl)
theorem dX7_write_99 : decode cX7_write 99 = .ok (.iload 6, 2) := by decide +kernel
theorem rX7_write_99 {R : zP} {x0 x1 x2 x3 x4 x5 : Option zV} {st : List zV} {M : zM} {a : Int} : uX7_write R 99 [x0, x1, x2, x3, x4, x5, some (.inl a)] st M ↔ uX7_write R 101 [x0, x1, x2, x3, x4, x5, some (.inl a)] (.inl a :: st) M := zU_step dX7_write_99 (Or.inl rfl)
theorem dX7_write_101 : decode cX7_write 101 = .ok (.aload_n 0, 1) := by decide +kernel
theorem rX7_write_101 {R : zP} {x1 x2 x3 x4 x5 x6 : Option zV} {st : List zV} {M : zM} {a : Nat} : uX7_write R 101 [some (.inr (.inr a)), x1, x2, x3, x4, x5, x6] st M ↔ uX7_write R 102 [some (.inr (.inr a)), x1, x2, x3, x4, x5, x6] (.inr (.inr a) :: st) M := zU_step dX7_write_101 (Or.inl rfl)
theorem dX7_write_102 : decode cX7_write 102 = .ok (.getfield 76, 3) := by decide +kernel
theorem rX7_write_102 {R : zP} {x0 x1 x2 x3 x4 x5 x6 : Option zV} {st : List zV} {M : zM} {r : Nat} : uX7_write R 102 [x0, x1, x2, x3, x4, x5, x6] (.inr (.inr r) :: st) M ↔ zgetx fX7 76 r M (fun v => uX7_write R 105 [x0, x1, x2, x3, x4, x5, x6] (v :: st) M) := zU_step dX7_write_102 (Or.inl rfl)
theorem dX7_write_105 : decode cX7_write 105 = .ok (.iload 6, 2) := by decide +kernel
theorem rX7_write_105 {R : zP} {x0 x1 x2 x3 x4 x5 : Option zV} {st : List zV} {M : zM} {a : Int} : uX7_write R 105 [x0, x1, x2, x3, x4, x5, some (.inl a)] st M ↔ uX7_write R 107 [x0, x1, x2, x3, x4, x5, some (.inl a)] (.inl a :: st) M := zU_step dX7_write_105 (Or.inl rfl)
theorem dX7_write_107 : decode cX7_write 107 = .ok (.iconst 4, 1) := by decide +kernel
theorem rX7_write_107 {R : zP} {x0 x1 x2 x3 x4 x5 x6 : Option zV} {st : List zV} {M : zM} : uX7_write R 107 [x0, x1, x2, x3, x4, x5, x6] st M ↔ uX7_write R 108 [x0, x1, x2, x3, x4, x5, x6] (.inl (4) :: st) M := zU_step dX7_write_107 (Or.inl rfl)
theorem dX7_write_108 : decode cX7_write 108 = .ok (.imul, 1) := by decide +kernel
theorem rX7_write_108 {R : zP} {x0 x1 x2 x3 x4 x5 x6 : Option zV} {st : List zV} {M : zM} {a b : Int} : uX7_write R 108 [x0, x1, x2, x3, x4, x5, x6] (.inl b :: .inl a :: st) M ↔ uX7_write R 109 [x0, x1, x2, x3, x4, x5, x6] (.inl (a * b) :: st) M := zU_step dX7_write_108 (Or.inl rfl)
theorem dX7_write_109 : decode cX7_write 109 = .ok (.iload_n 2, 1) := by decide +kernel
theorem rX7_write_109 {R : zP} {x0 x1 x3 x4 x5 x6 : Option zV} {st : List zV} {M : zM} {a : Int} : uX7_write R 109 [x0, x1, some (.inl a), x3, x4, x5, x6] st M ↔ uX7_write R 110 [x0, x1, some (.inl a), x3, x4, x5, x6] (.inl a :: st) M := zU_step dX7_write_109 (Or.inl rfl)
theorem dX7_write_110 : decode cX7_write 110 = .ok (.iadd, 1) := by decide +kernel
theorem rX7_write_110 {R : zP} {x0 x1 x2 x3 x4 x5 x6 : Option zV} {st : List zV} {M : zM} {a b : Int} : uX7_write R 110 [x0, x1, x2, x3, x4, x5, x6] (.inl b :: .inl a :: st) M ↔ uX7_write R 111 [x0, x1, x2, x3, x4, x5, x6] (.inl (a + b) :: st) M := zU_step dX7_write_110 (Or.inl rfl)
theorem dX7_write_111 : decode cX7_write 111 = .ok (.iaload, 1) := by decide +kernel
theorem rX7_write_111 {R : zP} {x0 x1 x2 x3 x4 x5 x6 : Option zV} {st : List zV} {M : zM} {i : Int} {r : Nat} : uX7_write R 111 [x0, x1, x2, x3, x4, x5, x6] (.inl i :: .inr (.inr r) :: st) M ↔ zread fX7 0 r M i (fun v => uX7_write R 112 [x0, x1, x2, x3, x4, x5, x6] (.inl v :: st) M) := zU_step dX7_write_111 (Or.inl rfl)
theorem dX7_write_112 : decode cX7_write 112 = .ok (.invokevirtual 295, 3) := by decide +kernel
theorem rX7_write_112 {R : zP} {x0 x1 x2 x3 x4 x5 x6 : Option zV} {st : List zV} {M : zM} {a0 a1 a2 : zV} : uX7_write R 112 [x0, x1, x2, x3, x4, x5, x6] (a2 :: a1 :: a0 :: st) M ↔ (st.length ≤ 4 ∧ zcn (zv 1 tX1_store) [a0, a1, a2] M (fun M => uX7_write R 115 [x0, x1, x2, x3, x4, x5, x6] st M)) := Iff.trans (zU_step dX7_write_112 (Or.inl rfl)) ⟨fun h => ⟨h.2.1, zcn_of h.2.2⟩, fun h => ⟨rfl, h.1, zcn_to h.2⟩⟩
theorem dX7_write_115 : decode cX7_write 115 = .ok (.iinc 6 1, 3) := by decide +kernel
theorem rX7_write_115 {R : zP} {x0 x1 x2 x3 x4 x5 : Option zV} {st : List zV} {M : zM} {a : Int} : uX7_write R 115 [x0, x1, x2, x3, x4, x5, some (.inl a)] st M ↔ uX7_write R 118 [x0, x1, x2, x3, x4, zkeep x5, some (.inl (a + (1)))] st M := Iff.trans (zU_step dX7_write_115 (Or.inl rfl)) ⟨fun h => h.2, fun h => ⟨show 6 < 7 by decide, h⟩⟩
theorem dX7_write_118 : decode cX7_write 118 = .ok (.goto (-28), 3) := by decide +kernel
theorem rX7_write_118 {R : zP} {x0 x1 x2 x3 x4 x5 x6 : Option zV} {st : List zV} {M : zM} : uX7_write R 118 [x0, x1, x2, x3, x4, x5, x6] st M ↔ uX7_write R 90 [x0, x1, x2, x3, x4, x5, x6] st M := Iff.trans (zU_step dX7_write_118 (Or.inl rfl)) ⟨fun h => h.2, fun h => ⟨by decide, h⟩⟩
theorem dX7_write_121 : decode cX7_write 121 = .ok (.iload 5, 2) := by decide +kernel
theorem rX7_write_121 {R : zP} {x0 x1 x2 x3 x4 x6 : Option zV} {st : List zV} {M : zM} {a : Int} : uX7_write R 121 [x0, x1, x2, x3, x4, some (.inl a), x6] st M ↔ uX7_write R 123 [x0, x1, x2, x3, x4, some (.inl a), x6] (.inl a :: st) M := zU_step dX7_write_121 (Or.inl rfl)
theorem dX7_write_123 : decode cX7_write 123 = .ok (.ireturn, 1) := by decide +kernel
theorem rX7_write_123 {R : zP} {x0 x1 x2 x3 x4 x5 x6 : Option zV} {M : zM} {a : Int} : uX7_write R 123 [x0, x1, x2, x3, x4, x5, x6] [.inl a] M ↔ R (some (.inl a)) M := Iff.trans (zU_step dX7_write_123 (Or.inl rfl)) ⟨fun h => h.2.2, fun h => ⟨rfl, Or.inl rfl, h⟩⟩
theorem eX7_write {R : zP} {M : zM} {a0 : Nat} {p0 : Int} {p1 : Int} {p2 : Int} : tX7_write [.inr (.inr a0), .inl p0, .inl p1, .inl p2] M R ↔ uX7_write R 0 [some (.inr (.inr a0)), some (.inl p0), some (.inl p1), some (.inl p2), none, none, none] [] M := ⟨fun h => h.2, fun h => ⟨show 4 ≤ 7 by decide, h⟩⟩
def uX7_count (R : zP) : zK := zU fX7 vX7_count cX7_count R
theorem dX7_count_0 : decode cX7_count 0 = .ok (.iload_n 1, 1) := by decide +kernel
theorem rX7_count_0 {R : zP} {x0 : Option zV} {st : List zV} {M : zM} {a : Int} : uX7_count R 0 [x0, some (.inl a)] st M ↔ uX7_count R 1 [x0, some (.inl a)] (.inl a :: st) M := zU_step dX7_count_0 (Or.inl rfl)
theorem dX7_count_1 : decode cX7_count 1 = .ok (.tableswitch 128 0 8 #[51, 59, 67, 75, 83, 91, 106, 115, 123], 51) := by decide +kernel
theorem rX7_count_1 {R : zP} {x0 x1 : Option zV} {st : List zV} {M : zM} {a : Int} : uX7_count R 1 [x0, x1] (.inl a :: st) M ↔ (zIR a ∧ (a = 0 → uX7_count R 52 [x0, x1] st M) ∧ (a = 1 → uX7_count R 60 [x0, x1] st M) ∧ (a = 2 → uX7_count R 68 [x0, x1] st M) ∧ (a = 3 → uX7_count R 76 [x0, x1] st M) ∧ (a = 4 → uX7_count R 84 [x0, x1] st M) ∧ (a = 5 → uX7_count R 92 [x0, x1] st M) ∧ (a = 6 → uX7_count R 107 [x0, x1] st M) ∧ (a = 7 → uX7_count R 116 [x0, x1] st M) ∧ (a = 8 → uX7_count R 124 [x0, x1] st M) ∧ ((a < 0 ∨ 8 < a) → uX7_count R 129 [x0, x1] st M)) := by
  refine Iff.trans (zU_step dX7_count_1 (Or.inr rfl)) ?_
  constructor
  · intro h
    refine ⟨h.1, fun e => by subst e; exact h.2.2, fun e => by subst e; exact h.2.2, fun e => by subst e; exact h.2.2, fun e => by subst e; exact h.2.2, fun e => by subst e; exact h.2.2, fun e => by subst e; exact h.2.2, fun e => by subst e; exact h.2.2, fun e => by subst e; exact h.2.2, fun e => by subst e; exact h.2.2, fun e => ?_⟩
    have h2 := h.2
    simp only [zsw, if_pos e, zopt] at h2
    exact h2.2
  · intro h
    refine ⟨h.1, ?_⟩
    by_cases e : a < 0 ∨ 8 < a
    · simp only [zsw, if_pos e, zopt]
      exact ⟨by decide, h.2.2.2.2.2.2.2.2.2.2 e⟩
    · have e2 : a = 0 ∨ a = 1 ∨ a = 2 ∨ a = 3 ∨ a = 4 ∨ a = 5 ∨ a = 6 ∨ a = 7 ∨ a = 8 := by omega
      rcases e2 with e2 | e2 | e2 | e2 | e2 | e2 | e2 | e2 | e2
      · subst e2
        exact ⟨by decide, h.2.1 rfl⟩
      · subst e2
        exact ⟨by decide, h.2.2.1 rfl⟩
      · subst e2
        exact ⟨by decide, h.2.2.2.1 rfl⟩
      · subst e2
        exact ⟨by decide, h.2.2.2.2.1 rfl⟩
      · subst e2
        exact ⟨by decide, h.2.2.2.2.2.1 rfl⟩
      · subst e2
        exact ⟨by decide, h.2.2.2.2.2.2.1 rfl⟩
      · subst e2
        exact ⟨by decide, h.2.2.2.2.2.2.2.1 rfl⟩
      · subst e2
        exact ⟨by decide, h.2.2.2.2.2.2.2.2.1 rfl⟩
      · subst e2
        exact ⟨by decide, h.2.2.2.2.2.2.2.2.2.1 rfl⟩
theorem dX7_count_52 : decode cX7_count 52 = .ok (.aload_n 0, 1) := by decide +kernel
theorem rX7_count_52 {R : zP} {x1 : Option zV} {st : List zV} {M : zM} {a : Nat} : uX7_count R 52 [some (.inr (.inr a)), x1] st M ↔ uX7_count R 53 [some (.inr (.inr a)), x1] (.inr (.inr a) :: st) M := zU_step dX7_count_52 (Or.inl rfl)
theorem dX7_count_53 : decode cX7_count 53 = .ok (.getfield 14, 3) := by decide +kernel
theorem rX7_count_53 {R : zP} {x0 x1 : Option zV} {st : List zV} {M : zM} {r : Nat} : uX7_count R 53 [x0, x1] (.inr (.inr r) :: st) M ↔ zgetx fX7 14 r M (fun v => uX7_count R 56 [x0, x1] (v :: st) M) := zU_step dX7_count_53 (Or.inl rfl)
theorem dX7_count_56 : decode cX7_count 56 = .ok (.getfield 116, 3) := by decide +kernel
theorem rX7_count_56 {R : zP} {x0 x1 : Option zV} {st : List zV} {M : zM} {r : Nat} : uX7_count R 56 [x0, x1] (.inr (.inr r) :: st) M ↔ zgetx fX7 116 r M (fun v => uX7_count R 59 [x0, x1] (v :: st) M) := zU_step dX7_count_56 (Or.inl rfl)
theorem dX7_count_59 : decode cX7_count 59 = .ok (.ireturn, 1) := by decide +kernel
theorem rX7_count_59 {R : zP} {x0 x1 : Option zV} {M : zM} {a : Int} : uX7_count R 59 [x0, x1] [.inl a] M ↔ R (some (.inl a)) M := Iff.trans (zU_step dX7_count_59 (Or.inl rfl)) ⟨fun h => h.2.2, fun h => ⟨rfl, Or.inl rfl, h⟩⟩
theorem dX7_count_60 : decode cX7_count 60 = .ok (.aload_n 0, 1) := by decide +kernel
theorem rX7_count_60 {R : zP} {x1 : Option zV} {st : List zV} {M : zM} {a : Nat} : uX7_count R 60 [some (.inr (.inr a)), x1] st M ↔ uX7_count R 61 [some (.inr (.inr a)), x1] (.inr (.inr a) :: st) M := zU_step dX7_count_60 (Or.inl rfl)
theorem dX7_count_61 : decode cX7_count 61 = .ok (.getfield 22, 3) := by decide +kernel
theorem rX7_count_61 {R : zP} {x0 x1 : Option zV} {st : List zV} {M : zM} {r : Nat} : uX7_count R 61 [x0, x1] (.inr (.inr r) :: st) M ↔ zgetx fX7 22 r M (fun v => uX7_count R 64 [x0, x1] (v :: st) M) := zU_step dX7_count_61 (Or.inl rfl)
theorem dX7_count_64 : decode cX7_count 64 = .ok (.getfield 116, 3) := by decide +kernel
theorem rX7_count_64 {R : zP} {x0 x1 : Option zV} {st : List zV} {M : zM} {r : Nat} : uX7_count R 64 [x0, x1] (.inr (.inr r) :: st) M ↔ zgetx fX7 116 r M (fun v => uX7_count R 67 [x0, x1] (v :: st) M) := zU_step dX7_count_64 (Or.inl rfl)
theorem dX7_count_67 : decode cX7_count 67 = .ok (.ireturn, 1) := by decide +kernel
theorem rX7_count_67 {R : zP} {x0 x1 : Option zV} {M : zM} {a : Int} : uX7_count R 67 [x0, x1] [.inl a] M ↔ R (some (.inl a)) M := Iff.trans (zU_step dX7_count_67 (Or.inl rfl)) ⟨fun h => h.2.2, fun h => ⟨rfl, Or.inl rfl, h⟩⟩
theorem dX7_count_68 : decode cX7_count 68 = .ok (.aload_n 0, 1) := by decide +kernel
theorem rX7_count_68 {R : zP} {x1 : Option zV} {st : List zV} {M : zM} {a : Nat} : uX7_count R 68 [some (.inr (.inr a)), x1] st M ↔ uX7_count R 69 [some (.inr (.inr a)), x1] (.inr (.inr a) :: st) M := zU_step dX7_count_68 (Or.inl rfl)
theorem dX7_count_69 : decode cX7_count 69 = .ok (.getfield 14, 3) := by decide +kernel
theorem rX7_count_69 {R : zP} {x0 x1 : Option zV} {st : List zV} {M : zM} {r : Nat} : uX7_count R 69 [x0, x1] (.inr (.inr r) :: st) M ↔ zgetx fX7 14 r M (fun v => uX7_count R 72 [x0, x1] (v :: st) M) := zU_step dX7_count_69 (Or.inl rfl)
theorem dX7_count_72 : decode cX7_count 72 = .ok (.getfield 316, 3) := by decide +kernel
theorem rX7_count_72 {R : zP} {x0 x1 : Option zV} {st : List zV} {M : zM} {r : Nat} : uX7_count R 72 [x0, x1] (.inr (.inr r) :: st) M ↔ zgetx fX7 316 r M (fun v => uX7_count R 75 [x0, x1] (v :: st) M) := zU_step dX7_count_72 (Or.inl rfl)
theorem dX7_count_75 : decode cX7_count 75 = .ok (.ireturn, 1) := by decide +kernel
theorem rX7_count_75 {R : zP} {x0 x1 : Option zV} {M : zM} {a : Int} : uX7_count R 75 [x0, x1] [.inl a] M ↔ R (some (.inl a)) M := Iff.trans (zU_step dX7_count_75 (Or.inl rfl)) ⟨fun h => h.2.2, fun h => ⟨rfl, Or.inl rfl, h⟩⟩
theorem dX7_count_76 : decode cX7_count 76 = .ok (.aload_n 0, 1) := by decide +kernel
theorem rX7_count_76 {R : zP} {x1 : Option zV} {st : List zV} {M : zM} {a : Nat} : uX7_count R 76 [some (.inr (.inr a)), x1] st M ↔ uX7_count R 77 [some (.inr (.inr a)), x1] (.inr (.inr a) :: st) M := zU_step dX7_count_76 (Or.inl rfl)
theorem dX7_count_77 : decode cX7_count 77 = .ok (.getfield 22, 3) := by decide +kernel
theorem rX7_count_77 {R : zP} {x0 x1 : Option zV} {st : List zV} {M : zM} {r : Nat} : uX7_count R 77 [x0, x1] (.inr (.inr r) :: st) M ↔ zgetx fX7 22 r M (fun v => uX7_count R 80 [x0, x1] (v :: st) M) := zU_step dX7_count_77 (Or.inl rfl)
theorem dX7_count_80 : decode cX7_count 80 = .ok (.getfield 316, 3) := by decide +kernel
theorem rX7_count_80 {R : zP} {x0 x1 : Option zV} {st : List zV} {M : zM} {r : Nat} : uX7_count R 80 [x0, x1] (.inr (.inr r) :: st) M ↔ zgetx fX7 316 r M (fun v => uX7_count R 83 [x0, x1] (v :: st) M) := zU_step dX7_count_80 (Or.inl rfl)
theorem dX7_count_83 : decode cX7_count 83 = .ok (.ireturn, 1) := by decide +kernel
theorem rX7_count_83 {R : zP} {x0 x1 : Option zV} {M : zM} {a : Int} : uX7_count R 83 [x0, x1] [.inl a] M ↔ R (some (.inl a)) M := Iff.trans (zU_step dX7_count_83 (Or.inl rfl)) ⟨fun h => h.2.2, fun h => ⟨rfl, Or.inl rfl, h⟩⟩
theorem dX7_count_84 : decode cX7_count 84 = .ok (.aload_n 0, 1) := by decide +kernel
theorem rX7_count_84 {R : zP} {x1 : Option zV} {st : List zV} {M : zM} {a : Nat} : uX7_count R 84 [some (.inr (.inr a)), x1] st M ↔ uX7_count R 85 [some (.inr (.inr a)), x1] (.inr (.inr a) :: st) M := zU_step dX7_count_84 (Or.inl rfl)
theorem dX7_count_85 : decode cX7_count 85 = .ok (.getfield 28, 3) := by decide +kernel
theorem rX7_count_85 {R : zP} {x0 x1 : Option zV} {st : List zV} {M : zM} {r : Nat} : uX7_count R 85 [x0, x1] (.inr (.inr r) :: st) M ↔ zgetx fX7 28 r M (fun v => uX7_count R 88 [x0, x1] (v :: st) M) := zU_step dX7_count_85 (Or.inl rfl)
theorem dX7_count_88 : decode cX7_count 88 = .ok (.getfield 234, 3) := by decide +kernel
theorem rX7_count_88 {R : zP} {x0 x1 : Option zV} {st : List zV} {M : zM} {r : Nat} : uX7_count R 88 [x0, x1] (.inr (.inr r) :: st) M ↔ zgetx fX7 234 r M (fun v => uX7_count R 91 [x0, x1] (v :: st) M) := zU_step dX7_count_88 (Or.inl rfl)
theorem dX7_count_91 : decode cX7_count 91 = .ok (.ireturn, 1) := by decide +kernel
theorem rX7_count_91 {R : zP} {x0 x1 : Option zV} {M : zM} {a : Int} : uX7_count R 91 [x0, x1] [.inl a] M ↔ R (some (.inl a)) M := Iff.trans (zU_step dX7_count_91 (Or.inl rfl)) ⟨fun h => h.2.2, fun h => ⟨rfl, Or.inl rfl, h⟩⟩
theorem dX7_count_92 : decode cX7_count 92 = .ok (.aload_n 0, 1) := by decide +kernel
theorem rX7_count_92 {R : zP} {x1 : Option zV} {st : List zV} {M : zM} {a : Nat} : uX7_count R 92 [some (.inr (.inr a)), x1] st M ↔ uX7_count R 93 [some (.inr (.inr a)), x1] (.inr (.inr a) :: st) M := zU_step dX7_count_92 (Or.inl rfl)
theorem dX7_count_93 : decode cX7_count 93 = .ok (.aload_n 0, 1) := by decide +kernel
theorem rX7_count_93 {R : zP} {x1 : Option zV} {st : List zV} {M : zM} {a : Nat} : uX7_count R 93 [some (.inr (.inr a)), x1] st M ↔ uX7_count R 94 [some (.inr (.inr a)), x1] (.inr (.inr a) :: st) M := zU_step dX7_count_93 (Or.inl rfl)
theorem dX7_count_94 : decode cX7_count 94 = .ok (.getfield 28, 3) := by decide +kernel
theorem rX7_count_94 {R : zP} {x0 x1 : Option zV} {st : List zV} {M : zM} {r : Nat} : uX7_count R 94 [x0, x1] (.inr (.inr r) :: st) M ↔ zgetx fX7 28 r M (fun v => uX7_count R 97 [x0, x1] (v :: st) M) := zU_step dX7_count_94 (Or.inl rfl)
theorem dX7_count_97 : decode cX7_count 97 = .ok (.sipush 255, 3) := by decide +kernel
theorem rX7_count_97 {R : zP} {x0 x1 : Option zV} {st : List zV} {M : zM} : uX7_count R 97 [x0, x1] st M ↔ uX7_count R 100 [x0, x1] (.inl (255) :: st) M := Iff.trans (zU_step dX7_count_97 (Or.inl rfl)) ⟨fun h => h.2, fun h => ⟨by decide, h⟩⟩
theorem dX7_count_100 : decode cX7_count 100 = .ok (.invokevirtual 191, 3) := by decide +kernel
theorem rX7_count_100 {R : zP} {x0 x1 : Option zV} {st : List zV} {M : zM} {a0 a1 a2 : zV} : uX7_count R 100 [x0, x1] (a2 :: a1 :: a0 :: st) M ↔ (st.length ≤ 4 ∧ zcv (zv 7 tX7_unknowing) [a0, a1, a2] M (fun v M => uX7_count R 103 [x0, x1] (v :: st) M)) := Iff.trans (zU_step dX7_count_100 (Or.inl rfl)) ⟨fun h => ⟨h.2.1, zcv_of h.2.2⟩, fun h => ⟨rfl, h.1, zcv_to h.2⟩⟩
theorem dX7_count_103 : decode cX7_count 103 = .ok (.invokestatic 173, 3) := by decide +kernel
theorem rX7_count_103 {R : zP} {x0 x1 : Option zV} {st : List zV} {M : zM} {a0 : zV} : uX7_count R 103 [x0, x1] (a0 :: st) M ↔ (st.length ≤ 4 ∧ zcv tJ6_bitCount_0f7a4 [a0] M (fun v M => uX7_count R 106 [x0, x1] (v :: st) M)) := Iff.trans (zU_step dX7_count_103 (Or.inl rfl)) ⟨fun h => ⟨h.2.1, zcv_of h.2.2⟩, fun h => ⟨rfl, h.1, zcv_to h.2⟩⟩
theorem dX7_count_106 : decode cX7_count 106 = .ok (.ireturn, 1) := by decide +kernel
theorem rX7_count_106 {R : zP} {x0 x1 : Option zV} {M : zM} {a : Int} : uX7_count R 106 [x0, x1] [.inl a] M ↔ R (some (.inl a)) M := Iff.trans (zU_step dX7_count_106 (Or.inl rfl)) ⟨fun h => h.2.2, fun h => ⟨rfl, Or.inl rfl, h⟩⟩
theorem dX7_count_107 : decode cX7_count 107 = .ok (.aload_n 0, 1) := by decide +kernel
theorem rX7_count_107 {R : zP} {x1 : Option zV} {st : List zV} {M : zM} {a : Nat} : uX7_count R 107 [some (.inr (.inr a)), x1] st M ↔ uX7_count R 108 [some (.inr (.inr a)), x1] (.inr (.inr a) :: st) M := zU_step dX7_count_107 (Or.inl rfl)
theorem dX7_count_108 : decode cX7_count 108 = .ok (.aload_n 0, 1) := by decide +kernel
theorem rX7_count_108 {R : zP} {x1 : Option zV} {st : List zV} {M : zM} {a : Nat} : uX7_count R 108 [some (.inr (.inr a)), x1] st M ↔ uX7_count R 109 [some (.inr (.inr a)), x1] (.inr (.inr a) :: st) M := zU_step dX7_count_108 (Or.inl rfl)
theorem dX7_count_109 : decode cX7_count 109 = .ok (.getfield 28, 3) := by decide +kernel
theorem rX7_count_109 {R : zP} {x0 x1 : Option zV} {st : List zV} {M : zM} {r : Nat} : uX7_count R 109 [x0, x1] (.inr (.inr r) :: st) M ↔ zgetx fX7 28 r M (fun v => uX7_count R 112 [x0, x1] (v :: st) M) := zU_step dX7_count_109 (Or.inl rfl)
theorem dX7_count_112 : decode cX7_count 112 = .ok (.invokevirtual 282, 3) := by decide +kernel
theorem rX7_count_112 {R : zP} {x0 x1 : Option zV} {st : List zV} {M : zM} {a0 a1 : zV} : uX7_count R 112 [x0, x1] (a1 :: a0 :: st) M ↔ (st.length ≤ 4 ∧ zcv (zv 7 tX7_sickness) [a0, a1] M (fun v M => uX7_count R 115 [x0, x1] (v :: st) M)) := Iff.trans (zU_step dX7_count_112 (Or.inl rfl)) ⟨fun h => ⟨h.2.1, zcv_of h.2.2⟩, fun h => ⟨rfl, h.1, zcv_to h.2⟩⟩
theorem dX7_count_115 : decode cX7_count 115 = .ok (.ireturn, 1) := by decide +kernel
theorem rX7_count_115 {R : zP} {x0 x1 : Option zV} {M : zM} {a : Int} : uX7_count R 115 [x0, x1] [.inl a] M ↔ R (some (.inl a)) M := Iff.trans (zU_step dX7_count_115 (Or.inl rfl)) ⟨fun h => h.2.2, fun h => ⟨rfl, Or.inl rfl, h⟩⟩
theorem dX7_count_116 : decode cX7_count 116 = .ok (.aload_n 0, 1) := by decide +kernel
theorem rX7_count_116 {R : zP} {x1 : Option zV} {st : List zV} {M : zM} {a : Nat} : uX7_count R 116 [some (.inr (.inr a)), x1] st M ↔ uX7_count R 117 [some (.inr (.inr a)), x1] (.inr (.inr a) :: st) M := zU_step dX7_count_116 (Or.inl rfl)
theorem dX7_count_117 : decode cX7_count 117 = .ok (.getfield 38, 3) := by decide +kernel
theorem rX7_count_117 {R : zP} {x0 x1 : Option zV} {st : List zV} {M : zM} {r : Nat} : uX7_count R 117 [x0, x1] (.inr (.inr r) :: st) M ↔ zgetx fX7 38 r M (fun v => uX7_count R 120 [x0, x1] (v :: st) M) := zU_step dX7_count_117 (Or.inl rfl)
theorem dX7_count_120 : decode cX7_count 120 = .ok (.getfield 319, 3) := by decide +kernel
theorem rX7_count_120 {R : zP} {x0 x1 : Option zV} {st : List zV} {M : zM} {r : Nat} : uX7_count R 120 [x0, x1] (.inr (.inr r) :: st) M ↔ zgetx fX7 319 r M (fun v => uX7_count R 123 [x0, x1] (v :: st) M) := zU_step dX7_count_120 (Or.inl rfl)
theorem dX7_count_123 : decode cX7_count 123 = .ok (.ireturn, 1) := by decide +kernel
theorem rX7_count_123 {R : zP} {x0 x1 : Option zV} {M : zM} {a : Int} : uX7_count R 123 [x0, x1] [.inl a] M ↔ R (some (.inl a)) M := Iff.trans (zU_step dX7_count_123 (Or.inl rfl)) ⟨fun h => h.2.2, fun h => ⟨rfl, Or.inl rfl, h⟩⟩
theorem dX7_count_124 : decode cX7_count 124 = .ok (.aload_n 0, 1) := by decide +kernel
theorem rX7_count_124 {R : zP} {x1 : Option zV} {st : List zV} {M : zM} {a : Nat} : uX7_count R 124 [some (.inr (.inr a)), x1] st M ↔ uX7_count R 125 [some (.inr (.inr a)), x1] (.inr (.inr a) :: st) M := zU_step dX7_count_124 (Or.inl rfl)
theorem dX7_count_125 : decode cX7_count 125 = .ok (.getfield 48, 3) := by decide +kernel
theorem rX7_count_125 {R : zP} {x0 x1 : Option zV} {st : List zV} {M : zM} {r : Nat} : uX7_count R 125 [x0, x1] (.inr (.inr r) :: st) M ↔ zgetx fX7 48 r M (fun v => uX7_count R 128 [x0, x1] (v :: st) M) := zU_step dX7_count_125 (Or.inl rfl)
theorem dX7_count_128 : decode cX7_count 128 = .ok (.ireturn, 1) := by decide +kernel
theorem rX7_count_128 {R : zP} {x0 x1 : Option zV} {M : zM} {a : Int} : uX7_count R 128 [x0, x1] [.inl a] M ↔ R (some (.inl a)) M := Iff.trans (zU_step dX7_count_128 (Or.inl rfl)) ⟨fun h => h.2.2, fun h => ⟨rfl, Or.inl rfl, h⟩⟩
theorem dX7_count_129 : decode cX7_count 129 = .ok (.bipush (-2), 2) := by decide +kernel
theorem rX7_count_129 {R : zP} {x0 x1 : Option zV} {st : List zV} {M : zM} : uX7_count R 129 [x0, x1] st M ↔ uX7_count R 131 [x0, x1] (.inl (-2) :: st) M := Iff.trans (zU_step dX7_count_129 (Or.inl rfl)) ⟨fun h => h.2, fun h => ⟨by decide, h⟩⟩
theorem dX7_count_131 : decode cX7_count 131 = .ok (.ireturn, 1) := by decide +kernel
theorem rX7_count_131 {R : zP} {x0 x1 : Option zV} {M : zM} {a : Int} : uX7_count R 131 [x0, x1] [.inl a] M ↔ R (some (.inl a)) M := Iff.trans (zU_step dX7_count_131 (Or.inl rfl)) ⟨fun h => h.2.2, fun h => ⟨rfl, Or.inl rfl, h⟩⟩
theorem eX7_count {R : zP} {M : zM} {a0 : Nat} {p0 : Int} : tX7_count [.inr (.inr a0), .inl p0] M R ↔ uX7_count R 0 [some (.inr (.inr a0)), some (.inl p0)] [] M := ⟨fun h => h.2, fun h => ⟨show 2 ≤ 2 by decide, h⟩⟩
def uX7_mixMember (R : zP) : zK := zU fX7 vX7_mixMember cX7_mixMember R
theorem dX7_mixMember_0 : decode cX7_mixMember 0 = .ok (.lload_n 1, 1) := by decide +kernel
theorem rX7_mixMember_0 {R : zP} {x0 x2 x3 x4 x5 x6 x7 : Option zV} {st : List zV} {M : zM} {a : Int} : uX7_mixMember R 0 [x0, some (.inr (.inl a)), x2, x3, x4, x5, x6, x7] st M ↔ uX7_mixMember R 1 [x0, some (.inr (.inl a)), x2, x3, x4, x5, x6, x7] (.inr (.inl a) :: st) M := zU_step dX7_mixMember_0 (Or.inl rfl)
theorem dX7_mixMember_1 : decode cX7_mixMember 1 = .ok (.lstore 4, 2) := by decide +kernel
theorem rX7_mixMember_1 {R : zP} {x0 x1 x2 x3 x4 x5 x6 x7 : Option zV} {st : List zV} {M : zM} {a : Int} : uX7_mixMember R 1 [x0, x1, x2, x3, x4, x5, x6, x7] (.inr (.inl a) :: st) M ↔ uX7_mixMember R 3 [x0, x1, x2, zkeep x3, some (.inr (.inl a)), none, x6, x7] st M := Iff.trans (zU_step dX7_mixMember_1 (Or.inl rfl)) ⟨fun h => h.2, fun h => ⟨show 4 + 1 < 8 by decide, h⟩⟩
theorem dX7_mixMember_3 : decode cX7_mixMember 3 = .ok (.iconst 0, 1) := by decide +kernel
theorem rX7_mixMember_3 {R : zP} {x0 x1 x2 x3 x4 x5 x6 x7 : Option zV} {st : List zV} {M : zM} : uX7_mixMember R 3 [x0, x1, x2, x3, x4, x5, x6, x7] st M ↔ uX7_mixMember R 4 [x0, x1, x2, x3, x4, x5, x6, x7] (.inl (0) :: st) M := zU_step dX7_mixMember_3 (Or.inl rfl)
theorem dX7_mixMember_4 : decode cX7_mixMember 4 = .ok (.istore 6, 2) := by decide +kernel
theorem rX7_mixMember_4 {R : zP} {x0 x1 x2 x3 x4 x5 x6 x7 : Option zV} {st : List zV} {M : zM} {a : Int} : uX7_mixMember R 4 [x0, x1, x2, x3, x4, x5, x6, x7] (.inl a :: st) M ↔ uX7_mixMember R 6 [x0, x1, x2, x3, x4, zkeep x5, some (.inl a), x7] st M := Iff.trans (zU_step dX7_mixMember_4 (Or.inl rfl)) ⟨fun h => h.2, fun h => ⟨show 6 < 8 by decide, h⟩⟩
theorem dX7_mixMember_6 : decode cX7_mixMember 6 = .ok (.iload 6, 2) := by decide +kernel
theorem rX7_mixMember_6 {R : zP} {x0 x1 x2 x3 x4 x5 x7 : Option zV} {st : List zV} {M : zM} {a : Int} : uX7_mixMember R 6 [x0, x1, x2, x3, x4, x5, some (.inl a), x7] st M ↔ uX7_mixMember R 8 [x0, x1, x2, x3, x4, x5, some (.inl a), x7] (.inl a :: st) M := zU_step dX7_mixMember_6 (Or.inl rfl)
theorem dX7_mixMember_8 : decode cX7_mixMember 8 = .ok (.iconst 5, 1) := by decide +kernel
theorem rX7_mixMember_8 {R : zP} {x0 x1 x2 x3 x4 x5 x6 x7 : Option zV} {st : List zV} {M : zM} : uX7_mixMember R 8 [x0, x1, x2, x3, x4, x5, x6, x7] st M ↔ uX7_mixMember R 9 [x0, x1, x2, x3, x4, x5, x6, x7] (.inl (5) :: st) M := zU_step dX7_mixMember_8 (Or.inl rfl)
theorem dX7_mixMember_9 : decode cX7_mixMember 9 = .ok (.if_icmp .ge 26, 3) := by decide +kernel
theorem rX7_mixMember_9 {R : zP} {x0 x1 x2 x3 x4 x5 x6 x7 : Option zV} {st : List zV} {M : zM} {a b : Int} : uX7_mixMember R 9 [x0, x1, x2, x3, x4, x5, x6, x7] (.inl b :: .inl a :: st) M ↔ ((zIR a ∧ zIR b) ∧ (b ≤ a → uX7_mixMember R 35 [x0, x1, x2, x3, x4, x5, x6, x7] st M) ∧ (¬ b ≤ a → uX7_mixMember R 12 [x0, x1, x2, x3, x4, x5, x6, x7] st M)) := Iff.trans (zU_step dX7_mixMember_9 (Or.inl rfl)) ⟨fun h => ⟨⟨h.1.1, h.1.2.1⟩, h.2⟩, fun h => ⟨⟨h.1.1, h.1.2, by decide⟩, h.2⟩⟩
theorem dX7_mixMember_12 : decode cX7_mixMember 12 = .ok (.ldc2_w 322, 3) := by decide +kernel
theorem rX7_mixMember_12 {R : zP} {x0 x1 x2 x3 x4 x5 x6 x7 : Option zV} {st : List zV} {M : zM} : uX7_mixMember R 12 [x0, x1, x2, x3, x4, x5, x6, x7] st M ↔ uX7_mixMember R 15 [x0, x1, x2, x3, x4, x5, x6, x7] (.inr (.inl (31)) :: st) M := zU_step dX7_mixMember_12 (Or.inl rfl)
theorem dX7_mixMember_15 : decode cX7_mixMember 15 = .ok (.lload 4, 2) := by decide +kernel
theorem rX7_mixMember_15 {R : zP} {x0 x1 x2 x3 x5 x6 x7 : Option zV} {st : List zV} {M : zM} {a : Int} : uX7_mixMember R 15 [x0, x1, x2, x3, some (.inr (.inl a)), x5, x6, x7] st M ↔ uX7_mixMember R 17 [x0, x1, x2, x3, some (.inr (.inl a)), x5, x6, x7] (.inr (.inl a) :: st) M := zU_step dX7_mixMember_15 (Or.inl rfl)
theorem dX7_mixMember_17 : decode cX7_mixMember 17 = .ok (.lmul, 1) := by decide +kernel
theorem rX7_mixMember_17 {R : zP} {x0 x1 x2 x3 x4 x5 x6 x7 : Option zV} {st : List zV} {M : zM} {a b : Int} : uX7_mixMember R 17 [x0, x1, x2, x3, x4, x5, x6, x7] (.inr (.inl b) :: .inr (.inl a) :: st) M ↔ uX7_mixMember R 18 [x0, x1, x2, x3, x4, x5, x6, x7] (.inr (.inl (a * b)) :: st) M := zU_step dX7_mixMember_17 (Or.inl rfl)
theorem dX7_mixMember_18 : decode cX7_mixMember 18 = .ok (.aload_n 0, 1) := by decide +kernel
theorem rX7_mixMember_18 {R : zP} {x1 x2 x3 x4 x5 x6 x7 : Option zV} {st : List zV} {M : zM} {a : Nat} : uX7_mixMember R 18 [some (.inr (.inr a)), x1, x2, x3, x4, x5, x6, x7] st M ↔ uX7_mixMember R 19 [some (.inr (.inr a)), x1, x2, x3, x4, x5, x6, x7] (.inr (.inr a) :: st) M := zU_step dX7_mixMember_18 (Or.inl rfl)
theorem dX7_mixMember_19 : decode cX7_mixMember 19 = .ok (.iload_n 3, 1) := by decide +kernel
theorem rX7_mixMember_19 {R : zP} {x0 x1 x2 x4 x5 x6 x7 : Option zV} {st : List zV} {M : zM} {a : Int} : uX7_mixMember R 19 [x0, x1, x2, some (.inl a), x4, x5, x6, x7] st M ↔ uX7_mixMember R 20 [x0, x1, x2, some (.inl a), x4, x5, x6, x7] (.inl a :: st) M := zU_step dX7_mixMember_19 (Or.inl rfl)
theorem dX7_mixMember_20 : decode cX7_mixMember 20 = .ok (.iload 6, 2) := by decide +kernel
theorem rX7_mixMember_20 {R : zP} {x0 x1 x2 x3 x4 x5 x7 : Option zV} {st : List zV} {M : zM} {a : Int} : uX7_mixMember R 20 [x0, x1, x2, x3, x4, x5, some (.inl a), x7] st M ↔ uX7_mixMember R 22 [x0, x1, x2, x3, x4, x5, some (.inl a), x7] (.inl a :: st) M := zU_step dX7_mixMember_20 (Or.inl rfl)
theorem dX7_mixMember_22 : decode cX7_mixMember 22 = .ok (.invokevirtual 407, 3) := by decide +kernel
theorem rX7_mixMember_22 {R : zP} {x0 x1 x2 x3 x4 x5 x6 x7 : Option zV} {st : List zV} {M : zM} {a0 a1 a2 : zV} : uX7_mixMember R 22 [x0, x1, x2, x3, x4, x5, x6, x7] (a2 :: a1 :: a0 :: st) M ↔ (st.length ≤ 4 ∧ zcv (zv 7 tX7_member) [a0, a1, a2] M (fun v M => uX7_mixMember R 25 [x0, x1, x2, x3, x4, x5, x6, x7] (v :: st) M)) := Iff.trans (zU_step dX7_mixMember_22 (Or.inl rfl)) ⟨fun h => ⟨h.2.1, zcv_of h.2.2⟩, fun h => ⟨rfl, h.1, zcv_to h.2⟩⟩
theorem dX7_mixMember_25 : decode cX7_mixMember 25 = .ok (.i2l, 1) := by decide +kernel
theorem rX7_mixMember_25 {R : zP} {x0 x1 x2 x3 x4 x5 x6 x7 : Option zV} {st : List zV} {M : zM} {a : Int} : uX7_mixMember R 25 [x0, x1, x2, x3, x4, x5, x6, x7] (.inl a :: st) M ↔ (zIR a ∧ uX7_mixMember R 26 [x0, x1, x2, x3, x4, x5, x6, x7] (.inr (.inl a) :: st) M) := zU_step dX7_mixMember_25 (Or.inl rfl)
theorem dX7_mixMember_26 : decode cX7_mixMember 26 = .ok (.ladd, 1) := by decide +kernel
theorem rX7_mixMember_26 {R : zP} {x0 x1 x2 x3 x4 x5 x6 x7 : Option zV} {st : List zV} {M : zM} {a b : Int} : uX7_mixMember R 26 [x0, x1, x2, x3, x4, x5, x6, x7] (.inr (.inl b) :: .inr (.inl a) :: st) M ↔ uX7_mixMember R 27 [x0, x1, x2, x3, x4, x5, x6, x7] (.inr (.inl (a + b)) :: st) M := zU_step dX7_mixMember_26 (Or.inl rfl)
theorem dX7_mixMember_27 : decode cX7_mixMember 27 = .ok (.lstore 4, 2) := by decide +kernel
theorem rX7_mixMember_27 {R : zP} {x0 x1 x2 x3 x4 x5 x6 x7 : Option zV} {st : List zV} {M : zM} {a : Int} : uX7_mixMember R 27 [x0, x1, x2, x3, x4, x5, x6, x7] (.inr (.inl a) :: st) M ↔ uX7_mixMember R 29 [x0, x1, x2, zkeep x3, some (.inr (.inl a)), none, x6, x7] st M := Iff.trans (zU_step dX7_mixMember_27 (Or.inl rfl)) ⟨fun h => h.2, fun h => ⟨show 4 + 1 < 8 by decide, h⟩⟩
theorem dX7_mixMember_29 : decode cX7_mixMember 29 = .ok (.iinc 6 1, 3) := by decide +kernel
theorem rX7_mixMember_29 {R : zP} {x0 x1 x2 x3 x4 x5 x7 : Option zV} {st : List zV} {M : zM} {a : Int} : uX7_mixMember R 29 [x0, x1, x2, x3, x4, x5, some (.inl a), x7] st M ↔ uX7_mixMember R 32 [x0, x1, x2, x3, x4, zkeep x5, some (.inl (a + (1))), x7] st M := Iff.trans (zU_step dX7_mixMember_29 (Or.inl rfl)) ⟨fun h => h.2, fun h => ⟨show 6 < 8 by decide, h⟩⟩
theorem dX7_mixMember_32 : decode cX7_mixMember 32 = .ok (.goto (-26), 3) := by decide +kernel
theorem rX7_mixMember_32 {R : zP} {x0 x1 x2 x3 x4 x5 x6 x7 : Option zV} {st : List zV} {M : zM} : uX7_mixMember R 32 [x0, x1, x2, x3, x4, x5, x6, x7] st M ↔ uX7_mixMember R 6 [x0, x1, x2, x3, x4, x5, x6, x7] st M := Iff.trans (zU_step dX7_mixMember_32 (Or.inl rfl)) ⟨fun h => h.2, fun h => ⟨by decide, h⟩⟩
theorem dX7_mixMember_35 : decode cX7_mixMember 35 = .ok (.iconst 0, 1) := by decide +kernel
theorem rX7_mixMember_35 {R : zP} {x0 x1 x2 x3 x4 x5 x6 x7 : Option zV} {st : List zV} {M : zM} : uX7_mixMember R 35 [x0, x1, x2, x3, x4, x5, x6, x7] st M ↔ uX7_mixMember R 36 [x0, x1, x2, x3, x4, x5, x6, x7] (.inl (0) :: st) M := zU_step dX7_mixMember_35 (Or.inl rfl)
theorem dX7_mixMember_36 : decode cX7_mixMember 36 = .ok (.istore 6, 2) := by decide +kernel
theorem rX7_mixMember_36 {R : zP} {x0 x1 x2 x3 x4 x5 x6 x7 : Option zV} {st : List zV} {M : zM} {a : Int} : uX7_mixMember R 36 [x0, x1, x2, x3, x4, x5, x6, x7] (.inl a :: st) M ↔ uX7_mixMember R 38 [x0, x1, x2, x3, x4, zkeep x5, some (.inl a), x7] st M := Iff.trans (zU_step dX7_mixMember_36 (Or.inl rfl)) ⟨fun h => h.2, fun h => ⟨show 6 < 8 by decide, h⟩⟩
theorem dX7_mixMember_38 : decode cX7_mixMember 38 = .ok (.iload 6, 2) := by decide +kernel
theorem rX7_mixMember_38 {R : zP} {x0 x1 x2 x3 x4 x5 x7 : Option zV} {st : List zV} {M : zM} {a : Int} : uX7_mixMember R 38 [x0, x1, x2, x3, x4, x5, some (.inl a), x7] st M ↔ uX7_mixMember R 40 [x0, x1, x2, x3, x4, x5, some (.inl a), x7] (.inl a :: st) M := zU_step dX7_mixMember_38 (Or.inl rfl)
theorem dX7_mixMember_40 : decode cX7_mixMember 40 = .ok (.bipush 9, 2) := by decide +kernel
theorem rX7_mixMember_40 {R : zP} {x0 x1 x2 x3 x4 x5 x6 x7 : Option zV} {st : List zV} {M : zM} : uX7_mixMember R 40 [x0, x1, x2, x3, x4, x5, x6, x7] st M ↔ uX7_mixMember R 42 [x0, x1, x2, x3, x4, x5, x6, x7] (.inl (9) :: st) M := Iff.trans (zU_step dX7_mixMember_40 (Or.inl rfl)) ⟨fun h => h.2, fun h => ⟨by decide, h⟩⟩
theorem dX7_mixMember_42 : decode cX7_mixMember 42 = .ok (.if_icmp .ge 56, 3) := by decide +kernel
theorem rX7_mixMember_42 {R : zP} {x0 x1 x2 x3 x4 x5 x6 x7 : Option zV} {st : List zV} {M : zM} {a b : Int} : uX7_mixMember R 42 [x0, x1, x2, x3, x4, x5, x6, x7] (.inl b :: .inl a :: st) M ↔ ((zIR a ∧ zIR b) ∧ (b ≤ a → uX7_mixMember R 98 [x0, x1, x2, x3, x4, x5, x6, x7] st M) ∧ (¬ b ≤ a → uX7_mixMember R 45 [x0, x1, x2, x3, x4, x5, x6, x7] st M)) := Iff.trans (zU_step dX7_mixMember_42 (Or.inl rfl)) ⟨fun h => ⟨⟨h.1.1, h.1.2.1⟩, h.2⟩, fun h => ⟨⟨h.1.1, h.1.2, by decide⟩, h.2⟩⟩
theorem dX7_mixMember_45 : decode cX7_mixMember 45 = .ok (.iload 6, 2) := by decide +kernel
theorem rX7_mixMember_45 {R : zP} {x0 x1 x2 x3 x4 x5 x7 : Option zV} {st : List zV} {M : zM} {a : Int} : uX7_mixMember R 45 [x0, x1, x2, x3, x4, x5, some (.inl a), x7] st M ↔ uX7_mixMember R 47 [x0, x1, x2, x3, x4, x5, some (.inl a), x7] (.inl a :: st) M := zU_step dX7_mixMember_45 (Or.inl rfl)
theorem dX7_mixMember_47 : decode cX7_mixMember 47 = .ok (.iconst 3, 1) := by decide +kernel
theorem rX7_mixMember_47 {R : zP} {x0 x1 x2 x3 x4 x5 x6 x7 : Option zV} {st : List zV} {M : zM} : uX7_mixMember R 47 [x0, x1, x2, x3, x4, x5, x6, x7] st M ↔ uX7_mixMember R 48 [x0, x1, x2, x3, x4, x5, x6, x7] (.inl (3) :: st) M := zU_step dX7_mixMember_47 (Or.inl rfl)
theorem dX7_mixMember_48 : decode cX7_mixMember 48 = .ok (.if_icmp .ge 7, 3) := by decide +kernel
theorem rX7_mixMember_48 {R : zP} {x0 x1 x2 x3 x4 x5 x6 x7 : Option zV} {st : List zV} {M : zM} {a b : Int} : uX7_mixMember R 48 [x0, x1, x2, x3, x4, x5, x6, x7] (.inl b :: .inl a :: st) M ↔ ((zIR a ∧ zIR b) ∧ (b ≤ a → uX7_mixMember R 55 [x0, x1, x2, x3, x4, x5, x6, x7] st M) ∧ (¬ b ≤ a → uX7_mixMember R 51 [x0, x1, x2, x3, x4, x5, x6, x7] st M)) := Iff.trans (zU_step dX7_mixMember_48 (Or.inl rfl)) ⟨fun h => ⟨⟨h.1.1, h.1.2.1⟩, h.2⟩, fun h => ⟨⟨h.1.1, h.1.2, by decide⟩, h.2⟩⟩
theorem dX7_mixMember_51 : decode cX7_mixMember 51 = .ok (.iconst 0, 1) := by decide +kernel
theorem rX7_mixMember_51 {R : zP} {x0 x1 x2 x3 x4 x5 x6 x7 : Option zV} {st : List zV} {M : zM} : uX7_mixMember R 51 [x0, x1, x2, x3, x4, x5, x6, x7] st M ↔ uX7_mixMember R 52 [x0, x1, x2, x3, x4, x5, x6, x7] (.inl (0) :: st) M := zU_step dX7_mixMember_51 (Or.inl rfl)
theorem dX7_mixMember_52 : decode cX7_mixMember 52 = .ok (.goto 17, 3) := by decide +kernel
theorem rX7_mixMember_52 {R : zP} {x0 x1 x2 x3 x4 x5 x6 x7 : Option zV} {st : List zV} {M : zM} : uX7_mixMember R 52 [x0, x1, x2, x3, x4, x5, x6, x7] st M ↔ uX7_mixMember R 69 [x0, x1, x2, x3, x4, x5, x6, x7] st M := Iff.trans (zU_step dX7_mixMember_52 (Or.inl rfl)) ⟨fun h => h.2, fun h => ⟨by decide, h⟩⟩
theorem dX7_mixMember_55 : decode cX7_mixMember 55 = .ok (.iload 6, 2) := by decide +kernel
theorem rX7_mixMember_55 {R : zP} {x0 x1 x2 x3 x4 x5 x7 : Option zV} {st : List zV} {M : zM} {a : Int} : uX7_mixMember R 55 [x0, x1, x2, x3, x4, x5, some (.inl a), x7] st M ↔ uX7_mixMember R 57 [x0, x1, x2, x3, x4, x5, some (.inl a), x7] (.inl a :: st) M := zU_step dX7_mixMember_55 (Or.inl rfl)
theorem dX7_mixMember_57 : decode cX7_mixMember 57 = .ok (.bipush 6, 2) := by decide +kernel
theorem rX7_mixMember_57 {R : zP} {x0 x1 x2 x3 x4 x5 x6 x7 : Option zV} {st : List zV} {M : zM} : uX7_mixMember R 57 [x0, x1, x2, x3, x4, x5, x6, x7] st M ↔ uX7_mixMember R 59 [x0, x1, x2, x3, x4, x5, x6, x7] (.inl (6) :: st) M := Iff.trans (zU_step dX7_mixMember_57 (Or.inl rfl)) ⟨fun h => h.2, fun h => ⟨by decide, h⟩⟩
theorem dX7_mixMember_59 : decode cX7_mixMember 59 = .ok (.if_icmp .ge 8, 3) := by decide +kernel
theorem rX7_mixMember_59 {R : zP} {x0 x1 x2 x3 x4 x5 x6 x7 : Option zV} {st : List zV} {M : zM} {a b : Int} : uX7_mixMember R 59 [x0, x1, x2, x3, x4, x5, x6, x7] (.inl b :: .inl a :: st) M ↔ ((zIR a ∧ zIR b) ∧ (b ≤ a → uX7_mixMember R 67 [x0, x1, x2, x3, x4, x5, x6, x7] st M) ∧ (¬ b ≤ a → uX7_mixMember R 62 [x0, x1, x2, x3, x4, x5, x6, x7] st M)) := Iff.trans (zU_step dX7_mixMember_59 (Or.inl rfl)) ⟨fun h => ⟨⟨h.1.1, h.1.2.1⟩, h.2⟩, fun h => ⟨⟨h.1.1, h.1.2, by decide⟩, h.2⟩⟩
theorem dX7_mixMember_62 : decode cX7_mixMember 62 = .ok (.bipush 6, 2) := by decide +kernel
theorem rX7_mixMember_62 {R : zP} {x0 x1 x2 x3 x4 x5 x6 x7 : Option zV} {st : List zV} {M : zM} : uX7_mixMember R 62 [x0, x1, x2, x3, x4, x5, x6, x7] st M ↔ uX7_mixMember R 64 [x0, x1, x2, x3, x4, x5, x6, x7] (.inl (6) :: st) M := Iff.trans (zU_step dX7_mixMember_62 (Or.inl rfl)) ⟨fun h => h.2, fun h => ⟨by decide, h⟩⟩
theorem dX7_mixMember_64 : decode cX7_mixMember 64 = .ok (.goto 5, 3) := by decide +kernel
theorem rX7_mixMember_64 {R : zP} {x0 x1 x2 x3 x4 x5 x6 x7 : Option zV} {st : List zV} {M : zM} : uX7_mixMember R 64 [x0, x1, x2, x3, x4, x5, x6, x7] st M ↔ uX7_mixMember R 69 [x0, x1, x2, x3, x4, x5, x6, x7] st M := Iff.trans (zU_step dX7_mixMember_64 (Or.inl rfl)) ⟨fun h => h.2, fun h => ⟨by decide, h⟩⟩
theorem dX7_mixMember_67 : decode cX7_mixMember 67 = .ok (.bipush 19, 2) := by decide +kernel
theorem rX7_mixMember_67 {R : zP} {x0 x1 x2 x3 x4 x5 x6 x7 : Option zV} {st : List zV} {M : zM} : uX7_mixMember R 67 [x0, x1, x2, x3, x4, x5, x6, x7] st M ↔ uX7_mixMember R 69 [x0, x1, x2, x3, x4, x5, x6, x7] (.inl (19) :: st) M := Iff.trans (zU_step dX7_mixMember_67 (Or.inl rfl)) ⟨fun h => h.2, fun h => ⟨by decide, h⟩⟩
theorem dX7_mixMember_69 : decode cX7_mixMember 69 = .ok (.istore 7, 2) := by decide +kernel
theorem rX7_mixMember_69 {R : zP} {x0 x1 x2 x3 x4 x5 x6 x7 : Option zV} {st : List zV} {M : zM} {a : Int} : uX7_mixMember R 69 [x0, x1, x2, x3, x4, x5, x6, x7] (.inl a :: st) M ↔ uX7_mixMember R 71 [x0, x1, x2, x3, x4, x5, zkeep x6, some (.inl a)] st M := Iff.trans (zU_step dX7_mixMember_69 (Or.inl rfl)) ⟨fun h => h.2, fun h => ⟨show 7 < 8 by decide, h⟩⟩
theorem dX7_mixMember_71 : decode cX7_mixMember 71 = .ok (.ldc2_w 322, 3) := by decide +kernel
theorem rX7_mixMember_71 {R : zP} {x0 x1 x2 x3 x4 x5 x6 x7 : Option zV} {st : List zV} {M : zM} : uX7_mixMember R 71 [x0, x1, x2, x3, x4, x5, x6, x7] st M ↔ uX7_mixMember R 74 [x0, x1, x2, x3, x4, x5, x6, x7] (.inr (.inl (31)) :: st) M := zU_step dX7_mixMember_71 (Or.inl rfl)
theorem dX7_mixMember_74 : decode cX7_mixMember 74 = .ok (.lload 4, 2) := by decide +kernel
theorem rX7_mixMember_74 {R : zP} {x0 x1 x2 x3 x5 x6 x7 : Option zV} {st : List zV} {M : zM} {a : Int} : uX7_mixMember R 74 [x0, x1, x2, x3, some (.inr (.inl a)), x5, x6, x7] st M ↔ uX7_mixMember R 76 [x0, x1, x2, x3, some (.inr (.inl a)), x5, x6, x7] (.inr (.inl a) :: st) M := zU_step dX7_mixMember_74 (Or.inl rfl)
theorem dX7_mixMember_76 : decode cX7_mixMember 76 = .ok (.lmul, 1) := by decide +kernel
theorem rX7_mixMember_76 {R : zP} {x0 x1 x2 x3 x4 x5 x6 x7 : Option zV} {st : List zV} {M : zM} {a b : Int} : uX7_mixMember R 76 [x0, x1, x2, x3, x4, x5, x6, x7] (.inr (.inl b) :: .inr (.inl a) :: st) M ↔ uX7_mixMember R 77 [x0, x1, x2, x3, x4, x5, x6, x7] (.inr (.inl (a * b)) :: st) M := zU_step dX7_mixMember_76 (Or.inl rfl)
theorem dX7_mixMember_77 : decode cX7_mixMember 77 = .ok (.aload_n 0, 1) := by decide +kernel
theorem rX7_mixMember_77 {R : zP} {x1 x2 x3 x4 x5 x6 x7 : Option zV} {st : List zV} {M : zM} {a : Nat} : uX7_mixMember R 77 [some (.inr (.inr a)), x1, x2, x3, x4, x5, x6, x7] st M ↔ uX7_mixMember R 78 [some (.inr (.inr a)), x1, x2, x3, x4, x5, x6, x7] (.inr (.inr a) :: st) M := zU_step dX7_mixMember_77 (Or.inl rfl)
theorem dX7_mixMember_78 : decode cX7_mixMember 78 = .ok (.iload 7, 2) := by decide +kernel
theorem rX7_mixMember_78 {R : zP} {x0 x1 x2 x3 x4 x5 x6 : Option zV} {st : List zV} {M : zM} {a : Int} : uX7_mixMember R 78 [x0, x1, x2, x3, x4, x5, x6, some (.inl a)] st M ↔ uX7_mixMember R 80 [x0, x1, x2, x3, x4, x5, x6, some (.inl a)] (.inl a :: st) M := zU_step dX7_mixMember_78 (Or.inl rfl)
theorem dX7_mixMember_80 : decode cX7_mixMember 80 = .ok (.iload_n 3, 1) := by decide +kernel
theorem rX7_mixMember_80 {R : zP} {x0 x1 x2 x4 x5 x6 x7 : Option zV} {st : List zV} {M : zM} {a : Int} : uX7_mixMember R 80 [x0, x1, x2, some (.inl a), x4, x5, x6, x7] st M ↔ uX7_mixMember R 81 [x0, x1, x2, some (.inl a), x4, x5, x6, x7] (.inl a :: st) M := zU_step dX7_mixMember_80 (Or.inl rfl)
theorem dX7_mixMember_81 : decode cX7_mixMember 81 = .ok (.iload 6, 2) := by decide +kernel
theorem rX7_mixMember_81 {R : zP} {x0 x1 x2 x3 x4 x5 x7 : Option zV} {st : List zV} {M : zM} {a : Int} : uX7_mixMember R 81 [x0, x1, x2, x3, x4, x5, some (.inl a), x7] st M ↔ uX7_mixMember R 83 [x0, x1, x2, x3, x4, x5, some (.inl a), x7] (.inl a :: st) M := zU_step dX7_mixMember_81 (Or.inl rfl)
theorem dX7_mixMember_83 : decode cX7_mixMember 83 = .ok (.iconst 3, 1) := by decide +kernel
theorem rX7_mixMember_83 {R : zP} {x0 x1 x2 x3 x4 x5 x6 x7 : Option zV} {st : List zV} {M : zM} : uX7_mixMember R 83 [x0, x1, x2, x3, x4, x5, x6, x7] st M ↔ uX7_mixMember R 84 [x0, x1, x2, x3, x4, x5, x6, x7] (.inl (3) :: st) M := zU_step dX7_mixMember_83 (Or.inl rfl)
theorem dX7_mixMember_84 : decode cX7_mixMember 84 = .ok (.irem, 1) := by decide +kernel
theorem rX7_mixMember_84 {R : zP} {x0 x1 x2 x3 x4 x5 x6 x7 : Option zV} {st : List zV} {M : zM} {a b : Int} : uX7_mixMember R 84 [x0, x1, x2, x3, x4, x5, x6, x7] (.inl b :: .inl a :: st) M ↔ ((zIR a ∧ zIR b ∧ b ≠ 0) ∧ uX7_mixMember R 85 [x0, x1, x2, x3, x4, x5, x6, x7] (.inl (a.tmod b) :: st) M) := zU_step dX7_mixMember_84 (Or.inl rfl)
theorem dX7_mixMember_85 : decode cX7_mixMember 85 = .ok (.invokevirtual 410, 3) := by decide +kernel
theorem rX7_mixMember_85 {R : zP} {x0 x1 x2 x3 x4 x5 x6 x7 : Option zV} {st : List zV} {M : zM} {a0 a1 a2 a3 : zV} : uX7_mixMember R 85 [x0, x1, x2, x3, x4, x5, x6, x7] (a3 :: a2 :: a1 :: a0 :: st) M ↔ (st.length ≤ 4 ∧ zcv (zv 7 tX7_able) [a0, a1, a2, a3] M (fun v M => uX7_mixMember R 88 [x0, x1, x2, x3, x4, x5, x6, x7] (v :: st) M)) := Iff.trans (zU_step dX7_mixMember_85 (Or.inl rfl)) ⟨fun h => ⟨h.2.1, zcv_of h.2.2⟩, fun h => ⟨rfl, h.1, zcv_to h.2⟩⟩
theorem dX7_mixMember_88 : decode cX7_mixMember 88 = .ok (.i2l, 1) := by decide +kernel
theorem rX7_mixMember_88 {R : zP} {x0 x1 x2 x3 x4 x5 x6 x7 : Option zV} {st : List zV} {M : zM} {a : Int} : uX7_mixMember R 88 [x0, x1, x2, x3, x4, x5, x6, x7] (.inl a :: st) M ↔ (zIR a ∧ uX7_mixMember R 89 [x0, x1, x2, x3, x4, x5, x6, x7] (.inr (.inl a) :: st) M) := zU_step dX7_mixMember_88 (Or.inl rfl)
theorem dX7_mixMember_89 : decode cX7_mixMember 89 = .ok (.ladd, 1) := by decide +kernel
theorem rX7_mixMember_89 {R : zP} {x0 x1 x2 x3 x4 x5 x6 x7 : Option zV} {st : List zV} {M : zM} {a b : Int} : uX7_mixMember R 89 [x0, x1, x2, x3, x4, x5, x6, x7] (.inr (.inl b) :: .inr (.inl a) :: st) M ↔ uX7_mixMember R 90 [x0, x1, x2, x3, x4, x5, x6, x7] (.inr (.inl (a + b)) :: st) M := zU_step dX7_mixMember_89 (Or.inl rfl)
theorem dX7_mixMember_90 : decode cX7_mixMember 90 = .ok (.lstore 4, 2) := by decide +kernel
theorem rX7_mixMember_90 {R : zP} {x0 x1 x2 x3 x4 x5 x6 x7 : Option zV} {st : List zV} {M : zM} {a : Int} : uX7_mixMember R 90 [x0, x1, x2, x3, x4, x5, x6, x7] (.inr (.inl a) :: st) M ↔ uX7_mixMember R 92 [x0, x1, x2, zkeep x3, some (.inr (.inl a)), none, x6, x7] st M := Iff.trans (zU_step dX7_mixMember_90 (Or.inl rfl)) ⟨fun h => h.2, fun h => ⟨show 4 + 1 < 8 by decide, h⟩⟩
theorem dX7_mixMember_92 : decode cX7_mixMember 92 = .ok (.iinc 6 1, 3) := by decide +kernel
theorem rX7_mixMember_92 {R : zP} {x0 x1 x2 x3 x4 x5 x7 : Option zV} {st : List zV} {M : zM} {a : Int} : uX7_mixMember R 92 [x0, x1, x2, x3, x4, x5, some (.inl a), x7] st M ↔ uX7_mixMember R 95 [x0, x1, x2, x3, x4, zkeep x5, some (.inl (a + (1))), x7] st M := Iff.trans (zU_step dX7_mixMember_92 (Or.inl rfl)) ⟨fun h => h.2, fun h => ⟨show 6 < 8 by decide, h⟩⟩
theorem dX7_mixMember_95 : decode cX7_mixMember 95 = .ok (.goto (-57), 3) := by decide +kernel
theorem rX7_mixMember_95 {R : zP} {x0 x1 x2 x3 x4 x5 x6 x7 : Option zV} {st : List zV} {M : zM} : uX7_mixMember R 95 [x0, x1, x2, x3, x4, x5, x6, x7] st M ↔ uX7_mixMember R 38 [x0, x1, x2, x3, x4, x5, x6, x7] st M := Iff.trans (zU_step dX7_mixMember_95 (Or.inl rfl)) ⟨fun h => h.2, fun h => ⟨by decide, h⟩⟩
theorem dX7_mixMember_98 : decode cX7_mixMember 98 = .ok (.iconst 0, 1) := by decide +kernel
theorem rX7_mixMember_98 {R : zP} {x0 x1 x2 x3 x4 x5 x6 x7 : Option zV} {st : List zV} {M : zM} : uX7_mixMember R 98 [x0, x1, x2, x3, x4, x5, x6, x7] st M ↔ uX7_mixMember R 99 [x0, x1, x2, x3, x4, x5, x6, x7] (.inl (0) :: st) M := zU_step dX7_mixMember_98 (Or.inl rfl)
theorem dX7_mixMember_99 : decode cX7_mixMember 99 = .ok (.istore 6, 2) := by decide +kernel
theorem rX7_mixMember_99 {R : zP} {x0 x1 x2 x3 x4 x5 x6 x7 : Option zV} {st : List zV} {M : zM} {a : Int} : uX7_mixMember R 99 [x0, x1, x2, x3, x4, x5, x6, x7] (.inl a :: st) M ↔ uX7_mixMember R 101 [x0, x1, x2, x3, x4, zkeep x5, some (.inl a), x7] st M := Iff.trans (zU_step dX7_mixMember_99 (Or.inl rfl)) ⟨fun h => h.2, fun h => ⟨show 6 < 8 by decide, h⟩⟩
theorem dX7_mixMember_101 : decode cX7_mixMember 101 = .ok (.iload 6, 2) := by decide +kernel
theorem rX7_mixMember_101 {R : zP} {x0 x1 x2 x3 x4 x5 x7 : Option zV} {st : List zV} {M : zM} {a : Int} : uX7_mixMember R 101 [x0, x1, x2, x3, x4, x5, some (.inl a), x7] st M ↔ uX7_mixMember R 103 [x0, x1, x2, x3, x4, x5, some (.inl a), x7] (.inl a :: st) M := zU_step dX7_mixMember_101 (Or.inl rfl)
theorem dX7_mixMember_103 : decode cX7_mixMember 103 = .ok (.iconst 4, 1) := by decide +kernel
theorem rX7_mixMember_103 {R : zP} {x0 x1 x2 x3 x4 x5 x6 x7 : Option zV} {st : List zV} {M : zM} : uX7_mixMember R 103 [x0, x1, x2, x3, x4, x5, x6, x7] st M ↔ uX7_mixMember R 104 [x0, x1, x2, x3, x4, x5, x6, x7] (.inl (4) :: st) M := zU_step dX7_mixMember_103 (Or.inl rfl)
theorem dX7_mixMember_104 : decode cX7_mixMember 104 = .ok (.if_icmp .ge 189, 3) := by decide +kernel
theorem rX7_mixMember_104 {R : zP} {x0 x1 x2 x3 x4 x5 x6 x7 : Option zV} {st : List zV} {M : zM} {a b : Int} : uX7_mixMember R 104 [x0, x1, x2, x3, x4, x5, x6, x7] (.inl b :: .inl a :: st) M ↔ ((zIR a ∧ zIR b) ∧ (b ≤ a → uX7_mixMember R 293 [x0, x1, x2, x3, x4, x5, x6, x7] st M) ∧ (¬ b ≤ a → uX7_mixMember R 107 [x0, x1, x2, x3, x4, x5, x6, x7] st M)) := Iff.trans (zU_step dX7_mixMember_104 (Or.inl rfl)) ⟨fun h => ⟨⟨h.1.1, h.1.2.1⟩, h.2⟩, fun h => ⟨⟨h.1.1, h.1.2, by decide⟩, h.2⟩⟩
theorem dX7_mixMember_107 : decode cX7_mixMember 107 = .ok (.iconst 0, 1) := by decide +kernel
theorem rX7_mixMember_107 {R : zP} {x0 x1 x2 x3 x4 x5 x6 x7 : Option zV} {st : List zV} {M : zM} : uX7_mixMember R 107 [x0, x1, x2, x3, x4, x5, x6, x7] st M ↔ uX7_mixMember R 108 [x0, x1, x2, x3, x4, x5, x6, x7] (.inl (0) :: st) M := zU_step dX7_mixMember_107 (Or.inl rfl)
theorem dX7_mixMember_108 : decode cX7_mixMember 108 = .ok (.istore 7, 2) := by decide +kernel
theorem rX7_mixMember_108 {R : zP} {x0 x1 x2 x3 x4 x5 x6 x7 : Option zV} {st : List zV} {M : zM} {a : Int} : uX7_mixMember R 108 [x0, x1, x2, x3, x4, x5, x6, x7] (.inl a :: st) M ↔ uX7_mixMember R 110 [x0, x1, x2, x3, x4, x5, zkeep x6, some (.inl a)] st M := Iff.trans (zU_step dX7_mixMember_108 (Or.inl rfl)) ⟨fun h => h.2, fun h => ⟨show 7 < 8 by decide, h⟩⟩
theorem dX7_mixMember_110 : decode cX7_mixMember 110 = .ok (.iload 7, 2) := by decide +kernel
theorem rX7_mixMember_110 {R : zP} {x0 x1 x2 x3 x4 x5 x6 : Option zV} {st : List zV} {M : zM} {a : Int} : uX7_mixMember R 110 [x0, x1, x2, x3, x4, x5, x6, some (.inl a)] st M ↔ uX7_mixMember R 112 [x0, x1, x2, x3, x4, x5, x6, some (.inl a)] (.inl a :: st) M := zU_step dX7_mixMember_110 (Or.inl rfl)
theorem dX7_mixMember_112 : decode cX7_mixMember 112 = .ok (.iconst 4, 1) := by decide +kernel
theorem rX7_mixMember_112 {R : zP} {x0 x1 x2 x3 x4 x5 x6 x7 : Option zV} {st : List zV} {M : zM} : uX7_mixMember R 112 [x0, x1, x2, x3, x4, x5, x6, x7] st M ↔ uX7_mixMember R 113 [x0, x1, x2, x3, x4, x5, x6, x7] (.inl (4) :: st) M := zU_step dX7_mixMember_112 (Or.inl rfl)
theorem dX7_mixMember_113 : decode cX7_mixMember 113 = .ok (.if_icmp .ge 30, 3) := by decide +kernel
theorem rX7_mixMember_113 {R : zP} {x0 x1 x2 x3 x4 x5 x6 x7 : Option zV} {st : List zV} {M : zM} {a b : Int} : uX7_mixMember R 113 [x0, x1, x2, x3, x4, x5, x6, x7] (.inl b :: .inl a :: st) M ↔ ((zIR a ∧ zIR b) ∧ (b ≤ a → uX7_mixMember R 143 [x0, x1, x2, x3, x4, x5, x6, x7] st M) ∧ (¬ b ≤ a → uX7_mixMember R 116 [x0, x1, x2, x3, x4, x5, x6, x7] st M)) := Iff.trans (zU_step dX7_mixMember_113 (Or.inl rfl)) ⟨fun h => ⟨⟨h.1.1, h.1.2.1⟩, h.2⟩, fun h => ⟨⟨h.1.1, h.1.2, by decide⟩, h.2⟩⟩
theorem dX7_mixMember_116 : decode cX7_mixMember 116 = .ok (.ldc2_w 322, 3) := by decide +kernel
theorem rX7_mixMember_116 {R : zP} {x0 x1 x2 x3 x4 x5 x6 x7 : Option zV} {st : List zV} {M : zM} : uX7_mixMember R 116 [x0, x1, x2, x3, x4, x5, x6, x7] st M ↔ uX7_mixMember R 119 [x0, x1, x2, x3, x4, x5, x6, x7] (.inr (.inl (31)) :: st) M := zU_step dX7_mixMember_116 (Or.inl rfl)
theorem dX7_mixMember_119 : decode cX7_mixMember 119 = .ok (.lload 4, 2) := by decide +kernel
theorem rX7_mixMember_119 {R : zP} {x0 x1 x2 x3 x5 x6 x7 : Option zV} {st : List zV} {M : zM} {a : Int} : uX7_mixMember R 119 [x0, x1, x2, x3, some (.inr (.inl a)), x5, x6, x7] st M ↔ uX7_mixMember R 121 [x0, x1, x2, x3, some (.inr (.inl a)), x5, x6, x7] (.inr (.inl a) :: st) M := zU_step dX7_mixMember_119 (Or.inl rfl)
theorem dX7_mixMember_121 : decode cX7_mixMember 121 = .ok (.lmul, 1) := by decide +kernel
theorem rX7_mixMember_121 {R : zP} {x0 x1 x2 x3 x4 x5 x6 x7 : Option zV} {st : List zV} {M : zM} {a b : Int} : uX7_mixMember R 121 [x0, x1, x2, x3, x4, x5, x6, x7] (.inr (.inl b) :: .inr (.inl a) :: st) M ↔ uX7_mixMember R 122 [x0, x1, x2, x3, x4, x5, x6, x7] (.inr (.inl (a * b)) :: st) M := zU_step dX7_mixMember_121 (Or.inl rfl)
theorem dX7_mixMember_122 : decode cX7_mixMember 122 = .ok (.aload_n 0, 1) := by decide +kernel
theorem rX7_mixMember_122 {R : zP} {x1 x2 x3 x4 x5 x6 x7 : Option zV} {st : List zV} {M : zM} {a : Nat} : uX7_mixMember R 122 [some (.inr (.inr a)), x1, x2, x3, x4, x5, x6, x7] st M ↔ uX7_mixMember R 123 [some (.inr (.inr a)), x1, x2, x3, x4, x5, x6, x7] (.inr (.inr a) :: st) M := zU_step dX7_mixMember_122 (Or.inl rfl)
theorem dX7_mixMember_123 : decode cX7_mixMember 123 = .ok (.bipush 6, 2) := by decide +kernel
theorem rX7_mixMember_123 {R : zP} {x0 x1 x2 x3 x4 x5 x6 x7 : Option zV} {st : List zV} {M : zM} : uX7_mixMember R 123 [x0, x1, x2, x3, x4, x5, x6, x7] st M ↔ uX7_mixMember R 125 [x0, x1, x2, x3, x4, x5, x6, x7] (.inl (6) :: st) M := Iff.trans (zU_step dX7_mixMember_123 (Or.inl rfl)) ⟨fun h => h.2, fun h => ⟨by decide, h⟩⟩
theorem dX7_mixMember_125 : decode cX7_mixMember 125 = .ok (.iload_n 3, 1) := by decide +kernel
theorem rX7_mixMember_125 {R : zP} {x0 x1 x2 x4 x5 x6 x7 : Option zV} {st : List zV} {M : zM} {a : Int} : uX7_mixMember R 125 [x0, x1, x2, some (.inl a), x4, x5, x6, x7] st M ↔ uX7_mixMember R 126 [x0, x1, x2, some (.inl a), x4, x5, x6, x7] (.inl a :: st) M := zU_step dX7_mixMember_125 (Or.inl rfl)
theorem dX7_mixMember_126 : decode cX7_mixMember 126 = .ok (.iload 6, 2) := by decide +kernel
theorem rX7_mixMember_126 {R : zP} {x0 x1 x2 x3 x4 x5 x7 : Option zV} {st : List zV} {M : zM} {a : Int} : uX7_mixMember R 126 [x0, x1, x2, x3, x4, x5, some (.inl a), x7] st M ↔ uX7_mixMember R 128 [x0, x1, x2, x3, x4, x5, some (.inl a), x7] (.inl a :: st) M := zU_step dX7_mixMember_126 (Or.inl rfl)
theorem dX7_mixMember_128 : decode cX7_mixMember 128 = .ok (.iload 7, 2) := by decide +kernel
theorem rX7_mixMember_128 {R : zP} {x0 x1 x2 x3 x4 x5 x6 : Option zV} {st : List zV} {M : zM} {a : Int} : uX7_mixMember R 128 [x0, x1, x2, x3, x4, x5, x6, some (.inl a)] st M ↔ uX7_mixMember R 130 [x0, x1, x2, x3, x4, x5, x6, some (.inl a)] (.inl a :: st) M := zU_step dX7_mixMember_128 (Or.inl rfl)
theorem dX7_mixMember_130 : decode cX7_mixMember 130 = .ok (.invokevirtual 413, 3) := by decide +kernel
theorem rX7_mixMember_130 {R : zP} {x0 x1 x2 x3 x4 x5 x6 x7 : Option zV} {st : List zV} {M : zM} {a0 a1 a2 a3 a4 : zV} : uX7_mixMember R 130 [x0, x1, x2, x3, x4, x5, x6, x7] (a4 :: a3 :: a2 :: a1 :: a0 :: st) M ↔ (st.length ≤ 4 ∧ zcv (zv 7 tX7_at) [a0, a1, a2, a3, a4] M (fun v M => uX7_mixMember R 133 [x0, x1, x2, x3, x4, x5, x6, x7] (v :: st) M)) := Iff.trans (zU_step dX7_mixMember_130 (Or.inl rfl)) ⟨fun h => ⟨h.2.1, zcv_of h.2.2⟩, fun h => ⟨rfl, h.1, zcv_to h.2⟩⟩
theorem dX7_mixMember_133 : decode cX7_mixMember 133 = .ok (.i2l, 1) := by decide +kernel
theorem rX7_mixMember_133 {R : zP} {x0 x1 x2 x3 x4 x5 x6 x7 : Option zV} {st : List zV} {M : zM} {a : Int} : uX7_mixMember R 133 [x0, x1, x2, x3, x4, x5, x6, x7] (.inl a :: st) M ↔ (zIR a ∧ uX7_mixMember R 134 [x0, x1, x2, x3, x4, x5, x6, x7] (.inr (.inl a) :: st) M) := zU_step dX7_mixMember_133 (Or.inl rfl)
theorem dX7_mixMember_134 : decode cX7_mixMember 134 = .ok (.ladd, 1) := by decide +kernel
theorem rX7_mixMember_134 {R : zP} {x0 x1 x2 x3 x4 x5 x6 x7 : Option zV} {st : List zV} {M : zM} {a b : Int} : uX7_mixMember R 134 [x0, x1, x2, x3, x4, x5, x6, x7] (.inr (.inl b) :: .inr (.inl a) :: st) M ↔ uX7_mixMember R 135 [x0, x1, x2, x3, x4, x5, x6, x7] (.inr (.inl (a + b)) :: st) M := zU_step dX7_mixMember_134 (Or.inl rfl)
theorem dX7_mixMember_135 : decode cX7_mixMember 135 = .ok (.lstore 4, 2) := by decide +kernel
theorem rX7_mixMember_135 {R : zP} {x0 x1 x2 x3 x4 x5 x6 x7 : Option zV} {st : List zV} {M : zM} {a : Int} : uX7_mixMember R 135 [x0, x1, x2, x3, x4, x5, x6, x7] (.inr (.inl a) :: st) M ↔ uX7_mixMember R 137 [x0, x1, x2, zkeep x3, some (.inr (.inl a)), none, x6, x7] st M := Iff.trans (zU_step dX7_mixMember_135 (Or.inl rfl)) ⟨fun h => h.2, fun h => ⟨show 4 + 1 < 8 by decide, h⟩⟩
theorem dX7_mixMember_137 : decode cX7_mixMember 137 = .ok (.iinc 7 1, 3) := by decide +kernel
theorem rX7_mixMember_137 {R : zP} {x0 x1 x2 x3 x4 x5 x6 : Option zV} {st : List zV} {M : zM} {a : Int} : uX7_mixMember R 137 [x0, x1, x2, x3, x4, x5, x6, some (.inl a)] st M ↔ uX7_mixMember R 140 [x0, x1, x2, x3, x4, x5, zkeep x6, some (.inl (a + (1)))] st M := Iff.trans (zU_step dX7_mixMember_137 (Or.inl rfl)) ⟨fun h => h.2, fun h => ⟨show 7 < 8 by decide, h⟩⟩
theorem dX7_mixMember_140 : decode cX7_mixMember 140 = .ok (.goto (-30), 3) := by decide +kernel
theorem rX7_mixMember_140 {R : zP} {x0 x1 x2 x3 x4 x5 x6 x7 : Option zV} {st : List zV} {M : zM} : uX7_mixMember R 140 [x0, x1, x2, x3, x4, x5, x6, x7] st M ↔ uX7_mixMember R 110 [x0, x1, x2, x3, x4, x5, x6, x7] st M := Iff.trans (zU_step dX7_mixMember_140 (Or.inl rfl)) ⟨fun h => h.2, fun h => ⟨by decide, h⟩⟩
theorem dX7_mixMember_143 : decode cX7_mixMember 143 = .ok (.iconst 0, 1) := by decide +kernel
theorem rX7_mixMember_143 {R : zP} {x0 x1 x2 x3 x4 x5 x6 x7 : Option zV} {st : List zV} {M : zM} : uX7_mixMember R 143 [x0, x1, x2, x3, x4, x5, x6, x7] st M ↔ uX7_mixMember R 144 [x0, x1, x2, x3, x4, x5, x6, x7] (.inl (0) :: st) M := zU_step dX7_mixMember_143 (Or.inl rfl)
theorem dX7_mixMember_144 : decode cX7_mixMember 144 = .ok (.istore 7, 2) := by decide +kernel
theorem rX7_mixMember_144 {R : zP} {x0 x1 x2 x3 x4 x5 x6 x7 : Option zV} {st : List zV} {M : zM} {a : Int} : uX7_mixMember R 144 [x0, x1, x2, x3, x4, x5, x6, x7] (.inl a :: st) M ↔ uX7_mixMember R 146 [x0, x1, x2, x3, x4, x5, zkeep x6, some (.inl a)] st M := Iff.trans (zU_step dX7_mixMember_144 (Or.inl rfl)) ⟨fun h => h.2, fun h => ⟨show 7 < 8 by decide, h⟩⟩
theorem dX7_mixMember_146 : decode cX7_mixMember 146 = .ok (.iload 7, 2) := by decide +kernel
theorem rX7_mixMember_146 {R : zP} {x0 x1 x2 x3 x4 x5 x6 : Option zV} {st : List zV} {M : zM} {a : Int} : uX7_mixMember R 146 [x0, x1, x2, x3, x4, x5, x6, some (.inl a)] st M ↔ uX7_mixMember R 148 [x0, x1, x2, x3, x4, x5, x6, some (.inl a)] (.inl a :: st) M := zU_step dX7_mixMember_146 (Or.inl rfl)
theorem dX7_mixMember_148 : decode cX7_mixMember 148 = .ok (.iconst 4, 1) := by decide +kernel
theorem rX7_mixMember_148 {R : zP} {x0 x1 x2 x3 x4 x5 x6 x7 : Option zV} {st : List zV} {M : zM} : uX7_mixMember R 148 [x0, x1, x2, x3, x4, x5, x6, x7] st M ↔ uX7_mixMember R 149 [x0, x1, x2, x3, x4, x5, x6, x7] (.inl (4) :: st) M := zU_step dX7_mixMember_148 (Or.inl rfl)
theorem dX7_mixMember_149 : decode cX7_mixMember 149 = .ok (.if_icmp .ge 30, 3) := by decide +kernel
theorem rX7_mixMember_149 {R : zP} {x0 x1 x2 x3 x4 x5 x6 x7 : Option zV} {st : List zV} {M : zM} {a b : Int} : uX7_mixMember R 149 [x0, x1, x2, x3, x4, x5, x6, x7] (.inl b :: .inl a :: st) M ↔ ((zIR a ∧ zIR b) ∧ (b ≤ a → uX7_mixMember R 179 [x0, x1, x2, x3, x4, x5, x6, x7] st M) ∧ (¬ b ≤ a → uX7_mixMember R 152 [x0, x1, x2, x3, x4, x5, x6, x7] st M)) := Iff.trans (zU_step dX7_mixMember_149 (Or.inl rfl)) ⟨fun h => ⟨⟨h.1.1, h.1.2.1⟩, h.2⟩, fun h => ⟨⟨h.1.1, h.1.2, by decide⟩, h.2⟩⟩
theorem dX7_mixMember_152 : decode cX7_mixMember 152 = .ok (.ldc2_w 322, 3) := by decide +kernel
theorem rX7_mixMember_152 {R : zP} {x0 x1 x2 x3 x4 x5 x6 x7 : Option zV} {st : List zV} {M : zM} : uX7_mixMember R 152 [x0, x1, x2, x3, x4, x5, x6, x7] st M ↔ uX7_mixMember R 155 [x0, x1, x2, x3, x4, x5, x6, x7] (.inr (.inl (31)) :: st) M := zU_step dX7_mixMember_152 (Or.inl rfl)
theorem dX7_mixMember_155 : decode cX7_mixMember 155 = .ok (.lload 4, 2) := by decide +kernel
theorem rX7_mixMember_155 {R : zP} {x0 x1 x2 x3 x5 x6 x7 : Option zV} {st : List zV} {M : zM} {a : Int} : uX7_mixMember R 155 [x0, x1, x2, x3, some (.inr (.inl a)), x5, x6, x7] st M ↔ uX7_mixMember R 157 [x0, x1, x2, x3, some (.inr (.inl a)), x5, x6, x7] (.inr (.inl a) :: st) M := zU_step dX7_mixMember_155 (Or.inl rfl)
theorem dX7_mixMember_157 : decode cX7_mixMember 157 = .ok (.lmul, 1) := by decide +kernel
theorem rX7_mixMember_157 {R : zP} {x0 x1 x2 x3 x4 x5 x6 x7 : Option zV} {st : List zV} {M : zM} {a b : Int} : uX7_mixMember R 157 [x0, x1, x2, x3, x4, x5, x6, x7] (.inr (.inl b) :: .inr (.inl a) :: st) M ↔ uX7_mixMember R 158 [x0, x1, x2, x3, x4, x5, x6, x7] (.inr (.inl (a * b)) :: st) M := zU_step dX7_mixMember_157 (Or.inl rfl)
theorem dX7_mixMember_158 : decode cX7_mixMember 158 = .ok (.aload_n 0, 1) := by decide +kernel
theorem rX7_mixMember_158 {R : zP} {x1 x2 x3 x4 x5 x6 x7 : Option zV} {st : List zV} {M : zM} {a : Nat} : uX7_mixMember R 158 [some (.inr (.inr a)), x1, x2, x3, x4, x5, x6, x7] st M ↔ uX7_mixMember R 159 [some (.inr (.inr a)), x1, x2, x3, x4, x5, x6, x7] (.inr (.inr a) :: st) M := zU_step dX7_mixMember_158 (Or.inl rfl)
theorem dX7_mixMember_159 : decode cX7_mixMember 159 = .ok (.bipush 19, 2) := by decide +kernel
theorem rX7_mixMember_159 {R : zP} {x0 x1 x2 x3 x4 x5 x6 x7 : Option zV} {st : List zV} {M : zM} : uX7_mixMember R 159 [x0, x1, x2, x3, x4, x5, x6, x7] st M ↔ uX7_mixMember R 161 [x0, x1, x2, x3, x4, x5, x6, x7] (.inl (19) :: st) M := Iff.trans (zU_step dX7_mixMember_159 (Or.inl rfl)) ⟨fun h => h.2, fun h => ⟨by decide, h⟩⟩
theorem dX7_mixMember_161 : decode cX7_mixMember 161 = .ok (.iload_n 3, 1) := by decide +kernel
theorem rX7_mixMember_161 {R : zP} {x0 x1 x2 x4 x5 x6 x7 : Option zV} {st : List zV} {M : zM} {a : Int} : uX7_mixMember R 161 [x0, x1, x2, some (.inl a), x4, x5, x6, x7] st M ↔ uX7_mixMember R 162 [x0, x1, x2, some (.inl a), x4, x5, x6, x7] (.inl a :: st) M := zU_step dX7_mixMember_161 (Or.inl rfl)
theorem dX7_mixMember_162 : decode cX7_mixMember 162 = .ok (.iload 6, 2) := by decide +kernel
theorem rX7_mixMember_162 {R : zP} {x0 x1 x2 x3 x4 x5 x7 : Option zV} {st : List zV} {M : zM} {a : Int} : uX7_mixMember R 162 [x0, x1, x2, x3, x4, x5, some (.inl a), x7] st M ↔ uX7_mixMember R 164 [x0, x1, x2, x3, x4, x5, some (.inl a), x7] (.inl a :: st) M := zU_step dX7_mixMember_162 (Or.inl rfl)
theorem dX7_mixMember_164 : decode cX7_mixMember 164 = .ok (.iload 7, 2) := by decide +kernel
theorem rX7_mixMember_164 {R : zP} {x0 x1 x2 x3 x4 x5 x6 : Option zV} {st : List zV} {M : zM} {a : Int} : uX7_mixMember R 164 [x0, x1, x2, x3, x4, x5, x6, some (.inl a)] st M ↔ uX7_mixMember R 166 [x0, x1, x2, x3, x4, x5, x6, some (.inl a)] (.inl a :: st) M := zU_step dX7_mixMember_164 (Or.inl rfl)
theorem dX7_mixMember_166 : decode cX7_mixMember 166 = .ok (.invokevirtual 413, 3) := by decide +kernel
theorem rX7_mixMember_166 {R : zP} {x0 x1 x2 x3 x4 x5 x6 x7 : Option zV} {st : List zV} {M : zM} {a0 a1 a2 a3 a4 : zV} : uX7_mixMember R 166 [x0, x1, x2, x3, x4, x5, x6, x7] (a4 :: a3 :: a2 :: a1 :: a0 :: st) M ↔ (st.length ≤ 4 ∧ zcv (zv 7 tX7_at) [a0, a1, a2, a3, a4] M (fun v M => uX7_mixMember R 169 [x0, x1, x2, x3, x4, x5, x6, x7] (v :: st) M)) := Iff.trans (zU_step dX7_mixMember_166 (Or.inl rfl)) ⟨fun h => ⟨h.2.1, zcv_of h.2.2⟩, fun h => ⟨rfl, h.1, zcv_to h.2⟩⟩
theorem dX7_mixMember_169 : decode cX7_mixMember 169 = .ok (.i2l, 1) := by decide +kernel
theorem rX7_mixMember_169 {R : zP} {x0 x1 x2 x3 x4 x5 x6 x7 : Option zV} {st : List zV} {M : zM} {a : Int} : uX7_mixMember R 169 [x0, x1, x2, x3, x4, x5, x6, x7] (.inl a :: st) M ↔ (zIR a ∧ uX7_mixMember R 170 [x0, x1, x2, x3, x4, x5, x6, x7] (.inr (.inl a) :: st) M) := zU_step dX7_mixMember_169 (Or.inl rfl)
theorem dX7_mixMember_170 : decode cX7_mixMember 170 = .ok (.ladd, 1) := by decide +kernel
theorem rX7_mixMember_170 {R : zP} {x0 x1 x2 x3 x4 x5 x6 x7 : Option zV} {st : List zV} {M : zM} {a b : Int} : uX7_mixMember R 170 [x0, x1, x2, x3, x4, x5, x6, x7] (.inr (.inl b) :: .inr (.inl a) :: st) M ↔ uX7_mixMember R 171 [x0, x1, x2, x3, x4, x5, x6, x7] (.inr (.inl (a + b)) :: st) M := zU_step dX7_mixMember_170 (Or.inl rfl)
theorem dX7_mixMember_171 : decode cX7_mixMember 171 = .ok (.lstore 4, 2) := by decide +kernel
theorem rX7_mixMember_171 {R : zP} {x0 x1 x2 x3 x4 x5 x6 x7 : Option zV} {st : List zV} {M : zM} {a : Int} : uX7_mixMember R 171 [x0, x1, x2, x3, x4, x5, x6, x7] (.inr (.inl a) :: st) M ↔ uX7_mixMember R 173 [x0, x1, x2, zkeep x3, some (.inr (.inl a)), none, x6, x7] st M := Iff.trans (zU_step dX7_mixMember_171 (Or.inl rfl)) ⟨fun h => h.2, fun h => ⟨show 4 + 1 < 8 by decide, h⟩⟩
theorem dX7_mixMember_173 : decode cX7_mixMember 173 = .ok (.iinc 7 1, 3) := by decide +kernel
theorem rX7_mixMember_173 {R : zP} {x0 x1 x2 x3 x4 x5 x6 : Option zV} {st : List zV} {M : zM} {a : Int} : uX7_mixMember R 173 [x0, x1, x2, x3, x4, x5, x6, some (.inl a)] st M ↔ uX7_mixMember R 176 [x0, x1, x2, x3, x4, x5, zkeep x6, some (.inl (a + (1)))] st M := Iff.trans (zU_step dX7_mixMember_173 (Or.inl rfl)) ⟨fun h => h.2, fun h => ⟨show 7 < 8 by decide, h⟩⟩
theorem dX7_mixMember_176 : decode cX7_mixMember 176 = .ok (.goto (-30), 3) := by decide +kernel
theorem rX7_mixMember_176 {R : zP} {x0 x1 x2 x3 x4 x5 x6 x7 : Option zV} {st : List zV} {M : zM} : uX7_mixMember R 176 [x0, x1, x2, x3, x4, x5, x6, x7] st M ↔ uX7_mixMember R 146 [x0, x1, x2, x3, x4, x5, x6, x7] st M := Iff.trans (zU_step dX7_mixMember_176 (Or.inl rfl)) ⟨fun h => h.2, fun h => ⟨by decide, h⟩⟩
theorem dX7_mixMember_179 : decode cX7_mixMember 179 = .ok (.ldc2_w 322, 3) := by decide +kernel
theorem rX7_mixMember_179 {R : zP} {x0 x1 x2 x3 x4 x5 x6 x7 : Option zV} {st : List zV} {M : zM} : uX7_mixMember R 179 [x0, x1, x2, x3, x4, x5, x6, x7] st M ↔ uX7_mixMember R 182 [x0, x1, x2, x3, x4, x5, x6, x7] (.inr (.inl (31)) :: st) M := zU_step dX7_mixMember_179 (Or.inl rfl)
theorem dX7_mixMember_182 : decode cX7_mixMember 182 = .ok (.lload 4, 2) := by decide +kernel
theorem rX7_mixMember_182 {R : zP} {x0 x1 x2 x3 x5 x6 x7 : Option zV} {st : List zV} {M : zM} {a : Int} : uX7_mixMember R 182 [x0, x1, x2, x3, some (.inr (.inl a)), x5, x6, x7] st M ↔ uX7_mixMember R 184 [x0, x1, x2, x3, some (.inr (.inl a)), x5, x6, x7] (.inr (.inl a) :: st) M := zU_step dX7_mixMember_182 (Or.inl rfl)
theorem dX7_mixMember_184 : decode cX7_mixMember 184 = .ok (.lmul, 1) := by decide +kernel
theorem rX7_mixMember_184 {R : zP} {x0 x1 x2 x3 x4 x5 x6 x7 : Option zV} {st : List zV} {M : zM} {a b : Int} : uX7_mixMember R 184 [x0, x1, x2, x3, x4, x5, x6, x7] (.inr (.inl b) :: .inr (.inl a) :: st) M ↔ uX7_mixMember R 185 [x0, x1, x2, x3, x4, x5, x6, x7] (.inr (.inl (a * b)) :: st) M := zU_step dX7_mixMember_184 (Or.inl rfl)
theorem dX7_mixMember_185 : decode cX7_mixMember 185 = .ok (.aload_n 0, 1) := by decide +kernel
theorem rX7_mixMember_185 {R : zP} {x1 x2 x3 x4 x5 x6 x7 : Option zV} {st : List zV} {M : zM} {a : Nat} : uX7_mixMember R 185 [some (.inr (.inr a)), x1, x2, x3, x4, x5, x6, x7] st M ↔ uX7_mixMember R 186 [some (.inr (.inr a)), x1, x2, x3, x4, x5, x6, x7] (.inr (.inr a) :: st) M := zU_step dX7_mixMember_185 (Or.inl rfl)
theorem dX7_mixMember_186 : decode cX7_mixMember 186 = .ok (.iload_n 3, 1) := by decide +kernel
theorem rX7_mixMember_186 {R : zP} {x0 x1 x2 x4 x5 x6 x7 : Option zV} {st : List zV} {M : zM} {a : Int} : uX7_mixMember R 186 [x0, x1, x2, some (.inl a), x4, x5, x6, x7] st M ↔ uX7_mixMember R 187 [x0, x1, x2, some (.inl a), x4, x5, x6, x7] (.inl a :: st) M := zU_step dX7_mixMember_186 (Or.inl rfl)
theorem dX7_mixMember_187 : decode cX7_mixMember 187 = .ok (.iload 6, 2) := by decide +kernel
theorem rX7_mixMember_187 {R : zP} {x0 x1 x2 x3 x4 x5 x7 : Option zV} {st : List zV} {M : zM} {a : Int} : uX7_mixMember R 187 [x0, x1, x2, x3, x4, x5, some (.inl a), x7] st M ↔ uX7_mixMember R 189 [x0, x1, x2, x3, x4, x5, some (.inl a), x7] (.inl a :: st) M := zU_step dX7_mixMember_187 (Or.inl rfl)
theorem dX7_mixMember_189 : decode cX7_mixMember 189 = .ok (.iconst 0, 1) := by decide +kernel
theorem rX7_mixMember_189 {R : zP} {x0 x1 x2 x3 x4 x5 x6 x7 : Option zV} {st : List zV} {M : zM} : uX7_mixMember R 189 [x0, x1, x2, x3, x4, x5, x6, x7] st M ↔ uX7_mixMember R 190 [x0, x1, x2, x3, x4, x5, x6, x7] (.inl (0) :: st) M := zU_step dX7_mixMember_189 (Or.inl rfl)
theorem dX7_mixMember_190 : decode cX7_mixMember 190 = .ok (.invokevirtual 416, 3) := by decide +kernel
theorem rX7_mixMember_190 {R : zP} {x0 x1 x2 x3 x4 x5 x6 x7 : Option zV} {st : List zV} {M : zM} {a0 a1 a2 a3 : zV} : uX7_mixMember R 190 [x0, x1, x2, x3, x4, x5, x6, x7] (a3 :: a2 :: a1 :: a0 :: st) M ↔ (st.length ≤ 4 ∧ zcv (zv 7 tX7_power) [a0, a1, a2, a3] M (fun v M => uX7_mixMember R 193 [x0, x1, x2, x3, x4, x5, x6, x7] (v :: st) M)) := Iff.trans (zU_step dX7_mixMember_190 (Or.inl rfl)) ⟨fun h => ⟨h.2.1, zcv_of h.2.2⟩, fun h => ⟨rfl, h.1, zcv_to h.2⟩⟩
theorem dX7_mixMember_193 : decode cX7_mixMember 193 = .ok (.ladd, 1) := by decide +kernel
theorem rX7_mixMember_193 {R : zP} {x0 x1 x2 x3 x4 x5 x6 x7 : Option zV} {st : List zV} {M : zM} {a b : Int} : uX7_mixMember R 193 [x0, x1, x2, x3, x4, x5, x6, x7] (.inr (.inl b) :: .inr (.inl a) :: st) M ↔ uX7_mixMember R 194 [x0, x1, x2, x3, x4, x5, x6, x7] (.inr (.inl (a + b)) :: st) M := zU_step dX7_mixMember_193 (Or.inl rfl)
theorem dX7_mixMember_194 : decode cX7_mixMember 194 = .ok (.lstore 4, 2) := by decide +kernel
theorem rX7_mixMember_194 {R : zP} {x0 x1 x2 x3 x4 x5 x6 x7 : Option zV} {st : List zV} {M : zM} {a : Int} : uX7_mixMember R 194 [x0, x1, x2, x3, x4, x5, x6, x7] (.inr (.inl a) :: st) M ↔ uX7_mixMember R 196 [x0, x1, x2, zkeep x3, some (.inr (.inl a)), none, x6, x7] st M := Iff.trans (zU_step dX7_mixMember_194 (Or.inl rfl)) ⟨fun h => h.2, fun h => ⟨show 4 + 1 < 8 by decide, h⟩⟩
theorem dX7_mixMember_196 : decode cX7_mixMember 196 = .ok (.ldc2_w 322, 3) := by decide +kernel
theorem rX7_mixMember_196 {R : zP} {x0 x1 x2 x3 x4 x5 x6 x7 : Option zV} {st : List zV} {M : zM} : uX7_mixMember R 196 [x0, x1, x2, x3, x4, x5, x6, x7] st M ↔ uX7_mixMember R 199 [x0, x1, x2, x3, x4, x5, x6, x7] (.inr (.inl (31)) :: st) M := zU_step dX7_mixMember_196 (Or.inl rfl)
theorem dX7_mixMember_199 : decode cX7_mixMember 199 = .ok (.lload 4, 2) := by decide +kernel
theorem rX7_mixMember_199 {R : zP} {x0 x1 x2 x3 x5 x6 x7 : Option zV} {st : List zV} {M : zM} {a : Int} : uX7_mixMember R 199 [x0, x1, x2, x3, some (.inr (.inl a)), x5, x6, x7] st M ↔ uX7_mixMember R 201 [x0, x1, x2, x3, some (.inr (.inl a)), x5, x6, x7] (.inr (.inl a) :: st) M := zU_step dX7_mixMember_199 (Or.inl rfl)
theorem dX7_mixMember_201 : decode cX7_mixMember 201 = .ok (.lmul, 1) := by decide +kernel
theorem rX7_mixMember_201 {R : zP} {x0 x1 x2 x3 x4 x5 x6 x7 : Option zV} {st : List zV} {M : zM} {a b : Int} : uX7_mixMember R 201 [x0, x1, x2, x3, x4, x5, x6, x7] (.inr (.inl b) :: .inr (.inl a) :: st) M ↔ uX7_mixMember R 202 [x0, x1, x2, x3, x4, x5, x6, x7] (.inr (.inl (a * b)) :: st) M := zU_step dX7_mixMember_201 (Or.inl rfl)
theorem dX7_mixMember_202 : decode cX7_mixMember 202 = .ok (.aload_n 0, 1) := by decide +kernel
theorem rX7_mixMember_202 {R : zP} {x1 x2 x3 x4 x5 x6 x7 : Option zV} {st : List zV} {M : zM} {a : Nat} : uX7_mixMember R 202 [some (.inr (.inr a)), x1, x2, x3, x4, x5, x6, x7] st M ↔ uX7_mixMember R 203 [some (.inr (.inr a)), x1, x2, x3, x4, x5, x6, x7] (.inr (.inr a) :: st) M := zU_step dX7_mixMember_202 (Or.inl rfl)
theorem dX7_mixMember_203 : decode cX7_mixMember 203 = .ok (.iload_n 3, 1) := by decide +kernel
theorem rX7_mixMember_203 {R : zP} {x0 x1 x2 x4 x5 x6 x7 : Option zV} {st : List zV} {M : zM} {a : Int} : uX7_mixMember R 203 [x0, x1, x2, some (.inl a), x4, x5, x6, x7] st M ↔ uX7_mixMember R 204 [x0, x1, x2, some (.inl a), x4, x5, x6, x7] (.inl a :: st) M := zU_step dX7_mixMember_203 (Or.inl rfl)
theorem dX7_mixMember_204 : decode cX7_mixMember 204 = .ok (.iload 6, 2) := by decide +kernel
theorem rX7_mixMember_204 {R : zP} {x0 x1 x2 x3 x4 x5 x7 : Option zV} {st : List zV} {M : zM} {a : Int} : uX7_mixMember R 204 [x0, x1, x2, x3, x4, x5, some (.inl a), x7] st M ↔ uX7_mixMember R 206 [x0, x1, x2, x3, x4, x5, some (.inl a), x7] (.inl a :: st) M := zU_step dX7_mixMember_204 (Or.inl rfl)
theorem dX7_mixMember_206 : decode cX7_mixMember 206 = .ok (.iconst 1, 1) := by decide +kernel
theorem rX7_mixMember_206 {R : zP} {x0 x1 x2 x3 x4 x5 x6 x7 : Option zV} {st : List zV} {M : zM} : uX7_mixMember R 206 [x0, x1, x2, x3, x4, x5, x6, x7] st M ↔ uX7_mixMember R 207 [x0, x1, x2, x3, x4, x5, x6, x7] (.inl (1) :: st) M := zU_step dX7_mixMember_206 (Or.inl rfl)
theorem dX7_mixMember_207 : decode cX7_mixMember 207 = .ok (.invokevirtual 416, 3) := by decide +kernel
theorem rX7_mixMember_207 {R : zP} {x0 x1 x2 x3 x4 x5 x6 x7 : Option zV} {st : List zV} {M : zM} {a0 a1 a2 a3 : zV} : uX7_mixMember R 207 [x0, x1, x2, x3, x4, x5, x6, x7] (a3 :: a2 :: a1 :: a0 :: st) M ↔ (st.length ≤ 4 ∧ zcv (zv 7 tX7_power) [a0, a1, a2, a3] M (fun v M => uX7_mixMember R 210 [x0, x1, x2, x3, x4, x5, x6, x7] (v :: st) M)) := Iff.trans (zU_step dX7_mixMember_207 (Or.inl rfl)) ⟨fun h => ⟨h.2.1, zcv_of h.2.2⟩, fun h => ⟨rfl, h.1, zcv_to h.2⟩⟩
theorem dX7_mixMember_210 : decode cX7_mixMember 210 = .ok (.ladd, 1) := by decide +kernel
theorem rX7_mixMember_210 {R : zP} {x0 x1 x2 x3 x4 x5 x6 x7 : Option zV} {st : List zV} {M : zM} {a b : Int} : uX7_mixMember R 210 [x0, x1, x2, x3, x4, x5, x6, x7] (.inr (.inl b) :: .inr (.inl a) :: st) M ↔ uX7_mixMember R 211 [x0, x1, x2, x3, x4, x5, x6, x7] (.inr (.inl (a + b)) :: st) M := zU_step dX7_mixMember_210 (Or.inl rfl)
theorem dX7_mixMember_211 : decode cX7_mixMember 211 = .ok (.lstore 4, 2) := by decide +kernel
theorem rX7_mixMember_211 {R : zP} {x0 x1 x2 x3 x4 x5 x6 x7 : Option zV} {st : List zV} {M : zM} {a : Int} : uX7_mixMember R 211 [x0, x1, x2, x3, x4, x5, x6, x7] (.inr (.inl a) :: st) M ↔ uX7_mixMember R 213 [x0, x1, x2, zkeep x3, some (.inr (.inl a)), none, x6, x7] st M := Iff.trans (zU_step dX7_mixMember_211 (Or.inl rfl)) ⟨fun h => h.2, fun h => ⟨show 4 + 1 < 8 by decide, h⟩⟩
theorem dX7_mixMember_213 : decode cX7_mixMember 213 = .ok (.ldc2_w 322, 3) := by decide +kernel
theorem rX7_mixMember_213 {R : zP} {x0 x1 x2 x3 x4 x5 x6 x7 : Option zV} {st : List zV} {M : zM} : uX7_mixMember R 213 [x0, x1, x2, x3, x4, x5, x6, x7] st M ↔ uX7_mixMember R 216 [x0, x1, x2, x3, x4, x5, x6, x7] (.inr (.inl (31)) :: st) M := zU_step dX7_mixMember_213 (Or.inl rfl)
theorem dX7_mixMember_216 : decode cX7_mixMember 216 = .ok (.lload 4, 2) := by decide +kernel
theorem rX7_mixMember_216 {R : zP} {x0 x1 x2 x3 x5 x6 x7 : Option zV} {st : List zV} {M : zM} {a : Int} : uX7_mixMember R 216 [x0, x1, x2, x3, some (.inr (.inl a)), x5, x6, x7] st M ↔ uX7_mixMember R 218 [x0, x1, x2, x3, some (.inr (.inl a)), x5, x6, x7] (.inr (.inl a) :: st) M := zU_step dX7_mixMember_216 (Or.inl rfl)
theorem dX7_mixMember_218 : decode cX7_mixMember 218 = .ok (.lmul, 1) := by decide +kernel
theorem rX7_mixMember_218 {R : zP} {x0 x1 x2 x3 x4 x5 x6 x7 : Option zV} {st : List zV} {M : zM} {a b : Int} : uX7_mixMember R 218 [x0, x1, x2, x3, x4, x5, x6, x7] (.inr (.inl b) :: .inr (.inl a) :: st) M ↔ uX7_mixMember R 219 [x0, x1, x2, x3, x4, x5, x6, x7] (.inr (.inl (a * b)) :: st) M := zU_step dX7_mixMember_218 (Or.inl rfl)
theorem dX7_mixMember_219 : decode cX7_mixMember 219 = .ok (.aload_n 0, 1) := by decide +kernel
theorem rX7_mixMember_219 {R : zP} {x1 x2 x3 x4 x5 x6 x7 : Option zV} {st : List zV} {M : zM} {a : Nat} : uX7_mixMember R 219 [some (.inr (.inr a)), x1, x2, x3, x4, x5, x6, x7] st M ↔ uX7_mixMember R 220 [some (.inr (.inr a)), x1, x2, x3, x4, x5, x6, x7] (.inr (.inr a) :: st) M := zU_step dX7_mixMember_219 (Or.inl rfl)
theorem dX7_mixMember_220 : decode cX7_mixMember 220 = .ok (.iload_n 3, 1) := by decide +kernel
theorem rX7_mixMember_220 {R : zP} {x0 x1 x2 x4 x5 x6 x7 : Option zV} {st : List zV} {M : zM} {a : Int} : uX7_mixMember R 220 [x0, x1, x2, some (.inl a), x4, x5, x6, x7] st M ↔ uX7_mixMember R 221 [x0, x1, x2, some (.inl a), x4, x5, x6, x7] (.inl a :: st) M := zU_step dX7_mixMember_220 (Or.inl rfl)
theorem dX7_mixMember_221 : decode cX7_mixMember 221 = .ok (.iload 6, 2) := by decide +kernel
theorem rX7_mixMember_221 {R : zP} {x0 x1 x2 x3 x4 x5 x7 : Option zV} {st : List zV} {M : zM} {a : Int} : uX7_mixMember R 221 [x0, x1, x2, x3, x4, x5, some (.inl a), x7] st M ↔ uX7_mixMember R 223 [x0, x1, x2, x3, x4, x5, some (.inl a), x7] (.inl a :: st) M := zU_step dX7_mixMember_221 (Or.inl rfl)
theorem dX7_mixMember_223 : decode cX7_mixMember 223 = .ok (.bipush 9, 2) := by decide +kernel
theorem rX7_mixMember_223 {R : zP} {x0 x1 x2 x3 x4 x5 x6 x7 : Option zV} {st : List zV} {M : zM} : uX7_mixMember R 223 [x0, x1, x2, x3, x4, x5, x6, x7] st M ↔ uX7_mixMember R 225 [x0, x1, x2, x3, x4, x5, x6, x7] (.inl (9) :: st) M := Iff.trans (zU_step dX7_mixMember_223 (Or.inl rfl)) ⟨fun h => h.2, fun h => ⟨by decide, h⟩⟩
theorem dX7_mixMember_225 : decode cX7_mixMember 225 = .ok (.iconst (-1), 1) := by decide +kernel
theorem rX7_mixMember_225 {R : zP} {x0 x1 x2 x3 x4 x5 x6 x7 : Option zV} {st : List zV} {M : zM} : uX7_mixMember R 225 [x0, x1, x2, x3, x4, x5, x6, x7] st M ↔ uX7_mixMember R 226 [x0, x1, x2, x3, x4, x5, x6, x7] (.inl (-1) :: st) M := zU_step dX7_mixMember_225 (Or.inl rfl)
theorem dX7_mixMember_226 : decode cX7_mixMember 226 = .ok (.invokevirtual 419, 3) := by decide +kernel
theorem rX7_mixMember_226 {R : zP} {x0 x1 x2 x3 x4 x5 x6 x7 : Option zV} {st : List zV} {M : zM} {a0 a1 a2 a3 a4 : zV} : uX7_mixMember R 226 [x0, x1, x2, x3, x4, x5, x6, x7] (a4 :: a3 :: a2 :: a1 :: a0 :: st) M ↔ (st.length ≤ 4 ∧ zcv (zv 7 tX7_rear) [a0, a1, a2, a3, a4] M (fun v M => uX7_mixMember R 229 [x0, x1, x2, x3, x4, x5, x6, x7] (v :: st) M)) := Iff.trans (zU_step dX7_mixMember_226 (Or.inl rfl)) ⟨fun h => ⟨h.2.1, zcv_of h.2.2⟩, fun h => ⟨rfl, h.1, zcv_to h.2⟩⟩
theorem dX7_mixMember_229 : decode cX7_mixMember 229 = .ok (.i2l, 1) := by decide +kernel
theorem rX7_mixMember_229 {R : zP} {x0 x1 x2 x3 x4 x5 x6 x7 : Option zV} {st : List zV} {M : zM} {a : Int} : uX7_mixMember R 229 [x0, x1, x2, x3, x4, x5, x6, x7] (.inl a :: st) M ↔ (zIR a ∧ uX7_mixMember R 230 [x0, x1, x2, x3, x4, x5, x6, x7] (.inr (.inl a) :: st) M) := zU_step dX7_mixMember_229 (Or.inl rfl)
theorem dX7_mixMember_230 : decode cX7_mixMember 230 = .ok (.ladd, 1) := by decide +kernel
theorem rX7_mixMember_230 {R : zP} {x0 x1 x2 x3 x4 x5 x6 x7 : Option zV} {st : List zV} {M : zM} {a b : Int} : uX7_mixMember R 230 [x0, x1, x2, x3, x4, x5, x6, x7] (.inr (.inl b) :: .inr (.inl a) :: st) M ↔ uX7_mixMember R 231 [x0, x1, x2, x3, x4, x5, x6, x7] (.inr (.inl (a + b)) :: st) M := zU_step dX7_mixMember_230 (Or.inl rfl)
theorem dX7_mixMember_231 : decode cX7_mixMember 231 = .ok (.lstore 4, 2) := by decide +kernel
theorem rX7_mixMember_231 {R : zP} {x0 x1 x2 x3 x4 x5 x6 x7 : Option zV} {st : List zV} {M : zM} {a : Int} : uX7_mixMember R 231 [x0, x1, x2, x3, x4, x5, x6, x7] (.inr (.inl a) :: st) M ↔ uX7_mixMember R 233 [x0, x1, x2, zkeep x3, some (.inr (.inl a)), none, x6, x7] st M := Iff.trans (zU_step dX7_mixMember_231 (Or.inl rfl)) ⟨fun h => h.2, fun h => ⟨show 4 + 1 < 8 by decide, h⟩⟩
theorem dX7_mixMember_233 : decode cX7_mixMember 233 = .ok (.ldc2_w 322, 3) := by decide +kernel
theorem rX7_mixMember_233 {R : zP} {x0 x1 x2 x3 x4 x5 x6 x7 : Option zV} {st : List zV} {M : zM} : uX7_mixMember R 233 [x0, x1, x2, x3, x4, x5, x6, x7] st M ↔ uX7_mixMember R 236 [x0, x1, x2, x3, x4, x5, x6, x7] (.inr (.inl (31)) :: st) M := zU_step dX7_mixMember_233 (Or.inl rfl)
theorem dX7_mixMember_236 : decode cX7_mixMember 236 = .ok (.lload 4, 2) := by decide +kernel
theorem rX7_mixMember_236 {R : zP} {x0 x1 x2 x3 x5 x6 x7 : Option zV} {st : List zV} {M : zM} {a : Int} : uX7_mixMember R 236 [x0, x1, x2, x3, some (.inr (.inl a)), x5, x6, x7] st M ↔ uX7_mixMember R 238 [x0, x1, x2, x3, some (.inr (.inl a)), x5, x6, x7] (.inr (.inl a) :: st) M := zU_step dX7_mixMember_236 (Or.inl rfl)
theorem dX7_mixMember_238 : decode cX7_mixMember 238 = .ok (.lmul, 1) := by decide +kernel
theorem rX7_mixMember_238 {R : zP} {x0 x1 x2 x3 x4 x5 x6 x7 : Option zV} {st : List zV} {M : zM} {a b : Int} : uX7_mixMember R 238 [x0, x1, x2, x3, x4, x5, x6, x7] (.inr (.inl b) :: .inr (.inl a) :: st) M ↔ uX7_mixMember R 239 [x0, x1, x2, x3, x4, x5, x6, x7] (.inr (.inl (a * b)) :: st) M := zU_step dX7_mixMember_238 (Or.inl rfl)
theorem dX7_mixMember_239 : decode cX7_mixMember 239 = .ok (.aload_n 0, 1) := by decide +kernel
theorem rX7_mixMember_239 {R : zP} {x1 x2 x3 x4 x5 x6 x7 : Option zV} {st : List zV} {M : zM} {a : Nat} : uX7_mixMember R 239 [some (.inr (.inr a)), x1, x2, x3, x4, x5, x6, x7] st M ↔ uX7_mixMember R 240 [some (.inr (.inr a)), x1, x2, x3, x4, x5, x6, x7] (.inr (.inr a) :: st) M := zU_step dX7_mixMember_239 (Or.inl rfl)
theorem dX7_mixMember_240 : decode cX7_mixMember 240 = .ok (.iload_n 3, 1) := by decide +kernel
theorem rX7_mixMember_240 {R : zP} {x0 x1 x2 x4 x5 x6 x7 : Option zV} {st : List zV} {M : zM} {a : Int} : uX7_mixMember R 240 [x0, x1, x2, some (.inl a), x4, x5, x6, x7] st M ↔ uX7_mixMember R 241 [x0, x1, x2, some (.inl a), x4, x5, x6, x7] (.inl a :: st) M := zU_step dX7_mixMember_240 (Or.inl rfl)
theorem dX7_mixMember_241 : decode cX7_mixMember 241 = .ok (.iload 6, 2) := by decide +kernel
theorem rX7_mixMember_241 {R : zP} {x0 x1 x2 x3 x4 x5 x7 : Option zV} {st : List zV} {M : zM} {a : Int} : uX7_mixMember R 241 [x0, x1, x2, x3, x4, x5, some (.inl a), x7] st M ↔ uX7_mixMember R 243 [x0, x1, x2, x3, x4, x5, some (.inl a), x7] (.inl a :: st) M := zU_step dX7_mixMember_241 (Or.inl rfl)
theorem dX7_mixMember_243 : decode cX7_mixMember 243 = .ok (.bipush 9, 2) := by decide +kernel
theorem rX7_mixMember_243 {R : zP} {x0 x1 x2 x3 x4 x5 x6 x7 : Option zV} {st : List zV} {M : zM} : uX7_mixMember R 243 [x0, x1, x2, x3, x4, x5, x6, x7] st M ↔ uX7_mixMember R 245 [x0, x1, x2, x3, x4, x5, x6, x7] (.inl (9) :: st) M := Iff.trans (zU_step dX7_mixMember_243 (Or.inl rfl)) ⟨fun h => h.2, fun h => ⟨by decide, h⟩⟩
theorem dX7_mixMember_245 : decode cX7_mixMember 245 = .ok (.iconst 0, 1) := by decide +kernel
theorem rX7_mixMember_245 {R : zP} {x0 x1 x2 x3 x4 x5 x6 x7 : Option zV} {st : List zV} {M : zM} : uX7_mixMember R 245 [x0, x1, x2, x3, x4, x5, x6, x7] st M ↔ uX7_mixMember R 246 [x0, x1, x2, x3, x4, x5, x6, x7] (.inl (0) :: st) M := zU_step dX7_mixMember_245 (Or.inl rfl)
theorem dX7_mixMember_246 : decode cX7_mixMember 246 = .ok (.invokevirtual 419, 3) := by decide +kernel
theorem rX7_mixMember_246 {R : zP} {x0 x1 x2 x3 x4 x5 x6 x7 : Option zV} {st : List zV} {M : zM} {a0 a1 a2 a3 a4 : zV} : uX7_mixMember R 246 [x0, x1, x2, x3, x4, x5, x6, x7] (a4 :: a3 :: a2 :: a1 :: a0 :: st) M ↔ (st.length ≤ 4 ∧ zcv (zv 7 tX7_rear) [a0, a1, a2, a3, a4] M (fun v M => uX7_mixMember R 249 [x0, x1, x2, x3, x4, x5, x6, x7] (v :: st) M)) := Iff.trans (zU_step dX7_mixMember_246 (Or.inl rfl)) ⟨fun h => ⟨h.2.1, zcv_of h.2.2⟩, fun h => ⟨rfl, h.1, zcv_to h.2⟩⟩
theorem dX7_mixMember_249 : decode cX7_mixMember 249 = .ok (.i2l, 1) := by decide +kernel
theorem rX7_mixMember_249 {R : zP} {x0 x1 x2 x3 x4 x5 x6 x7 : Option zV} {st : List zV} {M : zM} {a : Int} : uX7_mixMember R 249 [x0, x1, x2, x3, x4, x5, x6, x7] (.inl a :: st) M ↔ (zIR a ∧ uX7_mixMember R 250 [x0, x1, x2, x3, x4, x5, x6, x7] (.inr (.inl a) :: st) M) := zU_step dX7_mixMember_249 (Or.inl rfl)
theorem dX7_mixMember_250 : decode cX7_mixMember 250 = .ok (.ladd, 1) := by decide +kernel
theorem rX7_mixMember_250 {R : zP} {x0 x1 x2 x3 x4 x5 x6 x7 : Option zV} {st : List zV} {M : zM} {a b : Int} : uX7_mixMember R 250 [x0, x1, x2, x3, x4, x5, x6, x7] (.inr (.inl b) :: .inr (.inl a) :: st) M ↔ uX7_mixMember R 251 [x0, x1, x2, x3, x4, x5, x6, x7] (.inr (.inl (a + b)) :: st) M := zU_step dX7_mixMember_250 (Or.inl rfl)
theorem dX7_mixMember_251 : decode cX7_mixMember 251 = .ok (.lstore 4, 2) := by decide +kernel
theorem rX7_mixMember_251 {R : zP} {x0 x1 x2 x3 x4 x5 x6 x7 : Option zV} {st : List zV} {M : zM} {a : Int} : uX7_mixMember R 251 [x0, x1, x2, x3, x4, x5, x6, x7] (.inr (.inl a) :: st) M ↔ uX7_mixMember R 253 [x0, x1, x2, zkeep x3, some (.inr (.inl a)), none, x6, x7] st M := Iff.trans (zU_step dX7_mixMember_251 (Or.inl rfl)) ⟨fun h => h.2, fun h => ⟨show 4 + 1 < 8 by decide, h⟩⟩
theorem dX7_mixMember_253 : decode cX7_mixMember 253 = .ok (.ldc2_w 322, 3) := by decide +kernel
theorem rX7_mixMember_253 {R : zP} {x0 x1 x2 x3 x4 x5 x6 x7 : Option zV} {st : List zV} {M : zM} : uX7_mixMember R 253 [x0, x1, x2, x3, x4, x5, x6, x7] st M ↔ uX7_mixMember R 256 [x0, x1, x2, x3, x4, x5, x6, x7] (.inr (.inl (31)) :: st) M := zU_step dX7_mixMember_253 (Or.inl rfl)
theorem dX7_mixMember_256 : decode cX7_mixMember 256 = .ok (.lload 4, 2) := by decide +kernel
theorem rX7_mixMember_256 {R : zP} {x0 x1 x2 x3 x5 x6 x7 : Option zV} {st : List zV} {M : zM} {a : Int} : uX7_mixMember R 256 [x0, x1, x2, x3, some (.inr (.inl a)), x5, x6, x7] st M ↔ uX7_mixMember R 258 [x0, x1, x2, x3, some (.inr (.inl a)), x5, x6, x7] (.inr (.inl a) :: st) M := zU_step dX7_mixMember_256 (Or.inl rfl)
theorem dX7_mixMember_258 : decode cX7_mixMember 258 = .ok (.lmul, 1) := by decide +kernel
theorem rX7_mixMember_258 {R : zP} {x0 x1 x2 x3 x4 x5 x6 x7 : Option zV} {st : List zV} {M : zM} {a b : Int} : uX7_mixMember R 258 [x0, x1, x2, x3, x4, x5, x6, x7] (.inr (.inl b) :: .inr (.inl a) :: st) M ↔ uX7_mixMember R 259 [x0, x1, x2, x3, x4, x5, x6, x7] (.inr (.inl (a * b)) :: st) M := zU_step dX7_mixMember_258 (Or.inl rfl)
theorem dX7_mixMember_259 : decode cX7_mixMember 259 = .ok (.aload_n 0, 1) := by decide +kernel
theorem rX7_mixMember_259 {R : zP} {x1 x2 x3 x4 x5 x6 x7 : Option zV} {st : List zV} {M : zM} {a : Nat} : uX7_mixMember R 259 [some (.inr (.inr a)), x1, x2, x3, x4, x5, x6, x7] st M ↔ uX7_mixMember R 260 [some (.inr (.inr a)), x1, x2, x3, x4, x5, x6, x7] (.inr (.inr a) :: st) M := zU_step dX7_mixMember_259 (Or.inl rfl)
theorem dX7_mixMember_260 : decode cX7_mixMember 260 = .ok (.iload_n 3, 1) := by decide +kernel
theorem rX7_mixMember_260 {R : zP} {x0 x1 x2 x4 x5 x6 x7 : Option zV} {st : List zV} {M : zM} {a : Int} : uX7_mixMember R 260 [x0, x1, x2, some (.inl a), x4, x5, x6, x7] st M ↔ uX7_mixMember R 261 [x0, x1, x2, some (.inl a), x4, x5, x6, x7] (.inl a :: st) M := zU_step dX7_mixMember_260 (Or.inl rfl)
theorem dX7_mixMember_261 : decode cX7_mixMember 261 = .ok (.iload 6, 2) := by decide +kernel
theorem rX7_mixMember_261 {R : zP} {x0 x1 x2 x3 x4 x5 x7 : Option zV} {st : List zV} {M : zM} {a : Int} : uX7_mixMember R 261 [x0, x1, x2, x3, x4, x5, some (.inl a), x7] st M ↔ uX7_mixMember R 263 [x0, x1, x2, x3, x4, x5, some (.inl a), x7] (.inl a :: st) M := zU_step dX7_mixMember_261 (Or.inl rfl)
theorem dX7_mixMember_263 : decode cX7_mixMember 263 = .ok (.invokevirtual 422, 3) := by decide +kernel
theorem rX7_mixMember_263 {R : zP} {x0 x1 x2 x3 x4 x5 x6 x7 : Option zV} {st : List zV} {M : zM} {a0 a1 a2 : zV} : uX7_mixMember R 263 [x0, x1, x2, x3, x4, x5, x6, x7] (a2 :: a1 :: a0 :: st) M ↔ (st.length ≤ 4 ∧ zcv (zv 7 tX7_first) [a0, a1, a2] M (fun v M => uX7_mixMember R 266 [x0, x1, x2, x3, x4, x5, x6, x7] (v :: st) M)) := Iff.trans (zU_step dX7_mixMember_263 (Or.inl rfl)) ⟨fun h => ⟨h.2.1, zcv_of h.2.2⟩, fun h => ⟨rfl, h.1, zcv_to h.2⟩⟩
theorem dX7_mixMember_266 : decode cX7_mixMember 266 = .ok (.i2l, 1) := by decide +kernel
theorem rX7_mixMember_266 {R : zP} {x0 x1 x2 x3 x4 x5 x6 x7 : Option zV} {st : List zV} {M : zM} {a : Int} : uX7_mixMember R 266 [x0, x1, x2, x3, x4, x5, x6, x7] (.inl a :: st) M ↔ (zIR a ∧ uX7_mixMember R 267 [x0, x1, x2, x3, x4, x5, x6, x7] (.inr (.inl a) :: st) M) := zU_step dX7_mixMember_266 (Or.inl rfl)
theorem dX7_mixMember_267 : decode cX7_mixMember 267 = .ok (.ladd, 1) := by decide +kernel
theorem rX7_mixMember_267 {R : zP} {x0 x1 x2 x3 x4 x5 x6 x7 : Option zV} {st : List zV} {M : zM} {a b : Int} : uX7_mixMember R 267 [x0, x1, x2, x3, x4, x5, x6, x7] (.inr (.inl b) :: .inr (.inl a) :: st) M ↔ uX7_mixMember R 268 [x0, x1, x2, x3, x4, x5, x6, x7] (.inr (.inl (a + b)) :: st) M := zU_step dX7_mixMember_267 (Or.inl rfl)
theorem dX7_mixMember_268 : decode cX7_mixMember 268 = .ok (.lstore 4, 2) := by decide +kernel
theorem rX7_mixMember_268 {R : zP} {x0 x1 x2 x3 x4 x5 x6 x7 : Option zV} {st : List zV} {M : zM} {a : Int} : uX7_mixMember R 268 [x0, x1, x2, x3, x4, x5, x6, x7] (.inr (.inl a) :: st) M ↔ uX7_mixMember R 270 [x0, x1, x2, zkeep x3, some (.inr (.inl a)), none, x6, x7] st M := Iff.trans (zU_step dX7_mixMember_268 (Or.inl rfl)) ⟨fun h => h.2, fun h => ⟨show 4 + 1 < 8 by decide, h⟩⟩
theorem dX7_mixMember_270 : decode cX7_mixMember 270 = .ok (.ldc2_w 322, 3) := by decide +kernel
theorem rX7_mixMember_270 {R : zP} {x0 x1 x2 x3 x4 x5 x6 x7 : Option zV} {st : List zV} {M : zM} : uX7_mixMember R 270 [x0, x1, x2, x3, x4, x5, x6, x7] st M ↔ uX7_mixMember R 273 [x0, x1, x2, x3, x4, x5, x6, x7] (.inr (.inl (31)) :: st) M := zU_step dX7_mixMember_270 (Or.inl rfl)
theorem dX7_mixMember_273 : decode cX7_mixMember 273 = .ok (.lload 4, 2) := by decide +kernel
theorem rX7_mixMember_273 {R : zP} {x0 x1 x2 x3 x5 x6 x7 : Option zV} {st : List zV} {M : zM} {a : Int} : uX7_mixMember R 273 [x0, x1, x2, x3, some (.inr (.inl a)), x5, x6, x7] st M ↔ uX7_mixMember R 275 [x0, x1, x2, x3, some (.inr (.inl a)), x5, x6, x7] (.inr (.inl a) :: st) M := zU_step dX7_mixMember_273 (Or.inl rfl)
theorem dX7_mixMember_275 : decode cX7_mixMember 275 = .ok (.lmul, 1) := by decide +kernel
theorem rX7_mixMember_275 {R : zP} {x0 x1 x2 x3 x4 x5 x6 x7 : Option zV} {st : List zV} {M : zM} {a b : Int} : uX7_mixMember R 275 [x0, x1, x2, x3, x4, x5, x6, x7] (.inr (.inl b) :: .inr (.inl a) :: st) M ↔ uX7_mixMember R 276 [x0, x1, x2, x3, x4, x5, x6, x7] (.inr (.inl (a * b)) :: st) M := zU_step dX7_mixMember_275 (Or.inl rfl)
theorem dX7_mixMember_276 : decode cX7_mixMember 276 = .ok (.aload_n 0, 1) := by decide +kernel
theorem rX7_mixMember_276 {R : zP} {x1 x2 x3 x4 x5 x6 x7 : Option zV} {st : List zV} {M : zM} {a : Nat} : uX7_mixMember R 276 [some (.inr (.inr a)), x1, x2, x3, x4, x5, x6, x7] st M ↔ uX7_mixMember R 277 [some (.inr (.inr a)), x1, x2, x3, x4, x5, x6, x7] (.inr (.inr a) :: st) M := zU_step dX7_mixMember_276 (Or.inl rfl)
theorem dX7_mixMember_277 : decode cX7_mixMember 277 = .ok (.iload_n 3, 1) := by decide +kernel
theorem rX7_mixMember_277 {R : zP} {x0 x1 x2 x4 x5 x6 x7 : Option zV} {st : List zV} {M : zM} {a : Int} : uX7_mixMember R 277 [x0, x1, x2, some (.inl a), x4, x5, x6, x7] st M ↔ uX7_mixMember R 278 [x0, x1, x2, some (.inl a), x4, x5, x6, x7] (.inl a :: st) M := zU_step dX7_mixMember_277 (Or.inl rfl)
theorem dX7_mixMember_278 : decode cX7_mixMember 278 = .ok (.iload 6, 2) := by decide +kernel
theorem rX7_mixMember_278 {R : zP} {x0 x1 x2 x3 x4 x5 x7 : Option zV} {st : List zV} {M : zM} {a : Int} : uX7_mixMember R 278 [x0, x1, x2, x3, x4, x5, some (.inl a), x7] st M ↔ uX7_mixMember R 280 [x0, x1, x2, x3, x4, x5, some (.inl a), x7] (.inl a :: st) M := zU_step dX7_mixMember_278 (Or.inl rfl)
theorem dX7_mixMember_280 : decode cX7_mixMember 280 = .ok (.invokevirtual 425, 3) := by decide +kernel
theorem rX7_mixMember_280 {R : zP} {x0 x1 x2 x3 x4 x5 x6 x7 : Option zV} {st : List zV} {M : zM} {a0 a1 a2 : zV} : uX7_mixMember R 280 [x0, x1, x2, x3, x4, x5, x6, x7] (a2 :: a1 :: a0 :: st) M ↔ (st.length ≤ 4 ∧ zcv (zv 7 tX7_ask) [a0, a1, a2] M (fun v M => uX7_mixMember R 283 [x0, x1, x2, x3, x4, x5, x6, x7] (v :: st) M)) := Iff.trans (zU_step dX7_mixMember_280 (Or.inl rfl)) ⟨fun h => ⟨h.2.1, zcv_of h.2.2⟩, fun h => ⟨rfl, h.1, zcv_to h.2⟩⟩
theorem dX7_mixMember_283 : decode cX7_mixMember 283 = .ok (.i2l, 1) := by decide +kernel
theorem rX7_mixMember_283 {R : zP} {x0 x1 x2 x3 x4 x5 x6 x7 : Option zV} {st : List zV} {M : zM} {a : Int} : uX7_mixMember R 283 [x0, x1, x2, x3, x4, x5, x6, x7] (.inl a :: st) M ↔ (zIR a ∧ uX7_mixMember R 284 [x0, x1, x2, x3, x4, x5, x6, x7] (.inr (.inl a) :: st) M) := zU_step dX7_mixMember_283 (Or.inl rfl)
theorem dX7_mixMember_284 : decode cX7_mixMember 284 = .ok (.ladd, 1) := by decide +kernel
theorem rX7_mixMember_284 {R : zP} {x0 x1 x2 x3 x4 x5 x6 x7 : Option zV} {st : List zV} {M : zM} {a b : Int} : uX7_mixMember R 284 [x0, x1, x2, x3, x4, x5, x6, x7] (.inr (.inl b) :: .inr (.inl a) :: st) M ↔ uX7_mixMember R 285 [x0, x1, x2, x3, x4, x5, x6, x7] (.inr (.inl (a + b)) :: st) M := zU_step dX7_mixMember_284 (Or.inl rfl)
theorem dX7_mixMember_285 : decode cX7_mixMember 285 = .ok (.lstore 4, 2) := by decide +kernel
theorem rX7_mixMember_285 {R : zP} {x0 x1 x2 x3 x4 x5 x6 x7 : Option zV} {st : List zV} {M : zM} {a : Int} : uX7_mixMember R 285 [x0, x1, x2, x3, x4, x5, x6, x7] (.inr (.inl a) :: st) M ↔ uX7_mixMember R 287 [x0, x1, x2, zkeep x3, some (.inr (.inl a)), none, x6, x7] st M := Iff.trans (zU_step dX7_mixMember_285 (Or.inl rfl)) ⟨fun h => h.2, fun h => ⟨show 4 + 1 < 8 by decide, h⟩⟩
theorem dX7_mixMember_287 : decode cX7_mixMember 287 = .ok (.iinc 6 1, 3) := by decide +kernel
theorem rX7_mixMember_287 {R : zP} {x0 x1 x2 x3 x4 x5 x7 : Option zV} {st : List zV} {M : zM} {a : Int} : uX7_mixMember R 287 [x0, x1, x2, x3, x4, x5, some (.inl a), x7] st M ↔ uX7_mixMember R 290 [x0, x1, x2, x3, x4, zkeep x5, some (.inl (a + (1))), x7] st M := Iff.trans (zU_step dX7_mixMember_287 (Or.inl rfl)) ⟨fun h => h.2, fun h => ⟨show 6 < 8 by decide, h⟩⟩
theorem dX7_mixMember_290 : decode cX7_mixMember 290 = .ok (.goto (-189), 3) := by decide +kernel
theorem rX7_mixMember_290 {R : zP} {x0 x1 x2 x3 x4 x5 x6 x7 : Option zV} {st : List zV} {M : zM} : uX7_mixMember R 290 [x0, x1, x2, x3, x4, x5, x6, x7] st M ↔ uX7_mixMember R 101 [x0, x1, x2, x3, x4, x5, x6, x7] st M := Iff.trans (zU_step dX7_mixMember_290 (Or.inl rfl)) ⟨fun h => h.2, fun h => ⟨by decide, h⟩⟩
theorem dX7_mixMember_293 : decode cX7_mixMember 293 = .ok (.ldc2_w 322, 3) := by decide +kernel
theorem rX7_mixMember_293 {R : zP} {x0 x1 x2 x3 x4 x5 x6 x7 : Option zV} {st : List zV} {M : zM} : uX7_mixMember R 293 [x0, x1, x2, x3, x4, x5, x6, x7] st M ↔ uX7_mixMember R 296 [x0, x1, x2, x3, x4, x5, x6, x7] (.inr (.inl (31)) :: st) M := zU_step dX7_mixMember_293 (Or.inl rfl)
theorem dX7_mixMember_296 : decode cX7_mixMember 296 = .ok (.lload 4, 2) := by decide +kernel
theorem rX7_mixMember_296 {R : zP} {x0 x1 x2 x3 x5 x6 x7 : Option zV} {st : List zV} {M : zM} {a : Int} : uX7_mixMember R 296 [x0, x1, x2, x3, some (.inr (.inl a)), x5, x6, x7] st M ↔ uX7_mixMember R 298 [x0, x1, x2, x3, some (.inr (.inl a)), x5, x6, x7] (.inr (.inl a) :: st) M := zU_step dX7_mixMember_296 (Or.inl rfl)
theorem dX7_mixMember_298 : decode cX7_mixMember 298 = .ok (.lmul, 1) := by decide +kernel
theorem rX7_mixMember_298 {R : zP} {x0 x1 x2 x3 x4 x5 x6 x7 : Option zV} {st : List zV} {M : zM} {a b : Int} : uX7_mixMember R 298 [x0, x1, x2, x3, x4, x5, x6, x7] (.inr (.inl b) :: .inr (.inl a) :: st) M ↔ uX7_mixMember R 299 [x0, x1, x2, x3, x4, x5, x6, x7] (.inr (.inl (a * b)) :: st) M := zU_step dX7_mixMember_298 (Or.inl rfl)
theorem dX7_mixMember_299 : decode cX7_mixMember 299 = .ok (.aload_n 0, 1) := by decide +kernel
theorem rX7_mixMember_299 {R : zP} {x1 x2 x3 x4 x5 x6 x7 : Option zV} {st : List zV} {M : zM} {a : Nat} : uX7_mixMember R 299 [some (.inr (.inr a)), x1, x2, x3, x4, x5, x6, x7] st M ↔ uX7_mixMember R 300 [some (.inr (.inr a)), x1, x2, x3, x4, x5, x6, x7] (.inr (.inr a) :: st) M := zU_step dX7_mixMember_299 (Or.inl rfl)
theorem dX7_mixMember_300 : decode cX7_mixMember 300 = .ok (.iload_n 3, 1) := by decide +kernel
theorem rX7_mixMember_300 {R : zP} {x0 x1 x2 x4 x5 x6 x7 : Option zV} {st : List zV} {M : zM} {a : Int} : uX7_mixMember R 300 [x0, x1, x2, some (.inl a), x4, x5, x6, x7] st M ↔ uX7_mixMember R 301 [x0, x1, x2, some (.inl a), x4, x5, x6, x7] (.inl a :: st) M := zU_step dX7_mixMember_300 (Or.inl rfl)
theorem dX7_mixMember_301 : decode cX7_mixMember 301 = .ok (.invokevirtual 428, 3) := by decide +kernel
theorem rX7_mixMember_301 {R : zP} {x0 x1 x2 x3 x4 x5 x6 x7 : Option zV} {st : List zV} {M : zM} {a0 a1 : zV} : uX7_mixMember R 301 [x0, x1, x2, x3, x4, x5, x6, x7] (a1 :: a0 :: st) M ↔ (st.length ≤ 4 ∧ zcv (zv 7 tX7_sort) [a0, a1] M (fun v M => uX7_mixMember R 304 [x0, x1, x2, x3, x4, x5, x6, x7] (v :: st) M)) := Iff.trans (zU_step dX7_mixMember_301 (Or.inl rfl)) ⟨fun h => ⟨h.2.1, zcv_of h.2.2⟩, fun h => ⟨rfl, h.1, zcv_to h.2⟩⟩
theorem dX7_mixMember_304 : decode cX7_mixMember 304 = .ok (.i2l, 1) := by decide +kernel
theorem rX7_mixMember_304 {R : zP} {x0 x1 x2 x3 x4 x5 x6 x7 : Option zV} {st : List zV} {M : zM} {a : Int} : uX7_mixMember R 304 [x0, x1, x2, x3, x4, x5, x6, x7] (.inl a :: st) M ↔ (zIR a ∧ uX7_mixMember R 305 [x0, x1, x2, x3, x4, x5, x6, x7] (.inr (.inl a) :: st) M) := zU_step dX7_mixMember_304 (Or.inl rfl)
theorem dX7_mixMember_305 : decode cX7_mixMember 305 = .ok (.ladd, 1) := by decide +kernel
theorem rX7_mixMember_305 {R : zP} {x0 x1 x2 x3 x4 x5 x6 x7 : Option zV} {st : List zV} {M : zM} {a b : Int} : uX7_mixMember R 305 [x0, x1, x2, x3, x4, x5, x6, x7] (.inr (.inl b) :: .inr (.inl a) :: st) M ↔ uX7_mixMember R 306 [x0, x1, x2, x3, x4, x5, x6, x7] (.inr (.inl (a + b)) :: st) M := zU_step dX7_mixMember_305 (Or.inl rfl)
theorem dX7_mixMember_306 : decode cX7_mixMember 306 = .ok (.lreturn, 1) := by decide +kernel
theorem rX7_mixMember_306 {R : zP} {x0 x1 x2 x3 x4 x5 x6 x7 : Option zV} {M : zM} {a : Int} : uX7_mixMember R 306 [x0, x1, x2, x3, x4, x5, x6, x7] [.inr (.inl a)] M ↔ R (some (.inr (.inl a))) M := Iff.trans (zU_step dX7_mixMember_306 (Or.inl rfl)) ⟨fun h => h.2.2, fun h => ⟨rfl, rfl, h⟩⟩
theorem eX7_mixMember {R : zP} {M : zM} {a0 : Nat} {p0 : Int} {p1 : Int} : tX7_mixMember [.inr (.inr a0), .inr (.inl p0), .inl p1] M R ↔ uX7_mixMember R 0 [some (.inr (.inr a0)), some (.inr (.inl p0)), none, some (.inl p1), none, none, none, none] [] M := ⟨fun h => h.2, fun h => ⟨show 4 ≤ 8 by decide, h⟩⟩
