def uX8_sumOf (R : zP) : zK := zU fX8 vX8_sumOf cX8_sumOf R
theorem dX8_sumOf_0 : decode cX8_sumOf 0 = .ok (.aload_n 0, 1) := by decide +kernel
theorem rX8_sumOf_0 {R : zP} {x1 : Option zV} {st : List zV} {M : zM} {a : Nat} : uX8_sumOf R 0 [some (.inr (.inr a)), x1] st M ↔ uX8_sumOf R 1 [some (.inr (.inr a)), x1] (.inr (.inr a) :: st) M := zU_step dX8_sumOf_0 (Or.inl rfl)
theorem dX8_sumOf_1 : decode cX8_sumOf 1 = .ok (.invokevirtual 205, 3) := by decide +kernel
theorem rX8_sumOf_1 {R : zP} {x0 x1 : Option zV} {st : List zV} {M : zM} {a0 : zV} : uX8_sumOf R 1 [x0, x1] (a0 :: st) M ↔ (st.length ≤ 4 ∧ zcn (zv 8 tX8_runsTold) [a0] M (fun M => uX8_sumOf R 4 [x0, x1] st M)) := Iff.trans (zU_step dX8_sumOf_1 (Or.inl rfl)) ⟨fun h => ⟨h.2.1, zcn_of h.2.2⟩, fun h => ⟨rfl, h.1, zcn_to h.2⟩⟩
theorem dX8_sumOf_4 : decode cX8_sumOf 4 = .ok (.iload_n 1, 1) := by decide +kernel
theorem rX8_sumOf_4 {R : zP} {x0 : Option zV} {st : List zV} {M : zM} {a : Int} : uX8_sumOf R 4 [x0, some (.inl a)] st M ↔ uX8_sumOf R 5 [x0, some (.inl a)] (.inl a :: st) M := zU_step dX8_sumOf_4 (Or.inl rfl)
theorem dX8_sumOf_5 : decode cX8_sumOf 5 = .ok (.ifCond .ne 10, 3) := by decide +kernel
theorem rX8_sumOf_5 {R : zP} {x0 x1 : Option zV} {st : List zV} {M : zM} {a : Int} : uX8_sumOf R 5 [x0, x1] (.inl a :: st) M ↔ (zIR a ∧ (a ≠ 0 → uX8_sumOf R 15 [x0, x1] st M) ∧ (¬ a ≠ 0 → uX8_sumOf R 8 [x0, x1] st M)) := Iff.trans (zU_step dX8_sumOf_5 (Or.inl rfl)) ⟨fun h => ⟨h.1.1, h.2⟩, fun h => ⟨⟨h.1, by decide⟩, h.2⟩⟩
theorem dX8_sumOf_8 : decode cX8_sumOf 8 = .ok (.aload_n 0, 1) := by decide +kernel
theorem rX8_sumOf_8 {R : zP} {x1 : Option zV} {st : List zV} {M : zM} {a : Nat} : uX8_sumOf R 8 [some (.inr (.inr a)), x1] st M ↔ uX8_sumOf R 9 [some (.inr (.inr a)), x1] (.inr (.inr a) :: st) M := zU_step dX8_sumOf_8 (Or.inl rfl)
theorem dX8_sumOf_9 : decode cX8_sumOf 9 = .ok (.getfield 127, 3) := by decide +kernel
theorem rX8_sumOf_9 {R : zP} {x0 x1 : Option zV} {st : List zV} {M : zM} {r : Nat} : uX8_sumOf R 9 [x0, x1] (.inr (.inr r) :: st) M ↔ zgetx fX8 127 r M (fun v => uX8_sumOf R 12 [x0, x1] (v :: st) M) := zU_step dX8_sumOf_9 (Or.inl rfl)
theorem dX8_sumOf_12 : decode cX8_sumOf 12 = .ok (.goto 35, 3) := by decide +kernel
theorem rX8_sumOf_12 {R : zP} {x0 x1 : Option zV} {st : List zV} {M : zM} : uX8_sumOf R 12 [x0, x1] st M ↔ uX8_sumOf R 47 [x0, x1] st M := Iff.trans (zU_step dX8_sumOf_12 (Or.inl rfl)) ⟨fun h => h.2, fun h => ⟨by decide, h⟩⟩
theorem dX8_sumOf_15 : decode cX8_sumOf 15 = .ok (.iload_n 1, 1) := by decide +kernel
theorem rX8_sumOf_15 {R : zP} {x0 : Option zV} {st : List zV} {M : zM} {a : Int} : uX8_sumOf R 15 [x0, some (.inl a)] st M ↔ uX8_sumOf R 16 [x0, some (.inl a)] (.inl a :: st) M := zU_step dX8_sumOf_15 (Or.inl rfl)
theorem dX8_sumOf_16 : decode cX8_sumOf 16 = .ok (.iconst 1, 1) := by decide +kernel
theorem rX8_sumOf_16 {R : zP} {x0 x1 : Option zV} {st : List zV} {M : zM} : uX8_sumOf R 16 [x0, x1] st M ↔ uX8_sumOf R 17 [x0, x1] (.inl (1) :: st) M := zU_step dX8_sumOf_16 (Or.inl rfl)
theorem dX8_sumOf_17 : decode cX8_sumOf 17 = .ok (.if_icmp .ne 10, 3) := by decide +kernel
theorem rX8_sumOf_17 {R : zP} {x0 x1 : Option zV} {st : List zV} {M : zM} {a b : Int} : uX8_sumOf R 17 [x0, x1] (.inl b :: .inl a :: st) M ↔ ((zIR a ∧ zIR b) ∧ (a ≠ b → uX8_sumOf R 27 [x0, x1] st M) ∧ (¬ a ≠ b → uX8_sumOf R 20 [x0, x1] st M)) := Iff.trans (zU_step dX8_sumOf_17 (Or.inl rfl)) ⟨fun h => ⟨⟨h.1.1, h.1.2.1⟩, h.2⟩, fun h => ⟨⟨h.1.1, h.1.2, by decide⟩, h.2⟩⟩
theorem dX8_sumOf_20 : decode cX8_sumOf 20 = .ok (.aload_n 0, 1) := by decide +kernel
theorem rX8_sumOf_20 {R : zP} {x1 : Option zV} {st : List zV} {M : zM} {a : Nat} : uX8_sumOf R 20 [some (.inr (.inr a)), x1] st M ↔ uX8_sumOf R 21 [some (.inr (.inr a)), x1] (.inr (.inr a) :: st) M := zU_step dX8_sumOf_20 (Or.inl rfl)
theorem dX8_sumOf_21 : decode cX8_sumOf 21 = .ok (.getfield 131, 3) := by decide +kernel
theorem rX8_sumOf_21 {R : zP} {x0 x1 : Option zV} {st : List zV} {M : zM} {r : Nat} : uX8_sumOf R 21 [x0, x1] (.inr (.inr r) :: st) M ↔ zgetx fX8 131 r M (fun v => uX8_sumOf R 24 [x0, x1] (v :: st) M) := zU_step dX8_sumOf_21 (Or.inl rfl)
theorem dX8_sumOf_24 : decode cX8_sumOf 24 = .ok (.goto 23, 3) := by decide +kernel
theorem rX8_sumOf_24 {R : zP} {x0 x1 : Option zV} {st : List zV} {M : zM} : uX8_sumOf R 24 [x0, x1] st M ↔ uX8_sumOf R 47 [x0, x1] st M := Iff.trans (zU_step dX8_sumOf_24 (Or.inl rfl)) ⟨fun h => h.2, fun h => ⟨by decide, h⟩⟩
theorem dX8_sumOf_27 : decode cX8_sumOf 27 = .ok (.iload_n 1, 1) := by decide +kernel
theorem rX8_sumOf_27 {R : zP} {x0 : Option zV} {st : List zV} {M : zM} {a : Int} : uX8_sumOf R 27 [x0, some (.inl a)] st M ↔ uX8_sumOf R 28 [x0, some (.inl a)] (.inl a :: st) M := zU_step dX8_sumOf_27 (Or.inl rfl)
theorem dX8_sumOf_28 : decode cX8_sumOf 28 = .ok (.iconst 5, 1) := by decide +kernel
theorem rX8_sumOf_28 {R : zP} {x0 x1 : Option zV} {st : List zV} {M : zM} : uX8_sumOf R 28 [x0, x1] st M ↔ uX8_sumOf R 29 [x0, x1] (.inl (5) :: st) M := zU_step dX8_sumOf_28 (Or.inl rfl)
theorem dX8_sumOf_29 : decode cX8_sumOf 29 = .ok (.if_icmp .ne 14, 3) := by decide +kernel
theorem rX8_sumOf_29 {R : zP} {x0 x1 : Option zV} {st : List zV} {M : zM} {a b : Int} : uX8_sumOf R 29 [x0, x1] (.inl b :: .inl a :: st) M ↔ ((zIR a ∧ zIR b) ∧ (a ≠ b → uX8_sumOf R 43 [x0, x1] st M) ∧ (¬ a ≠ b → uX8_sumOf R 32 [x0, x1] st M)) := Iff.trans (zU_step dX8_sumOf_29 (Or.inl rfl)) ⟨fun h => ⟨⟨h.1.1, h.1.2.1⟩, h.2⟩, fun h => ⟨⟨h.1.1, h.1.2, by decide⟩, h.2⟩⟩
theorem dX8_sumOf_32 : decode cX8_sumOf 32 = .ok (.aload_n 0, 1) := by decide +kernel
theorem rX8_sumOf_32 {R : zP} {x1 : Option zV} {st : List zV} {M : zM} {a : Nat} : uX8_sumOf R 32 [some (.inr (.inr a)), x1] st M ↔ uX8_sumOf R 33 [some (.inr (.inr a)), x1] (.inr (.inr a) :: st) M := zU_step dX8_sumOf_32 (Or.inl rfl)
theorem dX8_sumOf_33 : decode cX8_sumOf 33 = .ok (.aload_n 0, 1) := by decide +kernel
theorem rX8_sumOf_33 {R : zP} {x1 : Option zV} {st : List zV} {M : zM} {a : Nat} : uX8_sumOf R 33 [some (.inr (.inr a)), x1] st M ↔ uX8_sumOf R 34 [some (.inr (.inr a)), x1] (.inr (.inr a) :: st) M := zU_step dX8_sumOf_33 (Or.inl rfl)
theorem dX8_sumOf_34 : decode cX8_sumOf 34 = .ok (.invokevirtual 239, 3) := by decide +kernel
theorem rX8_sumOf_34 {R : zP} {x0 x1 : Option zV} {st : List zV} {M : zM} {a0 : zV} : uX8_sumOf R 34 [x0, x1] (a0 :: st) M ↔ (st.length ≤ 4 ∧ zcv (zv 8 tX8_weanedNow) [a0] M (fun v M => uX8_sumOf R 37 [x0, x1] (v :: st) M)) := Iff.trans (zU_step dX8_sumOf_34 (Or.inl rfl)) ⟨fun h => ⟨h.2.1, zcv_of h.2.2⟩, fun h => ⟨rfl, h.1, zcv_to h.2⟩⟩
theorem dX8_sumOf_37 : decode cX8_sumOf 37 = .ok (.invokevirtual 314, 3) := by decide +kernel
theorem rX8_sumOf_37 {R : zP} {x0 x1 : Option zV} {st : List zV} {M : zM} {a0 a1 : zV} : uX8_sumOf R 37 [x0, x1] (a1 :: a0 :: st) M ↔ (st.length ≤ 4 ∧ zcv (zv 8 tX8_ones) [a0, a1] M (fun v M => uX8_sumOf R 40 [x0, x1] (v :: st) M)) := Iff.trans (zU_step dX8_sumOf_37 (Or.inl rfl)) ⟨fun h => ⟨h.2.1, zcv_of h.2.2⟩, fun h => ⟨rfl, h.1, zcv_to h.2⟩⟩
theorem dX8_sumOf_40 : decode cX8_sumOf 40 = .ok (.goto 7, 3) := by decide +kernel
theorem rX8_sumOf_40 {R : zP} {x0 x1 : Option zV} {st : List zV} {M : zM} : uX8_sumOf R 40 [x0, x1] st M ↔ uX8_sumOf R 47 [x0, x1] st M := Iff.trans (zU_step dX8_sumOf_40 (Or.inl rfl)) ⟨fun h => h.2, fun h => ⟨by decide, h⟩⟩
theorem dX8_sumOf_43 : decode cX8_sumOf 43 = .ok (.aload_n 0, 1) := by decide +kernel
theorem rX8_sumOf_43 {R : zP} {x1 : Option zV} {st : List zV} {M : zM} {a : Nat} : uX8_sumOf R 43 [some (.inr (.inr a)), x1] st M ↔ uX8_sumOf R 44 [some (.inr (.inr a)), x1] (.inr (.inr a) :: st) M := zU_step dX8_sumOf_43 (Or.inl rfl)
theorem dX8_sumOf_44 : decode cX8_sumOf 44 = .ok (.invokevirtual 317, 3) := by decide +kernel
theorem rX8_sumOf_44 {R : zP} {x0 x1 : Option zV} {st : List zV} {M : zM} {a0 : zV} : uX8_sumOf R 44 [x0, x1] (a0 :: st) M ↔ (st.length ≤ 4 ∧ zcv (zv 8 tX8_sickAll) [a0] M (fun v M => uX8_sumOf R 47 [x0, x1] (v :: st) M)) := Iff.trans (zU_step dX8_sumOf_44 (Or.inl rfl)) ⟨fun h => ⟨h.2.1, zcv_of h.2.2⟩, fun h => ⟨rfl, h.1, zcv_to h.2⟩⟩
theorem dX8_sumOf_47 : decode cX8_sumOf 47 = .ok (.ireturn, 1) := by decide +kernel
theorem rX8_sumOf_47 {R : zP} {x0 x1 : Option zV} {M : zM} {a : Int} : uX8_sumOf R 47 [x0, x1] [.inl a] M ↔ R (some (.inl a)) M := Iff.trans (zU_step dX8_sumOf_47 (Or.inl rfl)) ⟨fun h => h.2.2, fun h => ⟨rfl, Or.inl rfl, h⟩⟩
theorem eX8_sumOf {R : zP} {M : zM} {a0 : Nat} {p0 : Int} : tX8_sumOf [.inr (.inr a0), .inl p0] M R ↔ uX8_sumOf R 0 [some (.inr (.inr a0)), some (.inl p0)] [] M := ⟨fun h => h.2, fun h => ⟨show 2 ≤ 2 by decide, h⟩⟩
def uX8_count (R : zP) : zK := zU fX8 vX8_count cX8_count R
theorem dX8_count_0 : decode cX8_count 0 = .ok (.iload_n 1, 1) := by decide +kernel
theorem rX8_count_0 {R : zP} {x0 : Option zV} {st : List zV} {M : zM} {a : Int} : uX8_count R 0 [x0, some (.inl a)] st M ↔ uX8_count R 1 [x0, some (.inl a)] (.inl a :: st) M := zU_step dX8_count_0 (Or.inl rfl)
theorem dX8_count_1 : decode cX8_count 1 = .ok (.tableswitch 81 0 8 #[51, 51, 57, 57, 66, 51, 51, 71, 76], 51) := by decide +kernel
theorem rX8_count_1 {R : zP} {x0 x1 : Option zV} {st : List zV} {M : zM} {a : Int} : uX8_count R 1 [x0, x1] (.inl a :: st) M ↔ (zIR a ∧ (a = 0 → uX8_count R 52 [x0, x1] st M) ∧ (a = 1 → uX8_count R 52 [x0, x1] st M) ∧ (a = 2 → uX8_count R 58 [x0, x1] st M) ∧ (a = 3 → uX8_count R 58 [x0, x1] st M) ∧ (a = 4 → uX8_count R 67 [x0, x1] st M) ∧ (a = 5 → uX8_count R 52 [x0, x1] st M) ∧ (a = 6 → uX8_count R 52 [x0, x1] st M) ∧ (a = 7 → uX8_count R 72 [x0, x1] st M) ∧ (a = 8 → uX8_count R 77 [x0, x1] st M) ∧ ((a < 0 ∨ 8 < a) → uX8_count R 82 [x0, x1] st M)) := by
  refine Iff.trans (zU_step dX8_count_1 (Or.inr rfl)) ?_
  constructor
  · intro h
    refine ⟨h.1, fun e => by subst e; exact h.2.2, fun e => by subst e; exact h.2.2, fun e => by subst e; exact h.2.2, fun e => by subst e; exact h.2.2, fun e => by subst e; exact h.2.2, fun e => by subst e; exact h.2.2, fun e => by subst e; exact h.2.2, fun e => by subst e; exact h.2.2, fun e => by subst e; exact h.2.2, fun e => ?_⟩
    have h2 := h.2
    simp only [zsw, if_pos e, zopt] at h2
    exact h2.2
  · intro h
    refine ⟨h.1, ?_⟩
    by_cases e : a < 0 ∨ 8 < a
    · simp only [zsw, if_pos e, zopt]
      exact ⟨by decide, h.2.2.2.2.2.2.2.2.2.2 e⟩
    · have e2 : a = 0 ∨ a = 1 ∨ a = 2 ∨ a = 3 ∨ a = 4 ∨ a = 5 ∨ a = 6 ∨ a = 7 ∨ a = 8 := by omega
      rcases e2 with e2 | e2 | e2 | e2 | e2 | e2 | e2 | e2 | e2
      · subst e2
        exact ⟨by decide, h.2.1 rfl⟩
      · subst e2
        exact ⟨by decide, h.2.2.1 rfl⟩
      · subst e2
        exact ⟨by decide, h.2.2.2.1 rfl⟩
      · subst e2
        exact ⟨by decide, h.2.2.2.2.1 rfl⟩
      · subst e2
        exact ⟨by decide, h.2.2.2.2.2.1 rfl⟩
      · subst e2
        exact ⟨by decide, h.2.2.2.2.2.2.1 rfl⟩
      · subst e2
        exact ⟨by decide, h.2.2.2.2.2.2.2.1 rfl⟩
      · subst e2
        exact ⟨by decide, h.2.2.2.2.2.2.2.2.1 rfl⟩
      · subst e2
        exact ⟨by decide, h.2.2.2.2.2.2.2.2.2.1 rfl⟩
theorem dX8_count_52 : decode cX8_count 52 = .ok (.aload_n 0, 1) := by decide +kernel
theorem rX8_count_52 {R : zP} {x1 : Option zV} {st : List zV} {M : zM} {a : Nat} : uX8_count R 52 [some (.inr (.inr a)), x1] st M ↔ uX8_count R 53 [some (.inr (.inr a)), x1] (.inr (.inr a) :: st) M := zU_step dX8_count_52 (Or.inl rfl)
theorem dX8_count_53 : decode cX8_count 53 = .ok (.iload_n 1, 1) := by decide +kernel
theorem rX8_count_53 {R : zP} {x0 : Option zV} {st : List zV} {M : zM} {a : Int} : uX8_count R 53 [x0, some (.inl a)] st M ↔ uX8_count R 54 [x0, some (.inl a)] (.inl a :: st) M := zU_step dX8_count_53 (Or.inl rfl)
theorem dX8_count_54 : decode cX8_count 54 = .ok (.invokevirtual 334, 3) := by decide +kernel
theorem rX8_count_54 {R : zP} {x0 x1 : Option zV} {st : List zV} {M : zM} {a0 a1 : zV} : uX8_count R 54 [x0, x1] (a1 :: a0 :: st) M ↔ (st.length ≤ 4 ∧ zcv (zv 8 tX8_sumOf) [a0, a1] M (fun v M => uX8_count R 57 [x0, x1] (v :: st) M)) := Iff.trans (zU_step dX8_count_54 (Or.inl rfl)) ⟨fun h => ⟨h.2.1, zcv_of h.2.2⟩, fun h => ⟨rfl, h.1, zcv_to h.2⟩⟩
theorem dX8_count_57 : decode cX8_count 57 = .ok (.ireturn, 1) := by decide +kernel
theorem rX8_count_57 {R : zP} {x0 x1 : Option zV} {M : zM} {a : Int} : uX8_count R 57 [x0, x1] [.inl a] M ↔ R (some (.inl a)) M := Iff.trans (zU_step dX8_count_57 (Or.inl rfl)) ⟨fun h => h.2.2, fun h => ⟨rfl, Or.inl rfl, h⟩⟩
theorem dX8_count_58 : decode cX8_count 58 = .ok (.aload_n 0, 1) := by decide +kernel
theorem rX8_count_58 {R : zP} {x1 : Option zV} {st : List zV} {M : zM} {a : Nat} : uX8_count R 58 [some (.inr (.inr a)), x1] st M ↔ uX8_count R 59 [some (.inr (.inr a)), x1] (.inr (.inr a) :: st) M := zU_step dX8_count_58 (Or.inl rfl)
theorem dX8_count_59 : decode cX8_count 59 = .ok (.getfield 7, 3) := by decide +kernel
theorem rX8_count_59 {R : zP} {x0 x1 : Option zV} {st : List zV} {M : zM} {r : Nat} : uX8_count R 59 [x0, x1] (.inr (.inr r) :: st) M ↔ zgetx fX8 7 r M (fun v => uX8_count R 62 [x0, x1] (v :: st) M) := zU_step dX8_count_59 (Or.inl rfl)
theorem dX8_count_62 : decode cX8_count 62 = .ok (.iload_n 1, 1) := by decide +kernel
theorem rX8_count_62 {R : zP} {x0 : Option zV} {st : List zV} {M : zM} {a : Int} : uX8_count R 62 [x0, some (.inl a)] st M ↔ uX8_count R 63 [x0, some (.inl a)] (.inl a :: st) M := zU_step dX8_count_62 (Or.inl rfl)
theorem dX8_count_63 : decode cX8_count 63 = .ok (.iconst 2, 1) := by decide +kernel
theorem rX8_count_63 {R : zP} {x0 x1 : Option zV} {st : List zV} {M : zM} : uX8_count R 63 [x0, x1] st M ↔ uX8_count R 64 [x0, x1] (.inl (2) :: st) M := zU_step dX8_count_63 (Or.inl rfl)
theorem dX8_count_64 : decode cX8_count 64 = .ok (.isub, 1) := by decide +kernel
theorem rX8_count_64 {R : zP} {x0 x1 : Option zV} {st : List zV} {M : zM} {a b : Int} : uX8_count R 64 [x0, x1] (.inl b :: .inl a :: st) M ↔ uX8_count R 65 [x0, x1] (.inl (a - b) :: st) M := zU_step dX8_count_64 (Or.inl rfl)
theorem dX8_count_65 : decode cX8_count 65 = .ok (.iaload, 1) := by decide +kernel
theorem rX8_count_65 {R : zP} {x0 x1 : Option zV} {st : List zV} {M : zM} {i : Int} {r : Nat} : uX8_count R 65 [x0, x1] (.inl i :: .inr (.inr r) :: st) M ↔ zread fX8 0 r M i (fun v => uX8_count R 66 [x0, x1] (.inl v :: st) M) := zU_step dX8_count_65 (Or.inl rfl)
theorem dX8_count_66 : decode cX8_count 66 = .ok (.ireturn, 1) := by decide +kernel
theorem rX8_count_66 {R : zP} {x0 x1 : Option zV} {M : zM} {a : Int} : uX8_count R 66 [x0, x1] [.inl a] M ↔ R (some (.inl a)) M := Iff.trans (zU_step dX8_count_66 (Or.inl rfl)) ⟨fun h => h.2.2, fun h => ⟨rfl, Or.inl rfl, h⟩⟩
theorem dX8_count_67 : decode cX8_count 67 = .ok (.aload_n 0, 1) := by decide +kernel
theorem rX8_count_67 {R : zP} {x1 : Option zV} {st : List zV} {M : zM} {a : Nat} : uX8_count R 67 [some (.inr (.inr a)), x1] st M ↔ uX8_count R 68 [some (.inr (.inr a)), x1] (.inr (.inr a) :: st) M := zU_step dX8_count_67 (Or.inl rfl)
theorem dX8_count_68 : decode cX8_count 68 = .ok (.getfield 166, 3) := by decide +kernel
theorem rX8_count_68 {R : zP} {x0 x1 : Option zV} {st : List zV} {M : zM} {r : Nat} : uX8_count R 68 [x0, x1] (.inr (.inr r) :: st) M ↔ zgetx fX8 166 r M (fun v => uX8_count R 71 [x0, x1] (v :: st) M) := zU_step dX8_count_68 (Or.inl rfl)
theorem dX8_count_71 : decode cX8_count 71 = .ok (.ireturn, 1) := by decide +kernel
theorem rX8_count_71 {R : zP} {x0 x1 : Option zV} {M : zM} {a : Int} : uX8_count R 71 [x0, x1] [.inl a] M ↔ R (some (.inl a)) M := Iff.trans (zU_step dX8_count_71 (Or.inl rfl)) ⟨fun h => h.2.2, fun h => ⟨rfl, Or.inl rfl, h⟩⟩
theorem dX8_count_72 : decode cX8_count 72 = .ok (.aload_n 0, 1) := by decide +kernel
theorem rX8_count_72 {R : zP} {x1 : Option zV} {st : List zV} {M : zM} {a : Nat} : uX8_count R 72 [some (.inr (.inr a)), x1] st M ↔ uX8_count R 73 [some (.inr (.inr a)), x1] (.inr (.inr a) :: st) M := zU_step dX8_count_72 (Or.inl rfl)
theorem dX8_count_73 : decode cX8_count 73 = .ok (.getfield 290, 3) := by decide +kernel
theorem rX8_count_73 {R : zP} {x0 x1 : Option zV} {st : List zV} {M : zM} {r : Nat} : uX8_count R 73 [x0, x1] (.inr (.inr r) :: st) M ↔ zgetx fX8 290 r M (fun v => uX8_count R 76 [x0, x1] (v :: st) M) := zU_step dX8_count_73 (Or.inl rfl)
theorem dX8_count_76 : decode cX8_count 76 = .ok (.ireturn, 1) := by decide +kernel
theorem rX8_count_76 {R : zP} {x0 x1 : Option zV} {M : zM} {a : Int} : uX8_count R 76 [x0, x1] [.inl a] M ↔ R (some (.inl a)) M := Iff.trans (zU_step dX8_count_76 (Or.inl rfl)) ⟨fun h => h.2.2, fun h => ⟨rfl, Or.inl rfl, h⟩⟩
theorem dX8_count_77 : decode cX8_count 77 = .ok (.aload_n 0, 1) := by decide +kernel
theorem rX8_count_77 {R : zP} {x1 : Option zV} {st : List zV} {M : zM} {a : Nat} : uX8_count R 77 [some (.inr (.inr a)), x1] st M ↔ uX8_count R 78 [some (.inr (.inr a)), x1] (.inr (.inr a) :: st) M := zU_step dX8_count_77 (Or.inl rfl)
theorem dX8_count_78 : decode cX8_count 78 = .ok (.getfield 323, 3) := by decide +kernel
theorem rX8_count_78 {R : zP} {x0 x1 : Option zV} {st : List zV} {M : zM} {r : Nat} : uX8_count R 78 [x0, x1] (.inr (.inr r) :: st) M ↔ zgetx fX8 323 r M (fun v => uX8_count R 81 [x0, x1] (v :: st) M) := zU_step dX8_count_78 (Or.inl rfl)
theorem dX8_count_81 : decode cX8_count 81 = .ok (.ireturn, 1) := by decide +kernel
theorem rX8_count_81 {R : zP} {x0 x1 : Option zV} {M : zM} {a : Int} : uX8_count R 81 [x0, x1] [.inl a] M ↔ R (some (.inl a)) M := Iff.trans (zU_step dX8_count_81 (Or.inl rfl)) ⟨fun h => h.2.2, fun h => ⟨rfl, Or.inl rfl, h⟩⟩
theorem dX8_count_82 : decode cX8_count 82 = .ok (.bipush (-2), 2) := by decide +kernel
theorem rX8_count_82 {R : zP} {x0 x1 : Option zV} {st : List zV} {M : zM} : uX8_count R 82 [x0, x1] st M ↔ uX8_count R 84 [x0, x1] (.inl (-2) :: st) M := Iff.trans (zU_step dX8_count_82 (Or.inl rfl)) ⟨fun h => h.2, fun h => ⟨by decide, h⟩⟩
theorem dX8_count_84 : decode cX8_count 84 = .ok (.ireturn, 1) := by decide +kernel
theorem rX8_count_84 {R : zP} {x0 x1 : Option zV} {M : zM} {a : Int} : uX8_count R 84 [x0, x1] [.inl a] M ↔ R (some (.inl a)) M := Iff.trans (zU_step dX8_count_84 (Or.inl rfl)) ⟨fun h => h.2.2, fun h => ⟨rfl, Or.inl rfl, h⟩⟩
theorem eX8_count {R : zP} {M : zM} {a0 : Nat} {p0 : Int} : tX8_count [.inr (.inr a0), .inl p0] M R ↔ uX8_count R 0 [some (.inr (.inr a0)), some (.inl p0)] [] M := ⟨fun h => h.2, fun h => ⟨show 2 ≤ 2 by decide, h⟩⟩
def uX8_ableDigest (R : zP) : zK := zU fX8 vX8_ableDigest cX8_ableDigest R
theorem dX8_ableDigest_0 : decode cX8_ableDigest 0 = .ok (.lload_n 1, 1) := by decide +kernel
theorem rX8_ableDigest_0 {R : zP} {x0 x2 x3 x4 x5 x6 x7 : Option zV} {st : List zV} {M : zM} {a : Int} : uX8_ableDigest R 0 [x0, some (.inr (.inl a)), x2, x3, x4, x5, x6, x7] st M ↔ uX8_ableDigest R 1 [x0, some (.inr (.inl a)), x2, x3, x4, x5, x6, x7] (.inr (.inl a) :: st) M := zU_step dX8_ableDigest_0 (Or.inl rfl)
theorem dX8_ableDigest_1 : decode cX8_ableDigest 1 = .ok (.lstore 5, 2) := by decide +kernel
theorem rX8_ableDigest_1 {R : zP} {x0 x1 x2 x3 x4 x5 x6 x7 : Option zV} {st : List zV} {M : zM} {a : Int} : uX8_ableDigest R 1 [x0, x1, x2, x3, x4, x5, x6, x7] (.inr (.inl a) :: st) M ↔ uX8_ableDigest R 3 [x0, x1, x2, x3, zkeep x4, some (.inr (.inl a)), none, x7] st M := Iff.trans (zU_step dX8_ableDigest_1 (Or.inl rfl)) ⟨fun h => h.2, fun h => ⟨show 5 + 1 < 8 by decide, h⟩⟩
theorem dX8_ableDigest_3 : decode cX8_ableDigest 3 = .ok (.iconst 0, 1) := by decide +kernel
theorem rX8_ableDigest_3 {R : zP} {x0 x1 x2 x3 x4 x5 x6 x7 : Option zV} {st : List zV} {M : zM} : uX8_ableDigest R 3 [x0, x1, x2, x3, x4, x5, x6, x7] st M ↔ uX8_ableDigest R 4 [x0, x1, x2, x3, x4, x5, x6, x7] (.inl (0) :: st) M := zU_step dX8_ableDigest_3 (Or.inl rfl)
theorem dX8_ableDigest_4 : decode cX8_ableDigest 4 = .ok (.istore 7, 2) := by decide +kernel
theorem rX8_ableDigest_4 {R : zP} {x0 x1 x2 x3 x4 x5 x6 x7 : Option zV} {st : List zV} {M : zM} {a : Int} : uX8_ableDigest R 4 [x0, x1, x2, x3, x4, x5, x6, x7] (.inl a :: st) M ↔ uX8_ableDigest R 6 [x0, x1, x2, x3, x4, x5, zkeep x6, some (.inl a)] st M := Iff.trans (zU_step dX8_ableDigest_4 (Or.inl rfl)) ⟨fun h => h.2, fun h => ⟨show 7 < 8 by decide, h⟩⟩
theorem dX8_ableDigest_6 : decode cX8_ableDigest 6 = .ok (.iload 7, 2) := by decide +kernel
theorem rX8_ableDigest_6 {R : zP} {x0 x1 x2 x3 x4 x5 x6 : Option zV} {st : List zV} {M : zM} {a : Int} : uX8_ableDigest R 6 [x0, x1, x2, x3, x4, x5, x6, some (.inl a)] st M ↔ uX8_ableDigest R 8 [x0, x1, x2, x3, x4, x5, x6, some (.inl a)] (.inl a :: st) M := zU_step dX8_ableDigest_6 (Or.inl rfl)
theorem dX8_ableDigest_8 : decode cX8_ableDigest 8 = .ok (.iconst 3, 1) := by decide +kernel
theorem rX8_ableDigest_8 {R : zP} {x0 x1 x2 x3 x4 x5 x6 x7 : Option zV} {st : List zV} {M : zM} : uX8_ableDigest R 8 [x0, x1, x2, x3, x4, x5, x6, x7] st M ↔ uX8_ableDigest R 9 [x0, x1, x2, x3, x4, x5, x6, x7] (.inl (3) :: st) M := zU_step dX8_ableDigest_8 (Or.inl rfl)
theorem dX8_ableDigest_9 : decode cX8_ableDigest 9 = .ok (.if_icmp .ge 28, 3) := by decide +kernel
theorem rX8_ableDigest_9 {R : zP} {x0 x1 x2 x3 x4 x5 x6 x7 : Option zV} {st : List zV} {M : zM} {a b : Int} : uX8_ableDigest R 9 [x0, x1, x2, x3, x4, x5, x6, x7] (.inl b :: .inl a :: st) M ↔ ((zIR a ∧ zIR b) ∧ (b ≤ a → uX8_ableDigest R 37 [x0, x1, x2, x3, x4, x5, x6, x7] st M) ∧ (¬ b ≤ a → uX8_ableDigest R 12 [x0, x1, x2, x3, x4, x5, x6, x7] st M)) := Iff.trans (zU_step dX8_ableDigest_9 (Or.inl rfl)) ⟨fun h => ⟨⟨h.1.1, h.1.2.1⟩, h.2⟩, fun h => ⟨⟨h.1.1, h.1.2, by decide⟩, h.2⟩⟩
theorem dX8_ableDigest_12 : decode cX8_ableDigest 12 = .ok (.ldc2_w 337, 3) := by decide +kernel
theorem rX8_ableDigest_12 {R : zP} {x0 x1 x2 x3 x4 x5 x6 x7 : Option zV} {st : List zV} {M : zM} : uX8_ableDigest R 12 [x0, x1, x2, x3, x4, x5, x6, x7] st M ↔ uX8_ableDigest R 15 [x0, x1, x2, x3, x4, x5, x6, x7] (.inr (.inl (31)) :: st) M := zU_step dX8_ableDigest_12 (Or.inl rfl)
theorem dX8_ableDigest_15 : decode cX8_ableDigest 15 = .ok (.lload 5, 2) := by decide +kernel
theorem rX8_ableDigest_15 {R : zP} {x0 x1 x2 x3 x4 x6 x7 : Option zV} {st : List zV} {M : zM} {a : Int} : uX8_ableDigest R 15 [x0, x1, x2, x3, x4, some (.inr (.inl a)), x6, x7] st M ↔ uX8_ableDigest R 17 [x0, x1, x2, x3, x4, some (.inr (.inl a)), x6, x7] (.inr (.inl a) :: st) M := zU_step dX8_ableDigest_15 (Or.inl rfl)
theorem dX8_ableDigest_17 : decode cX8_ableDigest 17 = .ok (.lmul, 1) := by decide +kernel
theorem rX8_ableDigest_17 {R : zP} {x0 x1 x2 x3 x4 x5 x6 x7 : Option zV} {st : List zV} {M : zM} {a b : Int} : uX8_ableDigest R 17 [x0, x1, x2, x3, x4, x5, x6, x7] (.inr (.inl b) :: .inr (.inl a) :: st) M ↔ uX8_ableDigest R 18 [x0, x1, x2, x3, x4, x5, x6, x7] (.inr (.inl (a * b)) :: st) M := zU_step dX8_ableDigest_17 (Or.inl rfl)
theorem dX8_ableDigest_18 : decode cX8_ableDigest 18 = .ok (.aload_n 0, 1) := by decide +kernel
theorem rX8_ableDigest_18 {R : zP} {x1 x2 x3 x4 x5 x6 x7 : Option zV} {st : List zV} {M : zM} {a : Nat} : uX8_ableDigest R 18 [some (.inr (.inr a)), x1, x2, x3, x4, x5, x6, x7] st M ↔ uX8_ableDigest R 19 [some (.inr (.inr a)), x1, x2, x3, x4, x5, x6, x7] (.inr (.inr a) :: st) M := zU_step dX8_ableDigest_18 (Or.inl rfl)
theorem dX8_ableDigest_19 : decode cX8_ableDigest 19 = .ok (.iload_n 3, 1) := by decide +kernel
theorem rX8_ableDigest_19 {R : zP} {x0 x1 x2 x4 x5 x6 x7 : Option zV} {st : List zV} {M : zM} {a : Int} : uX8_ableDigest R 19 [x0, x1, x2, some (.inl a), x4, x5, x6, x7] st M ↔ uX8_ableDigest R 20 [x0, x1, x2, some (.inl a), x4, x5, x6, x7] (.inl a :: st) M := zU_step dX8_ableDigest_19 (Or.inl rfl)
theorem dX8_ableDigest_20 : decode cX8_ableDigest 20 = .ok (.iload 4, 2) := by decide +kernel
theorem rX8_ableDigest_20 {R : zP} {x0 x1 x2 x3 x5 x6 x7 : Option zV} {st : List zV} {M : zM} {a : Int} : uX8_ableDigest R 20 [x0, x1, x2, x3, some (.inl a), x5, x6, x7] st M ↔ uX8_ableDigest R 22 [x0, x1, x2, x3, some (.inl a), x5, x6, x7] (.inl a :: st) M := zU_step dX8_ableDigest_20 (Or.inl rfl)
theorem dX8_ableDigest_22 : decode cX8_ableDigest 22 = .ok (.iload 7, 2) := by decide +kernel
theorem rX8_ableDigest_22 {R : zP} {x0 x1 x2 x3 x4 x5 x6 : Option zV} {st : List zV} {M : zM} {a : Int} : uX8_ableDigest R 22 [x0, x1, x2, x3, x4, x5, x6, some (.inl a)] st M ↔ uX8_ableDigest R 24 [x0, x1, x2, x3, x4, x5, x6, some (.inl a)] (.inl a :: st) M := zU_step dX8_ableDigest_22 (Or.inl rfl)
theorem dX8_ableDigest_24 : decode cX8_ableDigest 24 = .ok (.invokevirtual 218, 3) := by decide +kernel
theorem rX8_ableDigest_24 {R : zP} {x0 x1 x2 x3 x4 x5 x6 x7 : Option zV} {st : List zV} {M : zM} {a0 a1 a2 a3 : zV} : uX8_ableDigest R 24 [x0, x1, x2, x3, x4, x5, x6, x7] (a3 :: a2 :: a1 :: a0 :: st) M ↔ (st.length ≤ 4 ∧ zcv (zv 8 tX8_ableOf) [a0, a1, a2, a3] M (fun v M => uX8_ableDigest R 27 [x0, x1, x2, x3, x4, x5, x6, x7] (v :: st) M)) := Iff.trans (zU_step dX8_ableDigest_24 (Or.inl rfl)) ⟨fun h => ⟨h.2.1, zcv_of h.2.2⟩, fun h => ⟨rfl, h.1, zcv_to h.2⟩⟩
theorem dX8_ableDigest_27 : decode cX8_ableDigest 27 = .ok (.i2l, 1) := by decide +kernel
theorem rX8_ableDigest_27 {R : zP} {x0 x1 x2 x3 x4 x5 x6 x7 : Option zV} {st : List zV} {M : zM} {a : Int} : uX8_ableDigest R 27 [x0, x1, x2, x3, x4, x5, x6, x7] (.inl a :: st) M ↔ (zIR a ∧ uX8_ableDigest R 28 [x0, x1, x2, x3, x4, x5, x6, x7] (.inr (.inl a) :: st) M) := zU_step dX8_ableDigest_27 (Or.inl rfl)
theorem dX8_ableDigest_28 : decode cX8_ableDigest 28 = .ok (.ladd, 1) := by decide +kernel
theorem rX8_ableDigest_28 {R : zP} {x0 x1 x2 x3 x4 x5 x6 x7 : Option zV} {st : List zV} {M : zM} {a b : Int} : uX8_ableDigest R 28 [x0, x1, x2, x3, x4, x5, x6, x7] (.inr (.inl b) :: .inr (.inl a) :: st) M ↔ uX8_ableDigest R 29 [x0, x1, x2, x3, x4, x5, x6, x7] (.inr (.inl (a + b)) :: st) M := zU_step dX8_ableDigest_28 (Or.inl rfl)
theorem dX8_ableDigest_29 : decode cX8_ableDigest 29 = .ok (.lstore 5, 2) := by decide +kernel
theorem rX8_ableDigest_29 {R : zP} {x0 x1 x2 x3 x4 x5 x6 x7 : Option zV} {st : List zV} {M : zM} {a : Int} : uX8_ableDigest R 29 [x0, x1, x2, x3, x4, x5, x6, x7] (.inr (.inl a) :: st) M ↔ uX8_ableDigest R 31 [x0, x1, x2, x3, zkeep x4, some (.inr (.inl a)), none, x7] st M := Iff.trans (zU_step dX8_ableDigest_29 (Or.inl rfl)) ⟨fun h => h.2, fun h => ⟨show 5 + 1 < 8 by decide, h⟩⟩
theorem dX8_ableDigest_31 : decode cX8_ableDigest 31 = .ok (.iinc 7 1, 3) := by decide +kernel
theorem rX8_ableDigest_31 {R : zP} {x0 x1 x2 x3 x4 x5 x6 : Option zV} {st : List zV} {M : zM} {a : Int} : uX8_ableDigest R 31 [x0, x1, x2, x3, x4, x5, x6, some (.inl a)] st M ↔ uX8_ableDigest R 34 [x0, x1, x2, x3, x4, x5, zkeep x6, some (.inl (a + (1)))] st M := Iff.trans (zU_step dX8_ableDigest_31 (Or.inl rfl)) ⟨fun h => h.2, fun h => ⟨show 7 < 8 by decide, h⟩⟩
theorem dX8_ableDigest_34 : decode cX8_ableDigest 34 = .ok (.goto (-28), 3) := by decide +kernel
theorem rX8_ableDigest_34 {R : zP} {x0 x1 x2 x3 x4 x5 x6 x7 : Option zV} {st : List zV} {M : zM} : uX8_ableDigest R 34 [x0, x1, x2, x3, x4, x5, x6, x7] st M ↔ uX8_ableDigest R 6 [x0, x1, x2, x3, x4, x5, x6, x7] st M := Iff.trans (zU_step dX8_ableDigest_34 (Or.inl rfl)) ⟨fun h => h.2, fun h => ⟨by decide, h⟩⟩
theorem dX8_ableDigest_37 : decode cX8_ableDigest 37 = .ok (.lload 5, 2) := by decide +kernel
theorem rX8_ableDigest_37 {R : zP} {x0 x1 x2 x3 x4 x6 x7 : Option zV} {st : List zV} {M : zM} {a : Int} : uX8_ableDigest R 37 [x0, x1, x2, x3, x4, some (.inr (.inl a)), x6, x7] st M ↔ uX8_ableDigest R 39 [x0, x1, x2, x3, x4, some (.inr (.inl a)), x6, x7] (.inr (.inl a) :: st) M := zU_step dX8_ableDigest_37 (Or.inl rfl)
theorem dX8_ableDigest_39 : decode cX8_ableDigest 39 = .ok (.lreturn, 1) := by decide +kernel
theorem rX8_ableDigest_39 {R : zP} {x0 x1 x2 x3 x4 x5 x6 x7 : Option zV} {M : zM} {a : Int} : uX8_ableDigest R 39 [x0, x1, x2, x3, x4, x5, x6, x7] [.inr (.inl a)] M ↔ R (some (.inr (.inl a))) M := Iff.trans (zU_step dX8_ableDigest_39 (Or.inl rfl)) ⟨fun h => h.2.2, fun h => ⟨rfl, rfl, h⟩⟩
theorem eX8_ableDigest {R : zP} {M : zM} {a0 : Nat} {p0 : Int} {p1 : Int} {p2 : Int} : tX8_ableDigest [.inr (.inr a0), .inr (.inl p0), .inl p1, .inl p2] M R ↔ uX8_ableDigest R 0 [some (.inr (.inr a0)), some (.inr (.inl p0)), none, some (.inl p1), some (.inl p2), none, none, none] [] M := ⟨fun h => h.2, fun h => ⟨show 5 ≤ 8 by decide, h⟩⟩
def uX8_viewDigest (R : zP) : zK := zU fX8 vX8_viewDigest cX8_viewDigest R
theorem dX8_viewDigest_0 : decode cX8_viewDigest 0 = .ok (.lload_n 1, 1) := by decide +kernel
theorem rX8_viewDigest_0 {R : zP} {x0 x2 x3 x4 x5 x6 x7 : Option zV} {st : List zV} {M : zM} {a : Int} : uX8_viewDigest R 0 [x0, some (.inr (.inl a)), x2, x3, x4, x5, x6, x7] st M ↔ uX8_viewDigest R 1 [x0, some (.inr (.inl a)), x2, x3, x4, x5, x6, x7] (.inr (.inl a) :: st) M := zU_step dX8_viewDigest_0 (Or.inl rfl)
theorem dX8_viewDigest_1 : decode cX8_viewDigest 1 = .ok (.lstore 5, 2) := by decide +kernel
theorem rX8_viewDigest_1 {R : zP} {x0 x1 x2 x3 x4 x5 x6 x7 : Option zV} {st : List zV} {M : zM} {a : Int} : uX8_viewDigest R 1 [x0, x1, x2, x3, x4, x5, x6, x7] (.inr (.inl a) :: st) M ↔ uX8_viewDigest R 3 [x0, x1, x2, x3, zkeep x4, some (.inr (.inl a)), none, x7] st M := Iff.trans (zU_step dX8_viewDigest_1 (Or.inl rfl)) ⟨fun h => h.2, fun h => ⟨show 5 + 1 < 8 by decide, h⟩⟩
theorem dX8_viewDigest_3 : decode cX8_viewDigest 3 = .ok (.iconst 0, 1) := by decide +kernel
theorem rX8_viewDigest_3 {R : zP} {x0 x1 x2 x3 x4 x5 x6 x7 : Option zV} {st : List zV} {M : zM} : uX8_viewDigest R 3 [x0, x1, x2, x3, x4, x5, x6, x7] st M ↔ uX8_viewDigest R 4 [x0, x1, x2, x3, x4, x5, x6, x7] (.inl (0) :: st) M := zU_step dX8_viewDigest_3 (Or.inl rfl)
theorem dX8_viewDigest_4 : decode cX8_viewDigest 4 = .ok (.istore 7, 2) := by decide +kernel
theorem rX8_viewDigest_4 {R : zP} {x0 x1 x2 x3 x4 x5 x6 x7 : Option zV} {st : List zV} {M : zM} {a : Int} : uX8_viewDigest R 4 [x0, x1, x2, x3, x4, x5, x6, x7] (.inl a :: st) M ↔ uX8_viewDigest R 6 [x0, x1, x2, x3, x4, x5, zkeep x6, some (.inl a)] st M := Iff.trans (zU_step dX8_viewDigest_4 (Or.inl rfl)) ⟨fun h => h.2, fun h => ⟨show 7 < 8 by decide, h⟩⟩
theorem dX8_viewDigest_6 : decode cX8_viewDigest 6 = .ok (.iload 7, 2) := by decide +kernel
theorem rX8_viewDigest_6 {R : zP} {x0 x1 x2 x3 x4 x5 x6 : Option zV} {st : List zV} {M : zM} {a : Int} : uX8_viewDigest R 6 [x0, x1, x2, x3, x4, x5, x6, some (.inl a)] st M ↔ uX8_viewDigest R 8 [x0, x1, x2, x3, x4, x5, x6, some (.inl a)] (.inl a :: st) M := zU_step dX8_viewDigest_6 (Or.inl rfl)
theorem dX8_viewDigest_8 : decode cX8_viewDigest 8 = .ok (.iconst 4, 1) := by decide +kernel
theorem rX8_viewDigest_8 {R : zP} {x0 x1 x2 x3 x4 x5 x6 x7 : Option zV} {st : List zV} {M : zM} : uX8_viewDigest R 8 [x0, x1, x2, x3, x4, x5, x6, x7] st M ↔ uX8_viewDigest R 9 [x0, x1, x2, x3, x4, x5, x6, x7] (.inl (4) :: st) M := zU_step dX8_viewDigest_8 (Or.inl rfl)
theorem dX8_viewDigest_9 : decode cX8_viewDigest 9 = .ok (.if_icmp .ge 30, 3) := by decide +kernel
theorem rX8_viewDigest_9 {R : zP} {x0 x1 x2 x3 x4 x5 x6 x7 : Option zV} {st : List zV} {M : zM} {a b : Int} : uX8_viewDigest R 9 [x0, x1, x2, x3, x4, x5, x6, x7] (.inl b :: .inl a :: st) M ↔ ((zIR a ∧ zIR b) ∧ (b ≤ a → uX8_viewDigest R 39 [x0, x1, x2, x3, x4, x5, x6, x7] st M) ∧ (¬ b ≤ a → uX8_viewDigest R 12 [x0, x1, x2, x3, x4, x5, x6, x7] st M)) := Iff.trans (zU_step dX8_viewDigest_9 (Or.inl rfl)) ⟨fun h => ⟨⟨h.1.1, h.1.2.1⟩, h.2⟩, fun h => ⟨⟨h.1.1, h.1.2, by decide⟩, h.2⟩⟩
theorem dX8_viewDigest_12 : decode cX8_viewDigest 12 = .ok (.ldc2_w 337, 3) := by decide +kernel
theorem rX8_viewDigest_12 {R : zP} {x0 x1 x2 x3 x4 x5 x6 x7 : Option zV} {st : List zV} {M : zM} : uX8_viewDigest R 12 [x0, x1, x2, x3, x4, x5, x6, x7] st M ↔ uX8_viewDigest R 15 [x0, x1, x2, x3, x4, x5, x6, x7] (.inr (.inl (31)) :: st) M := zU_step dX8_viewDigest_12 (Or.inl rfl)
theorem dX8_viewDigest_15 : decode cX8_viewDigest 15 = .ok (.lload 5, 2) := by decide +kernel
theorem rX8_viewDigest_15 {R : zP} {x0 x1 x2 x3 x4 x6 x7 : Option zV} {st : List zV} {M : zM} {a : Int} : uX8_viewDigest R 15 [x0, x1, x2, x3, x4, some (.inr (.inl a)), x6, x7] st M ↔ uX8_viewDigest R 17 [x0, x1, x2, x3, x4, some (.inr (.inl a)), x6, x7] (.inr (.inl a) :: st) M := zU_step dX8_viewDigest_15 (Or.inl rfl)
theorem dX8_viewDigest_17 : decode cX8_viewDigest 17 = .ok (.lmul, 1) := by decide +kernel
theorem rX8_viewDigest_17 {R : zP} {x0 x1 x2 x3 x4 x5 x6 x7 : Option zV} {st : List zV} {M : zM} {a b : Int} : uX8_viewDigest R 17 [x0, x1, x2, x3, x4, x5, x6, x7] (.inr (.inl b) :: .inr (.inl a) :: st) M ↔ uX8_viewDigest R 18 [x0, x1, x2, x3, x4, x5, x6, x7] (.inr (.inl (a * b)) :: st) M := zU_step dX8_viewDigest_17 (Or.inl rfl)
theorem dX8_viewDigest_18 : decode cX8_viewDigest 18 = .ok (.aload_n 0, 1) := by decide +kernel
theorem rX8_viewDigest_18 {R : zP} {x1 x2 x3 x4 x5 x6 x7 : Option zV} {st : List zV} {M : zM} {a : Nat} : uX8_viewDigest R 18 [some (.inr (.inr a)), x1, x2, x3, x4, x5, x6, x7] st M ↔ uX8_viewDigest R 19 [some (.inr (.inr a)), x1, x2, x3, x4, x5, x6, x7] (.inr (.inr a) :: st) M := zU_step dX8_viewDigest_18 (Or.inl rfl)
theorem dX8_viewDigest_19 : decode cX8_viewDigest 19 = .ok (.bipush 6, 2) := by decide +kernel
theorem rX8_viewDigest_19 {R : zP} {x0 x1 x2 x3 x4 x5 x6 x7 : Option zV} {st : List zV} {M : zM} : uX8_viewDigest R 19 [x0, x1, x2, x3, x4, x5, x6, x7] st M ↔ uX8_viewDigest R 21 [x0, x1, x2, x3, x4, x5, x6, x7] (.inl (6) :: st) M := Iff.trans (zU_step dX8_viewDigest_19 (Or.inl rfl)) ⟨fun h => h.2, fun h => ⟨by decide, h⟩⟩
theorem dX8_viewDigest_21 : decode cX8_viewDigest 21 = .ok (.iload_n 3, 1) := by decide +kernel
theorem rX8_viewDigest_21 {R : zP} {x0 x1 x2 x4 x5 x6 x7 : Option zV} {st : List zV} {M : zM} {a : Int} : uX8_viewDigest R 21 [x0, x1, x2, some (.inl a), x4, x5, x6, x7] st M ↔ uX8_viewDigest R 22 [x0, x1, x2, some (.inl a), x4, x5, x6, x7] (.inl a :: st) M := zU_step dX8_viewDigest_21 (Or.inl rfl)
theorem dX8_viewDigest_22 : decode cX8_viewDigest 22 = .ok (.iload 4, 2) := by decide +kernel
theorem rX8_viewDigest_22 {R : zP} {x0 x1 x2 x3 x5 x6 x7 : Option zV} {st : List zV} {M : zM} {a : Int} : uX8_viewDigest R 22 [x0, x1, x2, x3, some (.inl a), x5, x6, x7] st M ↔ uX8_viewDigest R 24 [x0, x1, x2, x3, some (.inl a), x5, x6, x7] (.inl a :: st) M := zU_step dX8_viewDigest_22 (Or.inl rfl)
theorem dX8_viewDigest_24 : decode cX8_viewDigest 24 = .ok (.iload 7, 2) := by decide +kernel
theorem rX8_viewDigest_24 {R : zP} {x0 x1 x2 x3 x4 x5 x6 : Option zV} {st : List zV} {M : zM} {a : Int} : uX8_viewDigest R 24 [x0, x1, x2, x3, x4, x5, x6, some (.inl a)] st M ↔ uX8_viewDigest R 26 [x0, x1, x2, x3, x4, x5, x6, some (.inl a)] (.inl a :: st) M := zU_step dX8_viewDigest_24 (Or.inl rfl)
theorem dX8_viewDigest_26 : decode cX8_viewDigest 26 = .ok (.invokevirtual 211, 3) := by decide +kernel
theorem rX8_viewDigest_26 {R : zP} {x0 x1 x2 x3 x4 x5 x6 x7 : Option zV} {st : List zV} {M : zM} {a0 a1 a2 a3 a4 : zV} : uX8_viewDigest R 26 [x0, x1, x2, x3, x4, x5, x6, x7] (a4 :: a3 :: a2 :: a1 :: a0 :: st) M ↔ (st.length ≤ 4 ∧ zcv (zv 8 tX8_atOf) [a0, a1, a2, a3, a4] M (fun v M => uX8_viewDigest R 29 [x0, x1, x2, x3, x4, x5, x6, x7] (v :: st) M)) := Iff.trans (zU_step dX8_viewDigest_26 (Or.inl rfl)) ⟨fun h => ⟨h.2.1, zcv_of h.2.2⟩, fun h => ⟨rfl, h.1, zcv_to h.2⟩⟩
theorem dX8_viewDigest_29 : decode cX8_viewDigest 29 = .ok (.i2l, 1) := by decide +kernel
theorem rX8_viewDigest_29 {R : zP} {x0 x1 x2 x3 x4 x5 x6 x7 : Option zV} {st : List zV} {M : zM} {a : Int} : uX8_viewDigest R 29 [x0, x1, x2, x3, x4, x5, x6, x7] (.inl a :: st) M ↔ (zIR a ∧ uX8_viewDigest R 30 [x0, x1, x2, x3, x4, x5, x6, x7] (.inr (.inl a) :: st) M) := zU_step dX8_viewDigest_29 (Or.inl rfl)
theorem dX8_viewDigest_30 : decode cX8_viewDigest 30 = .ok (.ladd, 1) := by decide +kernel
theorem rX8_viewDigest_30 {R : zP} {x0 x1 x2 x3 x4 x5 x6 x7 : Option zV} {st : List zV} {M : zM} {a b : Int} : uX8_viewDigest R 30 [x0, x1, x2, x3, x4, x5, x6, x7] (.inr (.inl b) :: .inr (.inl a) :: st) M ↔ uX8_viewDigest R 31 [x0, x1, x2, x3, x4, x5, x6, x7] (.inr (.inl (a + b)) :: st) M := zU_step dX8_viewDigest_30 (Or.inl rfl)
theorem dX8_viewDigest_31 : decode cX8_viewDigest 31 = .ok (.lstore 5, 2) := by decide +kernel
theorem rX8_viewDigest_31 {R : zP} {x0 x1 x2 x3 x4 x5 x6 x7 : Option zV} {st : List zV} {M : zM} {a : Int} : uX8_viewDigest R 31 [x0, x1, x2, x3, x4, x5, x6, x7] (.inr (.inl a) :: st) M ↔ uX8_viewDigest R 33 [x0, x1, x2, x3, zkeep x4, some (.inr (.inl a)), none, x7] st M := Iff.trans (zU_step dX8_viewDigest_31 (Or.inl rfl)) ⟨fun h => h.2, fun h => ⟨show 5 + 1 < 8 by decide, h⟩⟩
theorem dX8_viewDigest_33 : decode cX8_viewDigest 33 = .ok (.iinc 7 1, 3) := by decide +kernel
theorem rX8_viewDigest_33 {R : zP} {x0 x1 x2 x3 x4 x5 x6 : Option zV} {st : List zV} {M : zM} {a : Int} : uX8_viewDigest R 33 [x0, x1, x2, x3, x4, x5, x6, some (.inl a)] st M ↔ uX8_viewDigest R 36 [x0, x1, x2, x3, x4, x5, zkeep x6, some (.inl (a + (1)))] st M := Iff.trans (zU_step dX8_viewDigest_33 (Or.inl rfl)) ⟨fun h => h.2, fun h => ⟨show 7 < 8 by decide, h⟩⟩
theorem dX8_viewDigest_36 : decode cX8_viewDigest 36 = .ok (.goto (-30), 3) := by decide +kernel
theorem rX8_viewDigest_36 {R : zP} {x0 x1 x2 x3 x4 x5 x6 x7 : Option zV} {st : List zV} {M : zM} : uX8_viewDigest R 36 [x0, x1, x2, x3, x4, x5, x6, x7] st M ↔ uX8_viewDigest R 6 [x0, x1, x2, x3, x4, x5, x6, x7] st M := Iff.trans (zU_step dX8_viewDigest_36 (Or.inl rfl)) ⟨fun h => h.2, fun h => ⟨by decide, h⟩⟩
theorem dX8_viewDigest_39 : decode cX8_viewDigest 39 = .ok (.iconst 0, 1) := by decide +kernel
theorem rX8_viewDigest_39 {R : zP} {x0 x1 x2 x3 x4 x5 x6 x7 : Option zV} {st : List zV} {M : zM} : uX8_viewDigest R 39 [x0, x1, x2, x3, x4, x5, x6, x7] st M ↔ uX8_viewDigest R 40 [x0, x1, x2, x3, x4, x5, x6, x7] (.inl (0) :: st) M := zU_step dX8_viewDigest_39 (Or.inl rfl)
theorem dX8_viewDigest_40 : decode cX8_viewDigest 40 = .ok (.istore 7, 2) := by decide +kernel
theorem rX8_viewDigest_40 {R : zP} {x0 x1 x2 x3 x4 x5 x6 x7 : Option zV} {st : List zV} {M : zM} {a : Int} : uX8_viewDigest R 40 [x0, x1, x2, x3, x4, x5, x6, x7] (.inl a :: st) M ↔ uX8_viewDigest R 42 [x0, x1, x2, x3, x4, x5, zkeep x6, some (.inl a)] st M := Iff.trans (zU_step dX8_viewDigest_40 (Or.inl rfl)) ⟨fun h => h.2, fun h => ⟨show 7 < 8 by decide, h⟩⟩
theorem dX8_viewDigest_42 : decode cX8_viewDigest 42 = .ok (.iload 7, 2) := by decide +kernel
theorem rX8_viewDigest_42 {R : zP} {x0 x1 x2 x3 x4 x5 x6 : Option zV} {st : List zV} {M : zM} {a : Int} : uX8_viewDigest R 42 [x0, x1, x2, x3, x4, x5, x6, some (.inl a)] st M ↔ uX8_viewDigest R 44 [x0, x1, x2, x3, x4, x5, x6, some (.inl a)] (.inl a :: st) M := zU_step dX8_viewDigest_42 (Or.inl rfl)
theorem dX8_viewDigest_44 : decode cX8_viewDigest 44 = .ok (.iconst 4, 1) := by decide +kernel
theorem rX8_viewDigest_44 {R : zP} {x0 x1 x2 x3 x4 x5 x6 x7 : Option zV} {st : List zV} {M : zM} : uX8_viewDigest R 44 [x0, x1, x2, x3, x4, x5, x6, x7] st M ↔ uX8_viewDigest R 45 [x0, x1, x2, x3, x4, x5, x6, x7] (.inl (4) :: st) M := zU_step dX8_viewDigest_44 (Or.inl rfl)
theorem dX8_viewDigest_45 : decode cX8_viewDigest 45 = .ok (.if_icmp .ge 30, 3) := by decide +kernel
theorem rX8_viewDigest_45 {R : zP} {x0 x1 x2 x3 x4 x5 x6 x7 : Option zV} {st : List zV} {M : zM} {a b : Int} : uX8_viewDigest R 45 [x0, x1, x2, x3, x4, x5, x6, x7] (.inl b :: .inl a :: st) M ↔ ((zIR a ∧ zIR b) ∧ (b ≤ a → uX8_viewDigest R 75 [x0, x1, x2, x3, x4, x5, x6, x7] st M) ∧ (¬ b ≤ a → uX8_viewDigest R 48 [x0, x1, x2, x3, x4, x5, x6, x7] st M)) := Iff.trans (zU_step dX8_viewDigest_45 (Or.inl rfl)) ⟨fun h => ⟨⟨h.1.1, h.1.2.1⟩, h.2⟩, fun h => ⟨⟨h.1.1, h.1.2, by decide⟩, h.2⟩⟩
theorem dX8_viewDigest_48 : decode cX8_viewDigest 48 = .ok (.ldc2_w 337, 3) := by decide +kernel
theorem rX8_viewDigest_48 {R : zP} {x0 x1 x2 x3 x4 x5 x6 x7 : Option zV} {st : List zV} {M : zM} : uX8_viewDigest R 48 [x0, x1, x2, x3, x4, x5, x6, x7] st M ↔ uX8_viewDigest R 51 [x0, x1, x2, x3, x4, x5, x6, x7] (.inr (.inl (31)) :: st) M := zU_step dX8_viewDigest_48 (Or.inl rfl)
theorem dX8_viewDigest_51 : decode cX8_viewDigest 51 = .ok (.lload 5, 2) := by decide +kernel
theorem rX8_viewDigest_51 {R : zP} {x0 x1 x2 x3 x4 x6 x7 : Option zV} {st : List zV} {M : zM} {a : Int} : uX8_viewDigest R 51 [x0, x1, x2, x3, x4, some (.inr (.inl a)), x6, x7] st M ↔ uX8_viewDigest R 53 [x0, x1, x2, x3, x4, some (.inr (.inl a)), x6, x7] (.inr (.inl a) :: st) M := zU_step dX8_viewDigest_51 (Or.inl rfl)
theorem dX8_viewDigest_53 : decode cX8_viewDigest 53 = .ok (.lmul, 1) := by decide +kernel
theorem rX8_viewDigest_53 {R : zP} {x0 x1 x2 x3 x4 x5 x6 x7 : Option zV} {st : List zV} {M : zM} {a b : Int} : uX8_viewDigest R 53 [x0, x1, x2, x3, x4, x5, x6, x7] (.inr (.inl b) :: .inr (.inl a) :: st) M ↔ uX8_viewDigest R 54 [x0, x1, x2, x3, x4, x5, x6, x7] (.inr (.inl (a * b)) :: st) M := zU_step dX8_viewDigest_53 (Or.inl rfl)
theorem dX8_viewDigest_54 : decode cX8_viewDigest 54 = .ok (.aload_n 0, 1) := by decide +kernel
theorem rX8_viewDigest_54 {R : zP} {x1 x2 x3 x4 x5 x6 x7 : Option zV} {st : List zV} {M : zM} {a : Nat} : uX8_viewDigest R 54 [some (.inr (.inr a)), x1, x2, x3, x4, x5, x6, x7] st M ↔ uX8_viewDigest R 55 [some (.inr (.inr a)), x1, x2, x3, x4, x5, x6, x7] (.inr (.inr a) :: st) M := zU_step dX8_viewDigest_54 (Or.inl rfl)
theorem dX8_viewDigest_55 : decode cX8_viewDigest 55 = .ok (.bipush 19, 2) := by decide +kernel
theorem rX8_viewDigest_55 {R : zP} {x0 x1 x2 x3 x4 x5 x6 x7 : Option zV} {st : List zV} {M : zM} : uX8_viewDigest R 55 [x0, x1, x2, x3, x4, x5, x6, x7] st M ↔ uX8_viewDigest R 57 [x0, x1, x2, x3, x4, x5, x6, x7] (.inl (19) :: st) M := Iff.trans (zU_step dX8_viewDigest_55 (Or.inl rfl)) ⟨fun h => h.2, fun h => ⟨by decide, h⟩⟩
theorem dX8_viewDigest_57 : decode cX8_viewDigest 57 = .ok (.iload_n 3, 1) := by decide +kernel
theorem rX8_viewDigest_57 {R : zP} {x0 x1 x2 x4 x5 x6 x7 : Option zV} {st : List zV} {M : zM} {a : Int} : uX8_viewDigest R 57 [x0, x1, x2, some (.inl a), x4, x5, x6, x7] st M ↔ uX8_viewDigest R 58 [x0, x1, x2, some (.inl a), x4, x5, x6, x7] (.inl a :: st) M := zU_step dX8_viewDigest_57 (Or.inl rfl)
theorem dX8_viewDigest_58 : decode cX8_viewDigest 58 = .ok (.iload 4, 2) := by decide +kernel
theorem rX8_viewDigest_58 {R : zP} {x0 x1 x2 x3 x5 x6 x7 : Option zV} {st : List zV} {M : zM} {a : Int} : uX8_viewDigest R 58 [x0, x1, x2, x3, some (.inl a), x5, x6, x7] st M ↔ uX8_viewDigest R 60 [x0, x1, x2, x3, some (.inl a), x5, x6, x7] (.inl a :: st) M := zU_step dX8_viewDigest_58 (Or.inl rfl)
theorem dX8_viewDigest_60 : decode cX8_viewDigest 60 = .ok (.iload 7, 2) := by decide +kernel
theorem rX8_viewDigest_60 {R : zP} {x0 x1 x2 x3 x4 x5 x6 : Option zV} {st : List zV} {M : zM} {a : Int} : uX8_viewDigest R 60 [x0, x1, x2, x3, x4, x5, x6, some (.inl a)] st M ↔ uX8_viewDigest R 62 [x0, x1, x2, x3, x4, x5, x6, some (.inl a)] (.inl a :: st) M := zU_step dX8_viewDigest_60 (Or.inl rfl)
theorem dX8_viewDigest_62 : decode cX8_viewDigest 62 = .ok (.invokevirtual 211, 3) := by decide +kernel
theorem rX8_viewDigest_62 {R : zP} {x0 x1 x2 x3 x4 x5 x6 x7 : Option zV} {st : List zV} {M : zM} {a0 a1 a2 a3 a4 : zV} : uX8_viewDigest R 62 [x0, x1, x2, x3, x4, x5, x6, x7] (a4 :: a3 :: a2 :: a1 :: a0 :: st) M ↔ (st.length ≤ 4 ∧ zcv (zv 8 tX8_atOf) [a0, a1, a2, a3, a4] M (fun v M => uX8_viewDigest R 65 [x0, x1, x2, x3, x4, x5, x6, x7] (v :: st) M)) := Iff.trans (zU_step dX8_viewDigest_62 (Or.inl rfl)) ⟨fun h => ⟨h.2.1, zcv_of h.2.2⟩, fun h => ⟨rfl, h.1, zcv_to h.2⟩⟩
theorem dX8_viewDigest_65 : decode cX8_viewDigest 65 = .ok (.i2l, 1) := by decide +kernel
theorem rX8_viewDigest_65 {R : zP} {x0 x1 x2 x3 x4 x5 x6 x7 : Option zV} {st : List zV} {M : zM} {a : Int} : uX8_viewDigest R 65 [x0, x1, x2, x3, x4, x5, x6, x7] (.inl a :: st) M ↔ (zIR a ∧ uX8_viewDigest R 66 [x0, x1, x2, x3, x4, x5, x6, x7] (.inr (.inl a) :: st) M) := zU_step dX8_viewDigest_65 (Or.inl rfl)
theorem dX8_viewDigest_66 : decode cX8_viewDigest 66 = .ok (.ladd, 1) := by decide +kernel
theorem rX8_viewDigest_66 {R : zP} {x0 x1 x2 x3 x4 x5 x6 x7 : Option zV} {st : List zV} {M : zM} {a b : Int} : uX8_viewDigest R 66 [x0, x1, x2, x3, x4, x5, x6, x7] (.inr (.inl b) :: .inr (.inl a) :: st) M ↔ uX8_viewDigest R 67 [x0, x1, x2, x3, x4, x5, x6, x7] (.inr (.inl (a + b)) :: st) M := zU_step dX8_viewDigest_66 (Or.inl rfl)
theorem dX8_viewDigest_67 : decode cX8_viewDigest 67 = .ok (.lstore 5, 2) := by decide +kernel
theorem rX8_viewDigest_67 {R : zP} {x0 x1 x2 x3 x4 x5 x6 x7 : Option zV} {st : List zV} {M : zM} {a : Int} : uX8_viewDigest R 67 [x0, x1, x2, x3, x4, x5, x6, x7] (.inr (.inl a) :: st) M ↔ uX8_viewDigest R 69 [x0, x1, x2, x3, zkeep x4, some (.inr (.inl a)), none, x7] st M := Iff.trans (zU_step dX8_viewDigest_67 (Or.inl rfl)) ⟨fun h => h.2, fun h => ⟨show 5 + 1 < 8 by decide, h⟩⟩
theorem dX8_viewDigest_69 : decode cX8_viewDigest 69 = .ok (.iinc 7 1, 3) := by decide +kernel
theorem rX8_viewDigest_69 {R : zP} {x0 x1 x2 x3 x4 x5 x6 : Option zV} {st : List zV} {M : zM} {a : Int} : uX8_viewDigest R 69 [x0, x1, x2, x3, x4, x5, x6, some (.inl a)] st M ↔ uX8_viewDigest R 72 [x0, x1, x2, x3, x4, x5, zkeep x6, some (.inl (a + (1)))] st M := Iff.trans (zU_step dX8_viewDigest_69 (Or.inl rfl)) ⟨fun h => h.2, fun h => ⟨show 7 < 8 by decide, h⟩⟩
theorem dX8_viewDigest_72 : decode cX8_viewDigest 72 = .ok (.goto (-30), 3) := by decide +kernel
theorem rX8_viewDigest_72 {R : zP} {x0 x1 x2 x3 x4 x5 x6 x7 : Option zV} {st : List zV} {M : zM} : uX8_viewDigest R 72 [x0, x1, x2, x3, x4, x5, x6, x7] st M ↔ uX8_viewDigest R 42 [x0, x1, x2, x3, x4, x5, x6, x7] st M := Iff.trans (zU_step dX8_viewDigest_72 (Or.inl rfl)) ⟨fun h => h.2, fun h => ⟨by decide, h⟩⟩
theorem dX8_viewDigest_75 : decode cX8_viewDigest 75 = .ok (.ldc2_w 337, 3) := by decide +kernel
theorem rX8_viewDigest_75 {R : zP} {x0 x1 x2 x3 x4 x5 x6 x7 : Option zV} {st : List zV} {M : zM} : uX8_viewDigest R 75 [x0, x1, x2, x3, x4, x5, x6, x7] st M ↔ uX8_viewDigest R 78 [x0, x1, x2, x3, x4, x5, x6, x7] (.inr (.inl (31)) :: st) M := zU_step dX8_viewDigest_75 (Or.inl rfl)
theorem dX8_viewDigest_78 : decode cX8_viewDigest 78 = .ok (.lload 5, 2) := by decide +kernel
theorem rX8_viewDigest_78 {R : zP} {x0 x1 x2 x3 x4 x6 x7 : Option zV} {st : List zV} {M : zM} {a : Int} : uX8_viewDigest R 78 [x0, x1, x2, x3, x4, some (.inr (.inl a)), x6, x7] st M ↔ uX8_viewDigest R 80 [x0, x1, x2, x3, x4, some (.inr (.inl a)), x6, x7] (.inr (.inl a) :: st) M := zU_step dX8_viewDigest_78 (Or.inl rfl)
theorem dX8_viewDigest_80 : decode cX8_viewDigest 80 = .ok (.lmul, 1) := by decide +kernel
theorem rX8_viewDigest_80 {R : zP} {x0 x1 x2 x3 x4 x5 x6 x7 : Option zV} {st : List zV} {M : zM} {a b : Int} : uX8_viewDigest R 80 [x0, x1, x2, x3, x4, x5, x6, x7] (.inr (.inl b) :: .inr (.inl a) :: st) M ↔ uX8_viewDigest R 81 [x0, x1, x2, x3, x4, x5, x6, x7] (.inr (.inl (a * b)) :: st) M := zU_step dX8_viewDigest_80 (Or.inl rfl)
theorem dX8_viewDigest_81 : decode cX8_viewDigest 81 = .ok (.aload_n 0, 1) := by decide +kernel
theorem rX8_viewDigest_81 {R : zP} {x1 x2 x3 x4 x5 x6 x7 : Option zV} {st : List zV} {M : zM} {a : Nat} : uX8_viewDigest R 81 [some (.inr (.inr a)), x1, x2, x3, x4, x5, x6, x7] st M ↔ uX8_viewDigest R 82 [some (.inr (.inr a)), x1, x2, x3, x4, x5, x6, x7] (.inr (.inr a) :: st) M := zU_step dX8_viewDigest_81 (Or.inl rfl)
theorem dX8_viewDigest_82 : decode cX8_viewDigest 82 = .ok (.iload_n 3, 1) := by decide +kernel
theorem rX8_viewDigest_82 {R : zP} {x0 x1 x2 x4 x5 x6 x7 : Option zV} {st : List zV} {M : zM} {a : Int} : uX8_viewDigest R 82 [x0, x1, x2, some (.inl a), x4, x5, x6, x7] st M ↔ uX8_viewDigest R 83 [x0, x1, x2, some (.inl a), x4, x5, x6, x7] (.inl a :: st) M := zU_step dX8_viewDigest_82 (Or.inl rfl)
theorem dX8_viewDigest_83 : decode cX8_viewDigest 83 = .ok (.iload 4, 2) := by decide +kernel
theorem rX8_viewDigest_83 {R : zP} {x0 x1 x2 x3 x5 x6 x7 : Option zV} {st : List zV} {M : zM} {a : Int} : uX8_viewDigest R 83 [x0, x1, x2, x3, some (.inl a), x5, x6, x7] st M ↔ uX8_viewDigest R 85 [x0, x1, x2, x3, some (.inl a), x5, x6, x7] (.inl a :: st) M := zU_step dX8_viewDigest_83 (Or.inl rfl)
theorem dX8_viewDigest_85 : decode cX8_viewDigest 85 = .ok (.iconst 0, 1) := by decide +kernel
theorem rX8_viewDigest_85 {R : zP} {x0 x1 x2 x3 x4 x5 x6 x7 : Option zV} {st : List zV} {M : zM} : uX8_viewDigest R 85 [x0, x1, x2, x3, x4, x5, x6, x7] st M ↔ uX8_viewDigest R 86 [x0, x1, x2, x3, x4, x5, x6, x7] (.inl (0) :: st) M := zU_step dX8_viewDigest_85 (Or.inl rfl)
theorem dX8_viewDigest_86 : decode cX8_viewDigest 86 = .ok (.invokevirtual 260, 3) := by decide +kernel
theorem rX8_viewDigest_86 {R : zP} {x0 x1 x2 x3 x4 x5 x6 x7 : Option zV} {st : List zV} {M : zM} {a0 a1 a2 a3 : zV} : uX8_viewDigest R 86 [x0, x1, x2, x3, x4, x5, x6, x7] (a3 :: a2 :: a1 :: a0 :: st) M ↔ (st.length ≤ 4 ∧ zcv (zv 8 tX8_powerOf) [a0, a1, a2, a3] M (fun v M => uX8_viewDigest R 89 [x0, x1, x2, x3, x4, x5, x6, x7] (v :: st) M)) := Iff.trans (zU_step dX8_viewDigest_86 (Or.inl rfl)) ⟨fun h => ⟨h.2.1, zcv_of h.2.2⟩, fun h => ⟨rfl, h.1, zcv_to h.2⟩⟩
theorem dX8_viewDigest_89 : decode cX8_viewDigest 89 = .ok (.ladd, 1) := by decide +kernel
theorem rX8_viewDigest_89 {R : zP} {x0 x1 x2 x3 x4 x5 x6 x7 : Option zV} {st : List zV} {M : zM} {a b : Int} : uX8_viewDigest R 89 [x0, x1, x2, x3, x4, x5, x6, x7] (.inr (.inl b) :: .inr (.inl a) :: st) M ↔ uX8_viewDigest R 90 [x0, x1, x2, x3, x4, x5, x6, x7] (.inr (.inl (a + b)) :: st) M := zU_step dX8_viewDigest_89 (Or.inl rfl)
theorem dX8_viewDigest_90 : decode cX8_viewDigest 90 = .ok (.lstore 5, 2) := by decide +kernel
theorem rX8_viewDigest_90 {R : zP} {x0 x1 x2 x3 x4 x5 x6 x7 : Option zV} {st : List zV} {M : zM} {a : Int} : uX8_viewDigest R 90 [x0, x1, x2, x3, x4, x5, x6, x7] (.inr (.inl a) :: st) M ↔ uX8_viewDigest R 92 [x0, x1, x2, x3, zkeep x4, some (.inr (.inl a)), none, x7] st M := Iff.trans (zU_step dX8_viewDigest_90 (Or.inl rfl)) ⟨fun h => h.2, fun h => ⟨show 5 + 1 < 8 by decide, h⟩⟩
theorem dX8_viewDigest_92 : decode cX8_viewDigest 92 = .ok (.ldc2_w 337, 3) := by decide +kernel
theorem rX8_viewDigest_92 {R : zP} {x0 x1 x2 x3 x4 x5 x6 x7 : Option zV} {st : List zV} {M : zM} : uX8_viewDigest R 92 [x0, x1, x2, x3, x4, x5, x6, x7] st M ↔ uX8_viewDigest R 95 [x0, x1, x2, x3, x4, x5, x6, x7] (.inr (.inl (31)) :: st) M := zU_step dX8_viewDigest_92 (Or.inl rfl)
theorem dX8_viewDigest_95 : decode cX8_viewDigest 95 = .ok (.lload 5, 2) := by decide +kernel
theorem rX8_viewDigest_95 {R : zP} {x0 x1 x2 x3 x4 x6 x7 : Option zV} {st : List zV} {M : zM} {a : Int} : uX8_viewDigest R 95 [x0, x1, x2, x3, x4, some (.inr (.inl a)), x6, x7] st M ↔ uX8_viewDigest R 97 [x0, x1, x2, x3, x4, some (.inr (.inl a)), x6, x7] (.inr (.inl a) :: st) M := zU_step dX8_viewDigest_95 (Or.inl rfl)
theorem dX8_viewDigest_97 : decode cX8_viewDigest 97 = .ok (.lmul, 1) := by decide +kernel
theorem rX8_viewDigest_97 {R : zP} {x0 x1 x2 x3 x4 x5 x6 x7 : Option zV} {st : List zV} {M : zM} {a b : Int} : uX8_viewDigest R 97 [x0, x1, x2, x3, x4, x5, x6, x7] (.inr (.inl b) :: .inr (.inl a) :: st) M ↔ uX8_viewDigest R 98 [x0, x1, x2, x3, x4, x5, x6, x7] (.inr (.inl (a * b)) :: st) M := zU_step dX8_viewDigest_97 (Or.inl rfl)
theorem dX8_viewDigest_98 : decode cX8_viewDigest 98 = .ok (.aload_n 0, 1) := by decide +kernel
theorem rX8_viewDigest_98 {R : zP} {x1 x2 x3 x4 x5 x6 x7 : Option zV} {st : List zV} {M : zM} {a : Nat} : uX8_viewDigest R 98 [some (.inr (.inr a)), x1, x2, x3, x4, x5, x6, x7] st M ↔ uX8_viewDigest R 99 [some (.inr (.inr a)), x1, x2, x3, x4, x5, x6, x7] (.inr (.inr a) :: st) M := zU_step dX8_viewDigest_98 (Or.inl rfl)
theorem dX8_viewDigest_99 : decode cX8_viewDigest 99 = .ok (.iload_n 3, 1) := by decide +kernel
theorem rX8_viewDigest_99 {R : zP} {x0 x1 x2 x4 x5 x6 x7 : Option zV} {st : List zV} {M : zM} {a : Int} : uX8_viewDigest R 99 [x0, x1, x2, some (.inl a), x4, x5, x6, x7] st M ↔ uX8_viewDigest R 100 [x0, x1, x2, some (.inl a), x4, x5, x6, x7] (.inl a :: st) M := zU_step dX8_viewDigest_99 (Or.inl rfl)
theorem dX8_viewDigest_100 : decode cX8_viewDigest 100 = .ok (.iload 4, 2) := by decide +kernel
theorem rX8_viewDigest_100 {R : zP} {x0 x1 x2 x3 x5 x6 x7 : Option zV} {st : List zV} {M : zM} {a : Int} : uX8_viewDigest R 100 [x0, x1, x2, x3, some (.inl a), x5, x6, x7] st M ↔ uX8_viewDigest R 102 [x0, x1, x2, x3, some (.inl a), x5, x6, x7] (.inl a :: st) M := zU_step dX8_viewDigest_100 (Or.inl rfl)
theorem dX8_viewDigest_102 : decode cX8_viewDigest 102 = .ok (.iconst 1, 1) := by decide +kernel
theorem rX8_viewDigest_102 {R : zP} {x0 x1 x2 x3 x4 x5 x6 x7 : Option zV} {st : List zV} {M : zM} : uX8_viewDigest R 102 [x0, x1, x2, x3, x4, x5, x6, x7] st M ↔ uX8_viewDigest R 103 [x0, x1, x2, x3, x4, x5, x6, x7] (.inl (1) :: st) M := zU_step dX8_viewDigest_102 (Or.inl rfl)
theorem dX8_viewDigest_103 : decode cX8_viewDigest 103 = .ok (.invokevirtual 260, 3) := by decide +kernel
theorem rX8_viewDigest_103 {R : zP} {x0 x1 x2 x3 x4 x5 x6 x7 : Option zV} {st : List zV} {M : zM} {a0 a1 a2 a3 : zV} : uX8_viewDigest R 103 [x0, x1, x2, x3, x4, x5, x6, x7] (a3 :: a2 :: a1 :: a0 :: st) M ↔ (st.length ≤ 4 ∧ zcv (zv 8 tX8_powerOf) [a0, a1, a2, a3] M (fun v M => uX8_viewDigest R 106 [x0, x1, x2, x3, x4, x5, x6, x7] (v :: st) M)) := Iff.trans (zU_step dX8_viewDigest_103 (Or.inl rfl)) ⟨fun h => ⟨h.2.1, zcv_of h.2.2⟩, fun h => ⟨rfl, h.1, zcv_to h.2⟩⟩
theorem dX8_viewDigest_106 : decode cX8_viewDigest 106 = .ok (.ladd, 1) := by decide +kernel
theorem rX8_viewDigest_106 {R : zP} {x0 x1 x2 x3 x4 x5 x6 x7 : Option zV} {st : List zV} {M : zM} {a b : Int} : uX8_viewDigest R 106 [x0, x1, x2, x3, x4, x5, x6, x7] (.inr (.inl b) :: .inr (.inl a) :: st) M ↔ uX8_viewDigest R 107 [x0, x1, x2, x3, x4, x5, x6, x7] (.inr (.inl (a + b)) :: st) M := zU_step dX8_viewDigest_106 (Or.inl rfl)
theorem dX8_viewDigest_107 : decode cX8_viewDigest 107 = .ok (.lstore 5, 2) := by decide +kernel
theorem rX8_viewDigest_107 {R : zP} {x0 x1 x2 x3 x4 x5 x6 x7 : Option zV} {st : List zV} {M : zM} {a : Int} : uX8_viewDigest R 107 [x0, x1, x2, x3, x4, x5, x6, x7] (.inr (.inl a) :: st) M ↔ uX8_viewDigest R 109 [x0, x1, x2, x3, zkeep x4, some (.inr (.inl a)), none, x7] st M := Iff.trans (zU_step dX8_viewDigest_107 (Or.inl rfl)) ⟨fun h => h.2, fun h => ⟨show 5 + 1 < 8 by decide, h⟩⟩
theorem dX8_viewDigest_109 : decode cX8_viewDigest 109 = .ok (.aload_n 0, 1) := by decide +kernel
theorem rX8_viewDigest_109 {R : zP} {x1 x2 x3 x4 x5 x6 x7 : Option zV} {st : List zV} {M : zM} {a : Nat} : uX8_viewDigest R 109 [some (.inr (.inr a)), x1, x2, x3, x4, x5, x6, x7] st M ↔ uX8_viewDigest R 110 [some (.inr (.inr a)), x1, x2, x3, x4, x5, x6, x7] (.inr (.inr a) :: st) M := zU_step dX8_viewDigest_109 (Or.inl rfl)
theorem dX8_viewDigest_110 : decode cX8_viewDigest 110 = .ok (.iload_n 3, 1) := by decide +kernel
theorem rX8_viewDigest_110 {R : zP} {x0 x1 x2 x4 x5 x6 x7 : Option zV} {st : List zV} {M : zM} {a : Int} : uX8_viewDigest R 110 [x0, x1, x2, some (.inl a), x4, x5, x6, x7] st M ↔ uX8_viewDigest R 111 [x0, x1, x2, some (.inl a), x4, x5, x6, x7] (.inl a :: st) M := zU_step dX8_viewDigest_110 (Or.inl rfl)
theorem dX8_viewDigest_111 : decode cX8_viewDigest 111 = .ok (.iload 4, 2) := by decide +kernel
theorem rX8_viewDigest_111 {R : zP} {x0 x1 x2 x3 x5 x6 x7 : Option zV} {st : List zV} {M : zM} {a : Int} : uX8_viewDigest R 111 [x0, x1, x2, x3, some (.inl a), x5, x6, x7] st M ↔ uX8_viewDigest R 113 [x0, x1, x2, x3, some (.inl a), x5, x6, x7] (.inl a :: st) M := zU_step dX8_viewDigest_111 (Or.inl rfl)
theorem dX8_viewDigest_113 : decode cX8_viewDigest 113 = .ok (.bipush 9, 2) := by decide +kernel
theorem rX8_viewDigest_113 {R : zP} {x0 x1 x2 x3 x4 x5 x6 x7 : Option zV} {st : List zV} {M : zM} : uX8_viewDigest R 113 [x0, x1, x2, x3, x4, x5, x6, x7] st M ↔ uX8_viewDigest R 115 [x0, x1, x2, x3, x4, x5, x6, x7] (.inl (9) :: st) M := Iff.trans (zU_step dX8_viewDigest_113 (Or.inl rfl)) ⟨fun h => h.2, fun h => ⟨by decide, h⟩⟩
theorem dX8_viewDigest_115 : decode cX8_viewDigest 115 = .ok (.invokevirtual 275, 3) := by decide +kernel
theorem rX8_viewDigest_115 {R : zP} {x0 x1 x2 x3 x4 x5 x6 x7 : Option zV} {st : List zV} {M : zM} {a0 a1 a2 a3 : zV} : uX8_viewDigest R 115 [x0, x1, x2, x3, x4, x5, x6, x7] (a3 :: a2 :: a1 :: a0 :: st) M ↔ (st.length ≤ 4 ∧ zcv (zv 8 tX8_rearBy) [a0, a1, a2, a3] M (fun v M => uX8_viewDigest R 118 [x0, x1, x2, x3, x4, x5, x6, x7] (v :: st) M)) := Iff.trans (zU_step dX8_viewDigest_115 (Or.inl rfl)) ⟨fun h => ⟨h.2.1, zcv_of h.2.2⟩, fun h => ⟨rfl, h.1, zcv_to h.2⟩⟩
theorem dX8_viewDigest_118 : decode cX8_viewDigest 118 = .ok (.istore 7, 2) := by decide +kernel
theorem rX8_viewDigest_118 {R : zP} {x0 x1 x2 x3 x4 x5 x6 x7 : Option zV} {st : List zV} {M : zM} {a : Int} : uX8_viewDigest R 118 [x0, x1, x2, x3, x4, x5, x6, x7] (.inl a :: st) M ↔ uX8_viewDigest R 120 [x0, x1, x2, x3, x4, x5, zkeep x6, some (.inl a)] st M := Iff.trans (zU_step dX8_viewDigest_118 (Or.inl rfl)) ⟨fun h => h.2, fun h => ⟨show 7 < 8 by decide, h⟩⟩
theorem dX8_viewDigest_120 : decode cX8_viewDigest 120 = .ok (.ldc2_w 337, 3) := by decide +kernel
theorem rX8_viewDigest_120 {R : zP} {x0 x1 x2 x3 x4 x5 x6 x7 : Option zV} {st : List zV} {M : zM} : uX8_viewDigest R 120 [x0, x1, x2, x3, x4, x5, x6, x7] st M ↔ uX8_viewDigest R 123 [x0, x1, x2, x3, x4, x5, x6, x7] (.inr (.inl (31)) :: st) M := zU_step dX8_viewDigest_120 (Or.inl rfl)
theorem dX8_viewDigest_123 : decode cX8_viewDigest 123 = .ok (.lload 5, 2) := by decide +kernel
theorem rX8_viewDigest_123 {R : zP} {x0 x1 x2 x3 x4 x6 x7 : Option zV} {st : List zV} {M : zM} {a : Int} : uX8_viewDigest R 123 [x0, x1, x2, x3, x4, some (.inr (.inl a)), x6, x7] st M ↔ uX8_viewDigest R 125 [x0, x1, x2, x3, x4, some (.inr (.inl a)), x6, x7] (.inr (.inl a) :: st) M := zU_step dX8_viewDigest_123 (Or.inl rfl)
theorem dX8_viewDigest_125 : decode cX8_viewDigest 125 = .ok (.lmul, 1) := by decide +kernel
theorem rX8_viewDigest_125 {R : zP} {x0 x1 x2 x3 x4 x5 x6 x7 : Option zV} {st : List zV} {M : zM} {a b : Int} : uX8_viewDigest R 125 [x0, x1, x2, x3, x4, x5, x6, x7] (.inr (.inl b) :: .inr (.inl a) :: st) M ↔ uX8_viewDigest R 126 [x0, x1, x2, x3, x4, x5, x6, x7] (.inr (.inl (a * b)) :: st) M := zU_step dX8_viewDigest_125 (Or.inl rfl)
theorem dX8_viewDigest_126 : decode cX8_viewDigest 126 = .ok (.iload 7, 2) := by decide +kernel
theorem rX8_viewDigest_126 {R : zP} {x0 x1 x2 x3 x4 x5 x6 : Option zV} {st : List zV} {M : zM} {a : Int} : uX8_viewDigest R 126 [x0, x1, x2, x3, x4, x5, x6, some (.inl a)] st M ↔ uX8_viewDigest R 128 [x0, x1, x2, x3, x4, x5, x6, some (.inl a)] (.inl a :: st) M := zU_step dX8_viewDigest_126 (Or.inl rfl)
theorem dX8_viewDigest_128 : decode cX8_viewDigest 128 = .ok (.i2l, 1) := by decide +kernel
theorem rX8_viewDigest_128 {R : zP} {x0 x1 x2 x3 x4 x5 x6 x7 : Option zV} {st : List zV} {M : zM} {a : Int} : uX8_viewDigest R 128 [x0, x1, x2, x3, x4, x5, x6, x7] (.inl a :: st) M ↔ (zIR a ∧ uX8_viewDigest R 129 [x0, x1, x2, x3, x4, x5, x6, x7] (.inr (.inl a) :: st) M) := zU_step dX8_viewDigest_128 (Or.inl rfl)
theorem dX8_viewDigest_129 : decode cX8_viewDigest 129 = .ok (.ladd, 1) := by decide +kernel
theorem rX8_viewDigest_129 {R : zP} {x0 x1 x2 x3 x4 x5 x6 x7 : Option zV} {st : List zV} {M : zM} {a b : Int} : uX8_viewDigest R 129 [x0, x1, x2, x3, x4, x5, x6, x7] (.inr (.inl b) :: .inr (.inl a) :: st) M ↔ uX8_viewDigest R 130 [x0, x1, x2, x3, x4, x5, x6, x7] (.inr (.inl (a + b)) :: st) M := zU_step dX8_viewDigest_129 (Or.inl rfl)
theorem dX8_viewDigest_130 : decode cX8_viewDigest 130 = .ok (.lstore 5, 2) := by decide +kernel
theorem rX8_viewDigest_130 {R : zP} {x0 x1 x2 x3 x4 x5 x6 x7 : Option zV} {st : List zV} {M : zM} {a : Int} : uX8_viewDigest R 130 [x0, x1, x2, x3, x4, x5, x6, x7] (.inr (.inl a) :: st) M ↔ uX8_viewDigest R 132 [x0, x1, x2, x3, zkeep x4, some (.inr (.inl a)), none, x7] st M := Iff.trans (zU_step dX8_viewDigest_130 (Or.inl rfl)) ⟨fun h => h.2, fun h => ⟨show 5 + 1 < 8 by decide, h⟩⟩
theorem dX8_viewDigest_132 : decode cX8_viewDigest 132 = .ok (.ldc2_w 337, 3) := by decide +kernel
theorem rX8_viewDigest_132 {R : zP} {x0 x1 x2 x3 x4 x5 x6 x7 : Option zV} {st : List zV} {M : zM} : uX8_viewDigest R 132 [x0, x1, x2, x3, x4, x5, x6, x7] st M ↔ uX8_viewDigest R 135 [x0, x1, x2, x3, x4, x5, x6, x7] (.inr (.inl (31)) :: st) M := zU_step dX8_viewDigest_132 (Or.inl rfl)
theorem dX8_viewDigest_135 : decode cX8_viewDigest 135 = .ok (.lload 5, 2) := by decide +kernel
theorem rX8_viewDigest_135 {R : zP} {x0 x1 x2 x3 x4 x6 x7 : Option zV} {st : List zV} {M : zM} {a : Int} : uX8_viewDigest R 135 [x0, x1, x2, x3, x4, some (.inr (.inl a)), x6, x7] st M ↔ uX8_viewDigest R 137 [x0, x1, x2, x3, x4, some (.inr (.inl a)), x6, x7] (.inr (.inl a) :: st) M := zU_step dX8_viewDigest_135 (Or.inl rfl)
theorem dX8_viewDigest_137 : decode cX8_viewDigest 137 = .ok (.lmul, 1) := by decide +kernel
theorem rX8_viewDigest_137 {R : zP} {x0 x1 x2 x3 x4 x5 x6 x7 : Option zV} {st : List zV} {M : zM} {a b : Int} : uX8_viewDigest R 137 [x0, x1, x2, x3, x4, x5, x6, x7] (.inr (.inl b) :: .inr (.inl a) :: st) M ↔ uX8_viewDigest R 138 [x0, x1, x2, x3, x4, x5, x6, x7] (.inr (.inl (a * b)) :: st) M := zU_step dX8_viewDigest_137 (Or.inl rfl)
theorem dX8_viewDigest_138 : decode cX8_viewDigest 138 = .ok (.aload_n 0, 1) := by decide +kernel
theorem rX8_viewDigest_138 {R : zP} {x1 x2 x3 x4 x5 x6 x7 : Option zV} {st : List zV} {M : zM} {a : Nat} : uX8_viewDigest R 138 [some (.inr (.inr a)), x1, x2, x3, x4, x5, x6, x7] st M ↔ uX8_viewDigest R 139 [some (.inr (.inr a)), x1, x2, x3, x4, x5, x6, x7] (.inr (.inr a) :: st) M := zU_step dX8_viewDigest_138 (Or.inl rfl)
theorem dX8_viewDigest_139 : decode cX8_viewDigest 139 = .ok (.iload 7, 2) := by decide +kernel
theorem rX8_viewDigest_139 {R : zP} {x0 x1 x2 x3 x4 x5 x6 : Option zV} {st : List zV} {M : zM} {a : Int} : uX8_viewDigest R 139 [x0, x1, x2, x3, x4, x5, x6, some (.inl a)] st M ↔ uX8_viewDigest R 141 [x0, x1, x2, x3, x4, x5, x6, some (.inl a)] (.inl a :: st) M := zU_step dX8_viewDigest_139 (Or.inl rfl)
theorem dX8_viewDigest_141 : decode cX8_viewDigest 141 = .ok (.iconst 0, 1) := by decide +kernel
theorem rX8_viewDigest_141 {R : zP} {x0 x1 x2 x3 x4 x5 x6 x7 : Option zV} {st : List zV} {M : zM} : uX8_viewDigest R 141 [x0, x1, x2, x3, x4, x5, x6, x7] st M ↔ uX8_viewDigest R 142 [x0, x1, x2, x3, x4, x5, x6, x7] (.inl (0) :: st) M := zU_step dX8_viewDigest_141 (Or.inl rfl)
theorem dX8_viewDigest_142 : decode cX8_viewDigest 142 = .ok (.invokevirtual 278, 3) := by decide +kernel
theorem rX8_viewDigest_142 {R : zP} {x0 x1 x2 x3 x4 x5 x6 x7 : Option zV} {st : List zV} {M : zM} {a0 a1 a2 : zV} : uX8_viewDigest R 142 [x0, x1, x2, x3, x4, x5, x6, x7] (a2 :: a1 :: a0 :: st) M ↔ (st.length ≤ 4 ∧ zcv (zv 8 tX8_ofRow) [a0, a1, a2] M (fun v M => uX8_viewDigest R 145 [x0, x1, x2, x3, x4, x5, x6, x7] (v :: st) M)) := Iff.trans (zU_step dX8_viewDigest_142 (Or.inl rfl)) ⟨fun h => ⟨h.2.1, zcv_of h.2.2⟩, fun h => ⟨rfl, h.1, zcv_to h.2⟩⟩
theorem dX8_viewDigest_145 : decode cX8_viewDigest 145 = .ok (.i2l, 1) := by decide +kernel
theorem rX8_viewDigest_145 {R : zP} {x0 x1 x2 x3 x4 x5 x6 x7 : Option zV} {st : List zV} {M : zM} {a : Int} : uX8_viewDigest R 145 [x0, x1, x2, x3, x4, x5, x6, x7] (.inl a :: st) M ↔ (zIR a ∧ uX8_viewDigest R 146 [x0, x1, x2, x3, x4, x5, x6, x7] (.inr (.inl a) :: st) M) := zU_step dX8_viewDigest_145 (Or.inl rfl)
theorem dX8_viewDigest_146 : decode cX8_viewDigest 146 = .ok (.ladd, 1) := by decide +kernel
theorem rX8_viewDigest_146 {R : zP} {x0 x1 x2 x3 x4 x5 x6 x7 : Option zV} {st : List zV} {M : zM} {a b : Int} : uX8_viewDigest R 146 [x0, x1, x2, x3, x4, x5, x6, x7] (.inr (.inl b) :: .inr (.inl a) :: st) M ↔ uX8_viewDigest R 147 [x0, x1, x2, x3, x4, x5, x6, x7] (.inr (.inl (a + b)) :: st) M := zU_step dX8_viewDigest_146 (Or.inl rfl)
theorem dX8_viewDigest_147 : decode cX8_viewDigest 147 = .ok (.lstore 5, 2) := by decide +kernel
theorem rX8_viewDigest_147 {R : zP} {x0 x1 x2 x3 x4 x5 x6 x7 : Option zV} {st : List zV} {M : zM} {a : Int} : uX8_viewDigest R 147 [x0, x1, x2, x3, x4, x5, x6, x7] (.inr (.inl a) :: st) M ↔ uX8_viewDigest R 149 [x0, x1, x2, x3, zkeep x4, some (.inr (.inl a)), none, x7] st M := Iff.trans (zU_step dX8_viewDigest_147 (Or.inl rfl)) ⟨fun h => h.2, fun h => ⟨show 5 + 1 < 8 by decide, h⟩⟩
theorem dX8_viewDigest_149 : decode cX8_viewDigest 149 = .ok (.ldc2_w 337, 3) := by decide +kernel
theorem rX8_viewDigest_149 {R : zP} {x0 x1 x2 x3 x4 x5 x6 x7 : Option zV} {st : List zV} {M : zM} : uX8_viewDigest R 149 [x0, x1, x2, x3, x4, x5, x6, x7] st M ↔ uX8_viewDigest R 152 [x0, x1, x2, x3, x4, x5, x6, x7] (.inr (.inl (31)) :: st) M := zU_step dX8_viewDigest_149 (Or.inl rfl)
theorem dX8_viewDigest_152 : decode cX8_viewDigest 152 = .ok (.lload 5, 2) := by decide +kernel
theorem rX8_viewDigest_152 {R : zP} {x0 x1 x2 x3 x4 x6 x7 : Option zV} {st : List zV} {M : zM} {a : Int} : uX8_viewDigest R 152 [x0, x1, x2, x3, x4, some (.inr (.inl a)), x6, x7] st M ↔ uX8_viewDigest R 154 [x0, x1, x2, x3, x4, some (.inr (.inl a)), x6, x7] (.inr (.inl a) :: st) M := zU_step dX8_viewDigest_152 (Or.inl rfl)
theorem dX8_viewDigest_154 : decode cX8_viewDigest 154 = .ok (.lmul, 1) := by decide +kernel
theorem rX8_viewDigest_154 {R : zP} {x0 x1 x2 x3 x4 x5 x6 x7 : Option zV} {st : List zV} {M : zM} {a b : Int} : uX8_viewDigest R 154 [x0, x1, x2, x3, x4, x5, x6, x7] (.inr (.inl b) :: .inr (.inl a) :: st) M ↔ uX8_viewDigest R 155 [x0, x1, x2, x3, x4, x5, x6, x7] (.inr (.inl (a * b)) :: st) M := zU_step dX8_viewDigest_154 (Or.inl rfl)
theorem dX8_viewDigest_155 : decode cX8_viewDigest 155 = .ok (.aload_n 0, 1) := by decide +kernel
theorem rX8_viewDigest_155 {R : zP} {x1 x2 x3 x4 x5 x6 x7 : Option zV} {st : List zV} {M : zM} {a : Nat} : uX8_viewDigest R 155 [some (.inr (.inr a)), x1, x2, x3, x4, x5, x6, x7] st M ↔ uX8_viewDigest R 156 [some (.inr (.inr a)), x1, x2, x3, x4, x5, x6, x7] (.inr (.inr a) :: st) M := zU_step dX8_viewDigest_155 (Or.inl rfl)
theorem dX8_viewDigest_156 : decode cX8_viewDigest 156 = .ok (.iload_n 3, 1) := by decide +kernel
theorem rX8_viewDigest_156 {R : zP} {x0 x1 x2 x4 x5 x6 x7 : Option zV} {st : List zV} {M : zM} {a : Int} : uX8_viewDigest R 156 [x0, x1, x2, some (.inl a), x4, x5, x6, x7] st M ↔ uX8_viewDigest R 157 [x0, x1, x2, some (.inl a), x4, x5, x6, x7] (.inl a :: st) M := zU_step dX8_viewDigest_156 (Or.inl rfl)
theorem dX8_viewDigest_157 : decode cX8_viewDigest 157 = .ok (.iload 4, 2) := by decide +kernel
theorem rX8_viewDigest_157 {R : zP} {x0 x1 x2 x3 x5 x6 x7 : Option zV} {st : List zV} {M : zM} {a : Int} : uX8_viewDigest R 157 [x0, x1, x2, x3, some (.inl a), x5, x6, x7] st M ↔ uX8_viewDigest R 159 [x0, x1, x2, x3, some (.inl a), x5, x6, x7] (.inl a :: st) M := zU_step dX8_viewDigest_157 (Or.inl rfl)
theorem dX8_viewDigest_159 : decode cX8_viewDigest 159 = .ok (.invokevirtual 303, 3) := by decide +kernel
theorem rX8_viewDigest_159 {R : zP} {x0 x1 x2 x3 x4 x5 x6 x7 : Option zV} {st : List zV} {M : zM} {a0 a1 a2 : zV} : uX8_viewDigest R 159 [x0, x1, x2, x3, x4, x5, x6, x7] (a2 :: a1 :: a0 :: st) M ↔ (st.length ≤ 4 ∧ zcv (zv 8 tX8_firstBy) [a0, a1, a2] M (fun v M => uX8_viewDigest R 162 [x0, x1, x2, x3, x4, x5, x6, x7] (v :: st) M)) := Iff.trans (zU_step dX8_viewDigest_159 (Or.inl rfl)) ⟨fun h => ⟨h.2.1, zcv_of h.2.2⟩, fun h => ⟨rfl, h.1, zcv_to h.2⟩⟩
theorem dX8_viewDigest_162 : decode cX8_viewDigest 162 = .ok (.i2l, 1) := by decide +kernel
theorem rX8_viewDigest_162 {R : zP} {x0 x1 x2 x3 x4 x5 x6 x7 : Option zV} {st : List zV} {M : zM} {a : Int} : uX8_viewDigest R 162 [x0, x1, x2, x3, x4, x5, x6, x7] (.inl a :: st) M ↔ (zIR a ∧ uX8_viewDigest R 163 [x0, x1, x2, x3, x4, x5, x6, x7] (.inr (.inl a) :: st) M) := zU_step dX8_viewDigest_162 (Or.inl rfl)
theorem dX8_viewDigest_163 : decode cX8_viewDigest 163 = .ok (.ladd, 1) := by decide +kernel
theorem rX8_viewDigest_163 {R : zP} {x0 x1 x2 x3 x4 x5 x6 x7 : Option zV} {st : List zV} {M : zM} {a b : Int} : uX8_viewDigest R 163 [x0, x1, x2, x3, x4, x5, x6, x7] (.inr (.inl b) :: .inr (.inl a) :: st) M ↔ uX8_viewDigest R 164 [x0, x1, x2, x3, x4, x5, x6, x7] (.inr (.inl (a + b)) :: st) M := zU_step dX8_viewDigest_163 (Or.inl rfl)
theorem dX8_viewDigest_164 : decode cX8_viewDigest 164 = .ok (.lstore 5, 2) := by decide +kernel
theorem rX8_viewDigest_164 {R : zP} {x0 x1 x2 x3 x4 x5 x6 x7 : Option zV} {st : List zV} {M : zM} {a : Int} : uX8_viewDigest R 164 [x0, x1, x2, x3, x4, x5, x6, x7] (.inr (.inl a) :: st) M ↔ uX8_viewDigest R 166 [x0, x1, x2, x3, zkeep x4, some (.inr (.inl a)), none, x7] st M := Iff.trans (zU_step dX8_viewDigest_164 (Or.inl rfl)) ⟨fun h => h.2, fun h => ⟨show 5 + 1 < 8 by decide, h⟩⟩
theorem dX8_viewDigest_166 : decode cX8_viewDigest 166 = .ok (.ldc2_w 337, 3) := by decide +kernel
theorem rX8_viewDigest_166 {R : zP} {x0 x1 x2 x3 x4 x5 x6 x7 : Option zV} {st : List zV} {M : zM} : uX8_viewDigest R 166 [x0, x1, x2, x3, x4, x5, x6, x7] st M ↔ uX8_viewDigest R 169 [x0, x1, x2, x3, x4, x5, x6, x7] (.inr (.inl (31)) :: st) M := zU_step dX8_viewDigest_166 (Or.inl rfl)
theorem dX8_viewDigest_169 : decode cX8_viewDigest 169 = .ok (.lload 5, 2) := by decide +kernel
theorem rX8_viewDigest_169 {R : zP} {x0 x1 x2 x3 x4 x6 x7 : Option zV} {st : List zV} {M : zM} {a : Int} : uX8_viewDigest R 169 [x0, x1, x2, x3, x4, some (.inr (.inl a)), x6, x7] st M ↔ uX8_viewDigest R 171 [x0, x1, x2, x3, x4, some (.inr (.inl a)), x6, x7] (.inr (.inl a) :: st) M := zU_step dX8_viewDigest_169 (Or.inl rfl)
theorem dX8_viewDigest_171 : decode cX8_viewDigest 171 = .ok (.lmul, 1) := by decide +kernel
theorem rX8_viewDigest_171 {R : zP} {x0 x1 x2 x3 x4 x5 x6 x7 : Option zV} {st : List zV} {M : zM} {a b : Int} : uX8_viewDigest R 171 [x0, x1, x2, x3, x4, x5, x6, x7] (.inr (.inl b) :: .inr (.inl a) :: st) M ↔ uX8_viewDigest R 172 [x0, x1, x2, x3, x4, x5, x6, x7] (.inr (.inl (a * b)) :: st) M := zU_step dX8_viewDigest_171 (Or.inl rfl)
theorem dX8_viewDigest_172 : decode cX8_viewDigest 172 = .ok (.aload_n 0, 1) := by decide +kernel
theorem rX8_viewDigest_172 {R : zP} {x1 x2 x3 x4 x5 x6 x7 : Option zV} {st : List zV} {M : zM} {a : Nat} : uX8_viewDigest R 172 [some (.inr (.inr a)), x1, x2, x3, x4, x5, x6, x7] st M ↔ uX8_viewDigest R 173 [some (.inr (.inr a)), x1, x2, x3, x4, x5, x6, x7] (.inr (.inr a) :: st) M := zU_step dX8_viewDigest_172 (Or.inl rfl)
theorem dX8_viewDigest_173 : decode cX8_viewDigest 173 = .ok (.iload_n 3, 1) := by decide +kernel
theorem rX8_viewDigest_173 {R : zP} {x0 x1 x2 x4 x5 x6 x7 : Option zV} {st : List zV} {M : zM} {a : Int} : uX8_viewDigest R 173 [x0, x1, x2, some (.inl a), x4, x5, x6, x7] st M ↔ uX8_viewDigest R 174 [x0, x1, x2, some (.inl a), x4, x5, x6, x7] (.inl a :: st) M := zU_step dX8_viewDigest_173 (Or.inl rfl)
theorem dX8_viewDigest_174 : decode cX8_viewDigest 174 = .ok (.iload 4, 2) := by decide +kernel
theorem rX8_viewDigest_174 {R : zP} {x0 x1 x2 x3 x5 x6 x7 : Option zV} {st : List zV} {M : zM} {a : Int} : uX8_viewDigest R 174 [x0, x1, x2, x3, some (.inl a), x5, x6, x7] st M ↔ uX8_viewDigest R 176 [x0, x1, x2, x3, some (.inl a), x5, x6, x7] (.inl a :: st) M := zU_step dX8_viewDigest_174 (Or.inl rfl)
theorem dX8_viewDigest_176 : decode cX8_viewDigest 176 = .ok (.invokevirtual 306, 3) := by decide +kernel
theorem rX8_viewDigest_176 {R : zP} {x0 x1 x2 x3 x4 x5 x6 x7 : Option zV} {st : List zV} {M : zM} {a0 a1 a2 : zV} : uX8_viewDigest R 176 [x0, x1, x2, x3, x4, x5, x6, x7] (a2 :: a1 :: a0 :: st) M ↔ (st.length ≤ 4 ∧ zcv (zv 8 tX8_askOf) [a0, a1, a2] M (fun v M => uX8_viewDigest R 179 [x0, x1, x2, x3, x4, x5, x6, x7] (v :: st) M)) := Iff.trans (zU_step dX8_viewDigest_176 (Or.inl rfl)) ⟨fun h => ⟨h.2.1, zcv_of h.2.2⟩, fun h => ⟨rfl, h.1, zcv_to h.2⟩⟩
theorem dX8_viewDigest_179 : decode cX8_viewDigest 179 = .ok (.i2l, 1) := by decide +kernel
theorem rX8_viewDigest_179 {R : zP} {x0 x1 x2 x3 x4 x5 x6 x7 : Option zV} {st : List zV} {M : zM} {a : Int} : uX8_viewDigest R 179 [x0, x1, x2, x3, x4, x5, x6, x7] (.inl a :: st) M ↔ (zIR a ∧ uX8_viewDigest R 180 [x0, x1, x2, x3, x4, x5, x6, x7] (.inr (.inl a) :: st) M) := zU_step dX8_viewDigest_179 (Or.inl rfl)
theorem dX8_viewDigest_180 : decode cX8_viewDigest 180 = .ok (.ladd, 1) := by decide +kernel
theorem rX8_viewDigest_180 {R : zP} {x0 x1 x2 x3 x4 x5 x6 x7 : Option zV} {st : List zV} {M : zM} {a b : Int} : uX8_viewDigest R 180 [x0, x1, x2, x3, x4, x5, x6, x7] (.inr (.inl b) :: .inr (.inl a) :: st) M ↔ uX8_viewDigest R 181 [x0, x1, x2, x3, x4, x5, x6, x7] (.inr (.inl (a + b)) :: st) M := zU_step dX8_viewDigest_180 (Or.inl rfl)
theorem dX8_viewDigest_181 : decode cX8_viewDigest 181 = .ok (.lreturn, 1) := by decide +kernel
theorem rX8_viewDigest_181 {R : zP} {x0 x1 x2 x3 x4 x5 x6 x7 : Option zV} {M : zM} {a : Int} : uX8_viewDigest R 181 [x0, x1, x2, x3, x4, x5, x6, x7] [.inr (.inl a)] M ↔ R (some (.inr (.inl a))) M := Iff.trans (zU_step dX8_viewDigest_181 (Or.inl rfl)) ⟨fun h => h.2.2, fun h => ⟨rfl, rfl, h⟩⟩
theorem eX8_viewDigest {R : zP} {M : zM} {a0 : Nat} {p0 : Int} {p1 : Int} {p2 : Int} : tX8_viewDigest [.inr (.inr a0), .inr (.inl p0), .inl p1, .inl p2] M R ↔ uX8_viewDigest R 0 [some (.inr (.inr a0)), some (.inr (.inl p0)), none, some (.inl p1), some (.inl p2), none, none, none] [] M := ⟨fun h => h.2, fun h => ⟨show 5 ≤ 8 by decide, h⟩⟩
def uX8_memberDigest (R : zP) : zK := zU fX8 vX8_memberDigest cX8_memberDigest R
theorem dX8_memberDigest_0 : decode cX8_memberDigest 0 = .ok (.lload_n 1, 1) := by decide +kernel
theorem rX8_memberDigest_0 {R : zP} {x0 x2 x3 x4 x5 x6 : Option zV} {st : List zV} {M : zM} {a : Int} : uX8_memberDigest R 0 [x0, some (.inr (.inl a)), x2, x3, x4, x5, x6] st M ↔ uX8_memberDigest R 1 [x0, some (.inr (.inl a)), x2, x3, x4, x5, x6] (.inr (.inl a) :: st) M := zU_step dX8_memberDigest_0 (Or.inl rfl)
theorem dX8_memberDigest_1 : decode cX8_memberDigest 1 = .ok (.lstore 4, 2) := by decide +kernel
theorem rX8_memberDigest_1 {R : zP} {x0 x1 x2 x3 x4 x5 x6 : Option zV} {st : List zV} {M : zM} {a : Int} : uX8_memberDigest R 1 [x0, x1, x2, x3, x4, x5, x6] (.inr (.inl a) :: st) M ↔ uX8_memberDigest R 3 [x0, x1, x2, zkeep x3, some (.inr (.inl a)), none, x6] st M := Iff.trans (zU_step dX8_memberDigest_1 (Or.inl rfl)) ⟨fun h => h.2, fun h => ⟨show 4 + 1 < 7 by decide, h⟩⟩
theorem dX8_memberDigest_3 : decode cX8_memberDigest 3 = .ok (.iconst 0, 1) := by decide +kernel
theorem rX8_memberDigest_3 {R : zP} {x0 x1 x2 x3 x4 x5 x6 : Option zV} {st : List zV} {M : zM} : uX8_memberDigest R 3 [x0, x1, x2, x3, x4, x5, x6] st M ↔ uX8_memberDigest R 4 [x0, x1, x2, x3, x4, x5, x6] (.inl (0) :: st) M := zU_step dX8_memberDigest_3 (Or.inl rfl)
theorem dX8_memberDigest_4 : decode cX8_memberDigest 4 = .ok (.istore 6, 2) := by decide +kernel
theorem rX8_memberDigest_4 {R : zP} {x0 x1 x2 x3 x4 x5 x6 : Option zV} {st : List zV} {M : zM} {a : Int} : uX8_memberDigest R 4 [x0, x1, x2, x3, x4, x5, x6] (.inl a :: st) M ↔ uX8_memberDigest R 6 [x0, x1, x2, x3, x4, zkeep x5, some (.inl a)] st M := Iff.trans (zU_step dX8_memberDigest_4 (Or.inl rfl)) ⟨fun h => h.2, fun h => ⟨show 6 < 7 by decide, h⟩⟩
theorem dX8_memberDigest_6 : decode cX8_memberDigest 6 = .ok (.iload 6, 2) := by decide +kernel
theorem rX8_memberDigest_6 {R : zP} {x0 x1 x2 x3 x4 x5 : Option zV} {st : List zV} {M : zM} {a : Int} : uX8_memberDigest R 6 [x0, x1, x2, x3, x4, x5, some (.inl a)] st M ↔ uX8_memberDigest R 8 [x0, x1, x2, x3, x4, x5, some (.inl a)] (.inl a :: st) M := zU_step dX8_memberDigest_6 (Or.inl rfl)
theorem dX8_memberDigest_8 : decode cX8_memberDigest 8 = .ok (.iconst 5, 1) := by decide +kernel
theorem rX8_memberDigest_8 {R : zP} {x0 x1 x2 x3 x4 x5 x6 : Option zV} {st : List zV} {M : zM} : uX8_memberDigest R 8 [x0, x1, x2, x3, x4, x5, x6] st M ↔ uX8_memberDigest R 9 [x0, x1, x2, x3, x4, x5, x6] (.inl (5) :: st) M := zU_step dX8_memberDigest_8 (Or.inl rfl)
theorem dX8_memberDigest_9 : decode cX8_memberDigest 9 = .ok (.if_icmp .ge 26, 3) := by decide +kernel
theorem rX8_memberDigest_9 {R : zP} {x0 x1 x2 x3 x4 x5 x6 : Option zV} {st : List zV} {M : zM} {a b : Int} : uX8_memberDigest R 9 [x0, x1, x2, x3, x4, x5, x6] (.inl b :: .inl a :: st) M ↔ ((zIR a ∧ zIR b) ∧ (b ≤ a → uX8_memberDigest R 35 [x0, x1, x2, x3, x4, x5, x6] st M) ∧ (¬ b ≤ a → uX8_memberDigest R 12 [x0, x1, x2, x3, x4, x5, x6] st M)) := Iff.trans (zU_step dX8_memberDigest_9 (Or.inl rfl)) ⟨fun h => ⟨⟨h.1.1, h.1.2.1⟩, h.2⟩, fun h => ⟨⟨h.1.1, h.1.2, by decide⟩, h.2⟩⟩
theorem dX8_memberDigest_12 : decode cX8_memberDigest 12 = .ok (.ldc2_w 337, 3) := by decide +kernel
theorem rX8_memberDigest_12 {R : zP} {x0 x1 x2 x3 x4 x5 x6 : Option zV} {st : List zV} {M : zM} : uX8_memberDigest R 12 [x0, x1, x2, x3, x4, x5, x6] st M ↔ uX8_memberDigest R 15 [x0, x1, x2, x3, x4, x5, x6] (.inr (.inl (31)) :: st) M := zU_step dX8_memberDigest_12 (Or.inl rfl)
theorem dX8_memberDigest_15 : decode cX8_memberDigest 15 = .ok (.lload 4, 2) := by decide +kernel
theorem rX8_memberDigest_15 {R : zP} {x0 x1 x2 x3 x5 x6 : Option zV} {st : List zV} {M : zM} {a : Int} : uX8_memberDigest R 15 [x0, x1, x2, x3, some (.inr (.inl a)), x5, x6] st M ↔ uX8_memberDigest R 17 [x0, x1, x2, x3, some (.inr (.inl a)), x5, x6] (.inr (.inl a) :: st) M := zU_step dX8_memberDigest_15 (Or.inl rfl)
theorem dX8_memberDigest_17 : decode cX8_memberDigest 17 = .ok (.lmul, 1) := by decide +kernel
theorem rX8_memberDigest_17 {R : zP} {x0 x1 x2 x3 x4 x5 x6 : Option zV} {st : List zV} {M : zM} {a b : Int} : uX8_memberDigest R 17 [x0, x1, x2, x3, x4, x5, x6] (.inr (.inl b) :: .inr (.inl a) :: st) M ↔ uX8_memberDigest R 18 [x0, x1, x2, x3, x4, x5, x6] (.inr (.inl (a * b)) :: st) M := zU_step dX8_memberDigest_17 (Or.inl rfl)
theorem dX8_memberDigest_18 : decode cX8_memberDigest 18 = .ok (.aload_n 0, 1) := by decide +kernel
theorem rX8_memberDigest_18 {R : zP} {x1 x2 x3 x4 x5 x6 : Option zV} {st : List zV} {M : zM} {a : Nat} : uX8_memberDigest R 18 [some (.inr (.inr a)), x1, x2, x3, x4, x5, x6] st M ↔ uX8_memberDigest R 19 [some (.inr (.inr a)), x1, x2, x3, x4, x5, x6] (.inr (.inr a) :: st) M := zU_step dX8_memberDigest_18 (Or.inl rfl)
theorem dX8_memberDigest_19 : decode cX8_memberDigest 19 = .ok (.iload_n 3, 1) := by decide +kernel
theorem rX8_memberDigest_19 {R : zP} {x0 x1 x2 x4 x5 x6 : Option zV} {st : List zV} {M : zM} {a : Int} : uX8_memberDigest R 19 [x0, x1, x2, some (.inl a), x4, x5, x6] st M ↔ uX8_memberDigest R 20 [x0, x1, x2, some (.inl a), x4, x5, x6] (.inl a :: st) M := zU_step dX8_memberDigest_19 (Or.inl rfl)
theorem dX8_memberDigest_20 : decode cX8_memberDigest 20 = .ok (.iload 6, 2) := by decide +kernel
theorem rX8_memberDigest_20 {R : zP} {x0 x1 x2 x3 x4 x5 : Option zV} {st : List zV} {M : zM} {a : Int} : uX8_memberDigest R 20 [x0, x1, x2, x3, x4, x5, some (.inl a)] st M ↔ uX8_memberDigest R 22 [x0, x1, x2, x3, x4, x5, some (.inl a)] (.inl a :: st) M := zU_step dX8_memberDigest_20 (Or.inl rfl)
theorem dX8_memberDigest_22 : decode cX8_memberDigest 22 = .ok (.invokevirtual 151, 3) := by decide +kernel
theorem rX8_memberDigest_22 {R : zP} {x0 x1 x2 x3 x4 x5 x6 : Option zV} {st : List zV} {M : zM} {a0 a1 a2 : zV} : uX8_memberDigest R 22 [x0, x1, x2, x3, x4, x5, x6] (a2 :: a1 :: a0 :: st) M ↔ (st.length ≤ 4 ∧ zcv (zv 8 tX8_memberOf) [a0, a1, a2] M (fun v M => uX8_memberDigest R 25 [x0, x1, x2, x3, x4, x5, x6] (v :: st) M)) := Iff.trans (zU_step dX8_memberDigest_22 (Or.inl rfl)) ⟨fun h => ⟨h.2.1, zcv_of h.2.2⟩, fun h => ⟨rfl, h.1, zcv_to h.2⟩⟩
theorem dX8_memberDigest_25 : decode cX8_memberDigest 25 = .ok (.i2l, 1) := by decide +kernel
theorem rX8_memberDigest_25 {R : zP} {x0 x1 x2 x3 x4 x5 x6 : Option zV} {st : List zV} {M : zM} {a : Int} : uX8_memberDigest R 25 [x0, x1, x2, x3, x4, x5, x6] (.inl a :: st) M ↔ (zIR a ∧ uX8_memberDigest R 26 [x0, x1, x2, x3, x4, x5, x6] (.inr (.inl a) :: st) M) := zU_step dX8_memberDigest_25 (Or.inl rfl)
theorem dX8_memberDigest_26 : decode cX8_memberDigest 26 = .ok (.ladd, 1) := by decide +kernel
theorem rX8_memberDigest_26 {R : zP} {x0 x1 x2 x3 x4 x5 x6 : Option zV} {st : List zV} {M : zM} {a b : Int} : uX8_memberDigest R 26 [x0, x1, x2, x3, x4, x5, x6] (.inr (.inl b) :: .inr (.inl a) :: st) M ↔ uX8_memberDigest R 27 [x0, x1, x2, x3, x4, x5, x6] (.inr (.inl (a + b)) :: st) M := zU_step dX8_memberDigest_26 (Or.inl rfl)
theorem dX8_memberDigest_27 : decode cX8_memberDigest 27 = .ok (.lstore 4, 2) := by decide +kernel
theorem rX8_memberDigest_27 {R : zP} {x0 x1 x2 x3 x4 x5 x6 : Option zV} {st : List zV} {M : zM} {a : Int} : uX8_memberDigest R 27 [x0, x1, x2, x3, x4, x5, x6] (.inr (.inl a) :: st) M ↔ uX8_memberDigest R 29 [x0, x1, x2, zkeep x3, some (.inr (.inl a)), none, x6] st M := Iff.trans (zU_step dX8_memberDigest_27 (Or.inl rfl)) ⟨fun h => h.2, fun h => ⟨show 4 + 1 < 7 by decide, h⟩⟩
theorem dX8_memberDigest_29 : decode cX8_memberDigest 29 = .ok (.iinc 6 1, 3) := by decide +kernel
theorem rX8_memberDigest_29 {R : zP} {x0 x1 x2 x3 x4 x5 : Option zV} {st : List zV} {M : zM} {a : Int} : uX8_memberDigest R 29 [x0, x1, x2, x3, x4, x5, some (.inl a)] st M ↔ uX8_memberDigest R 32 [x0, x1, x2, x3, x4, zkeep x5, some (.inl (a + (1)))] st M := Iff.trans (zU_step dX8_memberDigest_29 (Or.inl rfl)) ⟨fun h => h.2, fun h => ⟨show 6 < 7 by decide, h⟩⟩
theorem dX8_memberDigest_32 : decode cX8_memberDigest 32 = .ok (.goto (-26), 3) := by decide +kernel
theorem rX8_memberDigest_32 {R : zP} {x0 x1 x2 x3 x4 x5 x6 : Option zV} {st : List zV} {M : zM} : uX8_memberDigest R 32 [x0, x1, x2, x3, x4, x5, x6] st M ↔ uX8_memberDigest R 6 [x0, x1, x2, x3, x4, x5, x6] st M := Iff.trans (zU_step dX8_memberDigest_32 (Or.inl rfl)) ⟨fun h => h.2, fun h => ⟨by decide, h⟩⟩
theorem dX8_memberDigest_35 : decode cX8_memberDigest 35 = .ok (.aload_n 0, 1) := by decide +kernel
theorem rX8_memberDigest_35 {R : zP} {x1 x2 x3 x4 x5 x6 : Option zV} {st : List zV} {M : zM} {a : Nat} : uX8_memberDigest R 35 [some (.inr (.inr a)), x1, x2, x3, x4, x5, x6] st M ↔ uX8_memberDigest R 36 [some (.inr (.inr a)), x1, x2, x3, x4, x5, x6] (.inr (.inr a) :: st) M := zU_step dX8_memberDigest_35 (Or.inl rfl)
theorem dX8_memberDigest_36 : decode cX8_memberDigest 36 = .ok (.lload 4, 2) := by decide +kernel
theorem rX8_memberDigest_36 {R : zP} {x0 x1 x2 x3 x5 x6 : Option zV} {st : List zV} {M : zM} {a : Int} : uX8_memberDigest R 36 [x0, x1, x2, x3, some (.inr (.inl a)), x5, x6] st M ↔ uX8_memberDigest R 38 [x0, x1, x2, x3, some (.inr (.inl a)), x5, x6] (.inr (.inl a) :: st) M := zU_step dX8_memberDigest_36 (Or.inl rfl)
theorem dX8_memberDigest_38 : decode cX8_memberDigest 38 = .ok (.iconst 0, 1) := by decide +kernel
theorem rX8_memberDigest_38 {R : zP} {x0 x1 x2 x3 x4 x5 x6 : Option zV} {st : List zV} {M : zM} : uX8_memberDigest R 38 [x0, x1, x2, x3, x4, x5, x6] st M ↔ uX8_memberDigest R 39 [x0, x1, x2, x3, x4, x5, x6] (.inl (0) :: st) M := zU_step dX8_memberDigest_38 (Or.inl rfl)
theorem dX8_memberDigest_39 : decode cX8_memberDigest 39 = .ok (.iload_n 3, 1) := by decide +kernel
theorem rX8_memberDigest_39 {R : zP} {x0 x1 x2 x4 x5 x6 : Option zV} {st : List zV} {M : zM} {a : Int} : uX8_memberDigest R 39 [x0, x1, x2, some (.inl a), x4, x5, x6] st M ↔ uX8_memberDigest R 40 [x0, x1, x2, some (.inl a), x4, x5, x6] (.inl a :: st) M := zU_step dX8_memberDigest_39 (Or.inl rfl)
theorem dX8_memberDigest_40 : decode cX8_memberDigest 40 = .ok (.invokevirtual 339, 3) := by decide +kernel
theorem rX8_memberDigest_40 {R : zP} {x0 x1 x2 x3 x4 x5 x6 : Option zV} {st : List zV} {M : zM} {a0 a1 a2 a3 : zV} : uX8_memberDigest R 40 [x0, x1, x2, x3, x4, x5, x6] (a3 :: a2 :: a1 :: a0 :: st) M ↔ (st.length ≤ 4 ∧ zcv (zv 8 tX8_ableDigest) [a0, a1, a2, a3] M (fun v M => uX8_memberDigest R 43 [x0, x1, x2, x3, x4, x5, x6] (v :: st) M)) := Iff.trans (zU_step dX8_memberDigest_40 (Or.inl rfl)) ⟨fun h => ⟨h.2.1, zcv_of h.2.2⟩, fun h => ⟨rfl, h.1, zcv_to h.2⟩⟩
theorem dX8_memberDigest_43 : decode cX8_memberDigest 43 = .ok (.lstore 4, 2) := by decide +kernel
theorem rX8_memberDigest_43 {R : zP} {x0 x1 x2 x3 x4 x5 x6 : Option zV} {st : List zV} {M : zM} {a : Int} : uX8_memberDigest R 43 [x0, x1, x2, x3, x4, x5, x6] (.inr (.inl a) :: st) M ↔ uX8_memberDigest R 45 [x0, x1, x2, zkeep x3, some (.inr (.inl a)), none, x6] st M := Iff.trans (zU_step dX8_memberDigest_43 (Or.inl rfl)) ⟨fun h => h.2, fun h => ⟨show 4 + 1 < 7 by decide, h⟩⟩
theorem dX8_memberDigest_45 : decode cX8_memberDigest 45 = .ok (.aload_n 0, 1) := by decide +kernel
theorem rX8_memberDigest_45 {R : zP} {x1 x2 x3 x4 x5 x6 : Option zV} {st : List zV} {M : zM} {a : Nat} : uX8_memberDigest R 45 [some (.inr (.inr a)), x1, x2, x3, x4, x5, x6] st M ↔ uX8_memberDigest R 46 [some (.inr (.inr a)), x1, x2, x3, x4, x5, x6] (.inr (.inr a) :: st) M := zU_step dX8_memberDigest_45 (Or.inl rfl)
theorem dX8_memberDigest_46 : decode cX8_memberDigest 46 = .ok (.lload 4, 2) := by decide +kernel
theorem rX8_memberDigest_46 {R : zP} {x0 x1 x2 x3 x5 x6 : Option zV} {st : List zV} {M : zM} {a : Int} : uX8_memberDigest R 46 [x0, x1, x2, x3, some (.inr (.inl a)), x5, x6] st M ↔ uX8_memberDigest R 48 [x0, x1, x2, x3, some (.inr (.inl a)), x5, x6] (.inr (.inl a) :: st) M := zU_step dX8_memberDigest_46 (Or.inl rfl)
theorem dX8_memberDigest_48 : decode cX8_memberDigest 48 = .ok (.bipush 6, 2) := by decide +kernel
theorem rX8_memberDigest_48 {R : zP} {x0 x1 x2 x3 x4 x5 x6 : Option zV} {st : List zV} {M : zM} : uX8_memberDigest R 48 [x0, x1, x2, x3, x4, x5, x6] st M ↔ uX8_memberDigest R 50 [x0, x1, x2, x3, x4, x5, x6] (.inl (6) :: st) M := Iff.trans (zU_step dX8_memberDigest_48 (Or.inl rfl)) ⟨fun h => h.2, fun h => ⟨by decide, h⟩⟩
theorem dX8_memberDigest_50 : decode cX8_memberDigest 50 = .ok (.iload_n 3, 1) := by decide +kernel
theorem rX8_memberDigest_50 {R : zP} {x0 x1 x2 x4 x5 x6 : Option zV} {st : List zV} {M : zM} {a : Int} : uX8_memberDigest R 50 [x0, x1, x2, some (.inl a), x4, x5, x6] st M ↔ uX8_memberDigest R 51 [x0, x1, x2, some (.inl a), x4, x5, x6] (.inl a :: st) M := zU_step dX8_memberDigest_50 (Or.inl rfl)
theorem dX8_memberDigest_51 : decode cX8_memberDigest 51 = .ok (.invokevirtual 339, 3) := by decide +kernel
theorem rX8_memberDigest_51 {R : zP} {x0 x1 x2 x3 x4 x5 x6 : Option zV} {st : List zV} {M : zM} {a0 a1 a2 a3 : zV} : uX8_memberDigest R 51 [x0, x1, x2, x3, x4, x5, x6] (a3 :: a2 :: a1 :: a0 :: st) M ↔ (st.length ≤ 4 ∧ zcv (zv 8 tX8_ableDigest) [a0, a1, a2, a3] M (fun v M => uX8_memberDigest R 54 [x0, x1, x2, x3, x4, x5, x6] (v :: st) M)) := Iff.trans (zU_step dX8_memberDigest_51 (Or.inl rfl)) ⟨fun h => ⟨h.2.1, zcv_of h.2.2⟩, fun h => ⟨rfl, h.1, zcv_to h.2⟩⟩
theorem dX8_memberDigest_54 : decode cX8_memberDigest 54 = .ok (.lstore 4, 2) := by decide +kernel
theorem rX8_memberDigest_54 {R : zP} {x0 x1 x2 x3 x4 x5 x6 : Option zV} {st : List zV} {M : zM} {a : Int} : uX8_memberDigest R 54 [x0, x1, x2, x3, x4, x5, x6] (.inr (.inl a) :: st) M ↔ uX8_memberDigest R 56 [x0, x1, x2, zkeep x3, some (.inr (.inl a)), none, x6] st M := Iff.trans (zU_step dX8_memberDigest_54 (Or.inl rfl)) ⟨fun h => h.2, fun h => ⟨show 4 + 1 < 7 by decide, h⟩⟩
theorem dX8_memberDigest_56 : decode cX8_memberDigest 56 = .ok (.aload_n 0, 1) := by decide +kernel
theorem rX8_memberDigest_56 {R : zP} {x1 x2 x3 x4 x5 x6 : Option zV} {st : List zV} {M : zM} {a : Nat} : uX8_memberDigest R 56 [some (.inr (.inr a)), x1, x2, x3, x4, x5, x6] st M ↔ uX8_memberDigest R 57 [some (.inr (.inr a)), x1, x2, x3, x4, x5, x6] (.inr (.inr a) :: st) M := zU_step dX8_memberDigest_56 (Or.inl rfl)
theorem dX8_memberDigest_57 : decode cX8_memberDigest 57 = .ok (.lload 4, 2) := by decide +kernel
theorem rX8_memberDigest_57 {R : zP} {x0 x1 x2 x3 x5 x6 : Option zV} {st : List zV} {M : zM} {a : Int} : uX8_memberDigest R 57 [x0, x1, x2, x3, some (.inr (.inl a)), x5, x6] st M ↔ uX8_memberDigest R 59 [x0, x1, x2, x3, some (.inr (.inl a)), x5, x6] (.inr (.inl a) :: st) M := zU_step dX8_memberDigest_57 (Or.inl rfl)
theorem dX8_memberDigest_59 : decode cX8_memberDigest 59 = .ok (.bipush 19, 2) := by decide +kernel
theorem rX8_memberDigest_59 {R : zP} {x0 x1 x2 x3 x4 x5 x6 : Option zV} {st : List zV} {M : zM} : uX8_memberDigest R 59 [x0, x1, x2, x3, x4, x5, x6] st M ↔ uX8_memberDigest R 61 [x0, x1, x2, x3, x4, x5, x6] (.inl (19) :: st) M := Iff.trans (zU_step dX8_memberDigest_59 (Or.inl rfl)) ⟨fun h => h.2, fun h => ⟨by decide, h⟩⟩
theorem dX8_memberDigest_61 : decode cX8_memberDigest 61 = .ok (.iload_n 3, 1) := by decide +kernel
theorem rX8_memberDigest_61 {R : zP} {x0 x1 x2 x4 x5 x6 : Option zV} {st : List zV} {M : zM} {a : Int} : uX8_memberDigest R 61 [x0, x1, x2, some (.inl a), x4, x5, x6] st M ↔ uX8_memberDigest R 62 [x0, x1, x2, some (.inl a), x4, x5, x6] (.inl a :: st) M := zU_step dX8_memberDigest_61 (Or.inl rfl)
theorem dX8_memberDigest_62 : decode cX8_memberDigest 62 = .ok (.invokevirtual 339, 3) := by decide +kernel
theorem rX8_memberDigest_62 {R : zP} {x0 x1 x2 x3 x4 x5 x6 : Option zV} {st : List zV} {M : zM} {a0 a1 a2 a3 : zV} : uX8_memberDigest R 62 [x0, x1, x2, x3, x4, x5, x6] (a3 :: a2 :: a1 :: a0 :: st) M ↔ (st.length ≤ 4 ∧ zcv (zv 8 tX8_ableDigest) [a0, a1, a2, a3] M (fun v M => uX8_memberDigest R 65 [x0, x1, x2, x3, x4, x5, x6] (v :: st) M)) := Iff.trans (zU_step dX8_memberDigest_62 (Or.inl rfl)) ⟨fun h => ⟨h.2.1, zcv_of h.2.2⟩, fun h => ⟨rfl, h.1, zcv_to h.2⟩⟩
theorem dX8_memberDigest_65 : decode cX8_memberDigest 65 = .ok (.lstore 4, 2) := by decide +kernel
theorem rX8_memberDigest_65 {R : zP} {x0 x1 x2 x3 x4 x5 x6 : Option zV} {st : List zV} {M : zM} {a : Int} : uX8_memberDigest R 65 [x0, x1, x2, x3, x4, x5, x6] (.inr (.inl a) :: st) M ↔ uX8_memberDigest R 67 [x0, x1, x2, zkeep x3, some (.inr (.inl a)), none, x6] st M := Iff.trans (zU_step dX8_memberDigest_65 (Or.inl rfl)) ⟨fun h => h.2, fun h => ⟨show 4 + 1 < 7 by decide, h⟩⟩
theorem dX8_memberDigest_67 : decode cX8_memberDigest 67 = .ok (.iconst 0, 1) := by decide +kernel
theorem rX8_memberDigest_67 {R : zP} {x0 x1 x2 x3 x4 x5 x6 : Option zV} {st : List zV} {M : zM} : uX8_memberDigest R 67 [x0, x1, x2, x3, x4, x5, x6] st M ↔ uX8_memberDigest R 68 [x0, x1, x2, x3, x4, x5, x6] (.inl (0) :: st) M := zU_step dX8_memberDigest_67 (Or.inl rfl)
theorem dX8_memberDigest_68 : decode cX8_memberDigest 68 = .ok (.istore 6, 2) := by decide +kernel
theorem rX8_memberDigest_68 {R : zP} {x0 x1 x2 x3 x4 x5 x6 : Option zV} {st : List zV} {M : zM} {a : Int} : uX8_memberDigest R 68 [x0, x1, x2, x3, x4, x5, x6] (.inl a :: st) M ↔ uX8_memberDigest R 70 [x0, x1, x2, x3, x4, zkeep x5, some (.inl a)] st M := Iff.trans (zU_step dX8_memberDigest_68 (Or.inl rfl)) ⟨fun h => h.2, fun h => ⟨show 6 < 7 by decide, h⟩⟩
theorem dX8_memberDigest_70 : decode cX8_memberDigest 70 = .ok (.iload 6, 2) := by decide +kernel
theorem rX8_memberDigest_70 {R : zP} {x0 x1 x2 x3 x4 x5 : Option zV} {st : List zV} {M : zM} {a : Int} : uX8_memberDigest R 70 [x0, x1, x2, x3, x4, x5, some (.inl a)] st M ↔ uX8_memberDigest R 72 [x0, x1, x2, x3, x4, x5, some (.inl a)] (.inl a :: st) M := zU_step dX8_memberDigest_70 (Or.inl rfl)
theorem dX8_memberDigest_72 : decode cX8_memberDigest 72 = .ok (.iconst 4, 1) := by decide +kernel
theorem rX8_memberDigest_72 {R : zP} {x0 x1 x2 x3 x4 x5 x6 : Option zV} {st : List zV} {M : zM} : uX8_memberDigest R 72 [x0, x1, x2, x3, x4, x5, x6] st M ↔ uX8_memberDigest R 73 [x0, x1, x2, x3, x4, x5, x6] (.inl (4) :: st) M := zU_step dX8_memberDigest_72 (Or.inl rfl)
theorem dX8_memberDigest_73 : decode cX8_memberDigest 73 = .ok (.if_icmp .ge 20, 3) := by decide +kernel
theorem rX8_memberDigest_73 {R : zP} {x0 x1 x2 x3 x4 x5 x6 : Option zV} {st : List zV} {M : zM} {a b : Int} : uX8_memberDigest R 73 [x0, x1, x2, x3, x4, x5, x6] (.inl b :: .inl a :: st) M ↔ ((zIR a ∧ zIR b) ∧ (b ≤ a → uX8_memberDigest R 93 [x0, x1, x2, x3, x4, x5, x6] st M) ∧ (¬ b ≤ a → uX8_memberDigest R 76 [x0, x1, x2, x3, x4, x5, x6] st M)) := Iff.trans (zU_step dX8_memberDigest_73 (Or.inl rfl)) ⟨fun h => ⟨⟨h.1.1, h.1.2.1⟩, h.2⟩, fun h => ⟨⟨h.1.1, h.1.2, by decide⟩, h.2⟩⟩
theorem dX8_memberDigest_76 : decode cX8_memberDigest 76 = .ok (.aload_n 0, 1) := by decide +kernel
theorem rX8_memberDigest_76 {R : zP} {x1 x2 x3 x4 x5 x6 : Option zV} {st : List zV} {M : zM} {a : Nat} : uX8_memberDigest R 76 [some (.inr (.inr a)), x1, x2, x3, x4, x5, x6] st M ↔ uX8_memberDigest R 77 [some (.inr (.inr a)), x1, x2, x3, x4, x5, x6] (.inr (.inr a) :: st) M := zU_step dX8_memberDigest_76 (Or.inl rfl)
theorem dX8_memberDigest_77 : decode cX8_memberDigest 77 = .ok (.lload 4, 2) := by decide +kernel
theorem rX8_memberDigest_77 {R : zP} {x0 x1 x2 x3 x5 x6 : Option zV} {st : List zV} {M : zM} {a : Int} : uX8_memberDigest R 77 [x0, x1, x2, x3, some (.inr (.inl a)), x5, x6] st M ↔ uX8_memberDigest R 79 [x0, x1, x2, x3, some (.inr (.inl a)), x5, x6] (.inr (.inl a) :: st) M := zU_step dX8_memberDigest_77 (Or.inl rfl)
theorem dX8_memberDigest_79 : decode cX8_memberDigest 79 = .ok (.iload_n 3, 1) := by decide +kernel
theorem rX8_memberDigest_79 {R : zP} {x0 x1 x2 x4 x5 x6 : Option zV} {st : List zV} {M : zM} {a : Int} : uX8_memberDigest R 79 [x0, x1, x2, some (.inl a), x4, x5, x6] st M ↔ uX8_memberDigest R 80 [x0, x1, x2, some (.inl a), x4, x5, x6] (.inl a :: st) M := zU_step dX8_memberDigest_79 (Or.inl rfl)
theorem dX8_memberDigest_80 : decode cX8_memberDigest 80 = .ok (.iload 6, 2) := by decide +kernel
theorem rX8_memberDigest_80 {R : zP} {x0 x1 x2 x3 x4 x5 : Option zV} {st : List zV} {M : zM} {a : Int} : uX8_memberDigest R 80 [x0, x1, x2, x3, x4, x5, some (.inl a)] st M ↔ uX8_memberDigest R 82 [x0, x1, x2, x3, x4, x5, some (.inl a)] (.inl a :: st) M := zU_step dX8_memberDigest_80 (Or.inl rfl)
theorem dX8_memberDigest_82 : decode cX8_memberDigest 82 = .ok (.invokevirtual 343, 3) := by decide +kernel
theorem rX8_memberDigest_82 {R : zP} {x0 x1 x2 x3 x4 x5 x6 : Option zV} {st : List zV} {M : zM} {a0 a1 a2 a3 : zV} : uX8_memberDigest R 82 [x0, x1, x2, x3, x4, x5, x6] (a3 :: a2 :: a1 :: a0 :: st) M ↔ (st.length ≤ 4 ∧ zcv (zv 8 tX8_viewDigest) [a0, a1, a2, a3] M (fun v M => uX8_memberDigest R 85 [x0, x1, x2, x3, x4, x5, x6] (v :: st) M)) := Iff.trans (zU_step dX8_memberDigest_82 (Or.inl rfl)) ⟨fun h => ⟨h.2.1, zcv_of h.2.2⟩, fun h => ⟨rfl, h.1, zcv_to h.2⟩⟩
theorem dX8_memberDigest_85 : decode cX8_memberDigest 85 = .ok (.lstore 4, 2) := by decide +kernel
theorem rX8_memberDigest_85 {R : zP} {x0 x1 x2 x3 x4 x5 x6 : Option zV} {st : List zV} {M : zM} {a : Int} : uX8_memberDigest R 85 [x0, x1, x2, x3, x4, x5, x6] (.inr (.inl a) :: st) M ↔ uX8_memberDigest R 87 [x0, x1, x2, zkeep x3, some (.inr (.inl a)), none, x6] st M := Iff.trans (zU_step dX8_memberDigest_85 (Or.inl rfl)) ⟨fun h => h.2, fun h => ⟨show 4 + 1 < 7 by decide, h⟩⟩
theorem dX8_memberDigest_87 : decode cX8_memberDigest 87 = .ok (.iinc 6 1, 3) := by decide +kernel
theorem rX8_memberDigest_87 {R : zP} {x0 x1 x2 x3 x4 x5 : Option zV} {st : List zV} {M : zM} {a : Int} : uX8_memberDigest R 87 [x0, x1, x2, x3, x4, x5, some (.inl a)] st M ↔ uX8_memberDigest R 90 [x0, x1, x2, x3, x4, zkeep x5, some (.inl (a + (1)))] st M := Iff.trans (zU_step dX8_memberDigest_87 (Or.inl rfl)) ⟨fun h => h.2, fun h => ⟨show 6 < 7 by decide, h⟩⟩
theorem dX8_memberDigest_90 : decode cX8_memberDigest 90 = .ok (.goto (-20), 3) := by decide +kernel
theorem rX8_memberDigest_90 {R : zP} {x0 x1 x2 x3 x4 x5 x6 : Option zV} {st : List zV} {M : zM} : uX8_memberDigest R 90 [x0, x1, x2, x3, x4, x5, x6] st M ↔ uX8_memberDigest R 70 [x0, x1, x2, x3, x4, x5, x6] st M := Iff.trans (zU_step dX8_memberDigest_90 (Or.inl rfl)) ⟨fun h => h.2, fun h => ⟨by decide, h⟩⟩
theorem dX8_memberDigest_93 : decode cX8_memberDigest 93 = .ok (.ldc2_w 337, 3) := by decide +kernel
theorem rX8_memberDigest_93 {R : zP} {x0 x1 x2 x3 x4 x5 x6 : Option zV} {st : List zV} {M : zM} : uX8_memberDigest R 93 [x0, x1, x2, x3, x4, x5, x6] st M ↔ uX8_memberDigest R 96 [x0, x1, x2, x3, x4, x5, x6] (.inr (.inl (31)) :: st) M := zU_step dX8_memberDigest_93 (Or.inl rfl)
theorem dX8_memberDigest_96 : decode cX8_memberDigest 96 = .ok (.lload 4, 2) := by decide +kernel
theorem rX8_memberDigest_96 {R : zP} {x0 x1 x2 x3 x5 x6 : Option zV} {st : List zV} {M : zM} {a : Int} : uX8_memberDigest R 96 [x0, x1, x2, x3, some (.inr (.inl a)), x5, x6] st M ↔ uX8_memberDigest R 98 [x0, x1, x2, x3, some (.inr (.inl a)), x5, x6] (.inr (.inl a) :: st) M := zU_step dX8_memberDigest_96 (Or.inl rfl)
theorem dX8_memberDigest_98 : decode cX8_memberDigest 98 = .ok (.lmul, 1) := by decide +kernel
theorem rX8_memberDigest_98 {R : zP} {x0 x1 x2 x3 x4 x5 x6 : Option zV} {st : List zV} {M : zM} {a b : Int} : uX8_memberDigest R 98 [x0, x1, x2, x3, x4, x5, x6] (.inr (.inl b) :: .inr (.inl a) :: st) M ↔ uX8_memberDigest R 99 [x0, x1, x2, x3, x4, x5, x6] (.inr (.inl (a * b)) :: st) M := zU_step dX8_memberDigest_98 (Or.inl rfl)
theorem dX8_memberDigest_99 : decode cX8_memberDigest 99 = .ok (.aload_n 0, 1) := by decide +kernel
theorem rX8_memberDigest_99 {R : zP} {x1 x2 x3 x4 x5 x6 : Option zV} {st : List zV} {M : zM} {a : Nat} : uX8_memberDigest R 99 [some (.inr (.inr a)), x1, x2, x3, x4, x5, x6] st M ↔ uX8_memberDigest R 100 [some (.inr (.inr a)), x1, x2, x3, x4, x5, x6] (.inr (.inr a) :: st) M := zU_step dX8_memberDigest_99 (Or.inl rfl)
theorem dX8_memberDigest_100 : decode cX8_memberDigest 100 = .ok (.iload_n 3, 1) := by decide +kernel
theorem rX8_memberDigest_100 {R : zP} {x0 x1 x2 x4 x5 x6 : Option zV} {st : List zV} {M : zM} {a : Int} : uX8_memberDigest R 100 [x0, x1, x2, some (.inl a), x4, x5, x6] st M ↔ uX8_memberDigest R 101 [x0, x1, x2, some (.inl a), x4, x5, x6] (.inl a :: st) M := zU_step dX8_memberDigest_100 (Or.inl rfl)
theorem dX8_memberDigest_101 : decode cX8_memberDigest 101 = .ok (.invokevirtual 300, 3) := by decide +kernel
theorem rX8_memberDigest_101 {R : zP} {x0 x1 x2 x3 x4 x5 x6 : Option zV} {st : List zV} {M : zM} {a0 a1 : zV} : uX8_memberDigest R 101 [x0, x1, x2, x3, x4, x5, x6] (a1 :: a0 :: st) M ↔ (st.length ≤ 4 ∧ zcv (zv 8 tX8_sortsBy) [a0, a1] M (fun v M => uX8_memberDigest R 104 [x0, x1, x2, x3, x4, x5, x6] (v :: st) M)) := Iff.trans (zU_step dX8_memberDigest_101 (Or.inl rfl)) ⟨fun h => ⟨h.2.1, zcv_of h.2.2⟩, fun h => ⟨rfl, h.1, zcv_to h.2⟩⟩
theorem dX8_memberDigest_104 : decode cX8_memberDigest 104 = .ok (.i2l, 1) := by decide +kernel
theorem rX8_memberDigest_104 {R : zP} {x0 x1 x2 x3 x4 x5 x6 : Option zV} {st : List zV} {M : zM} {a : Int} : uX8_memberDigest R 104 [x0, x1, x2, x3, x4, x5, x6] (.inl a :: st) M ↔ (zIR a ∧ uX8_memberDigest R 105 [x0, x1, x2, x3, x4, x5, x6] (.inr (.inl a) :: st) M) := zU_step dX8_memberDigest_104 (Or.inl rfl)
theorem dX8_memberDigest_105 : decode cX8_memberDigest 105 = .ok (.ladd, 1) := by decide +kernel
theorem rX8_memberDigest_105 {R : zP} {x0 x1 x2 x3 x4 x5 x6 : Option zV} {st : List zV} {M : zM} {a b : Int} : uX8_memberDigest R 105 [x0, x1, x2, x3, x4, x5, x6] (.inr (.inl b) :: .inr (.inl a) :: st) M ↔ uX8_memberDigest R 106 [x0, x1, x2, x3, x4, x5, x6] (.inr (.inl (a + b)) :: st) M := zU_step dX8_memberDigest_105 (Or.inl rfl)
theorem dX8_memberDigest_106 : decode cX8_memberDigest 106 = .ok (.lreturn, 1) := by decide +kernel
theorem rX8_memberDigest_106 {R : zP} {x0 x1 x2 x3 x4 x5 x6 : Option zV} {M : zM} {a : Int} : uX8_memberDigest R 106 [x0, x1, x2, x3, x4, x5, x6] [.inr (.inl a)] M ↔ R (some (.inr (.inl a))) M := Iff.trans (zU_step dX8_memberDigest_106 (Or.inl rfl)) ⟨fun h => h.2.2, fun h => ⟨rfl, rfl, h⟩⟩
theorem eX8_memberDigest {R : zP} {M : zM} {a0 : Nat} {p0 : Int} {p1 : Int} : tX8_memberDigest [.inr (.inr a0), .inr (.inl p0), .inl p1] M R ↔ uX8_memberDigest R 0 [some (.inr (.inr a0)), some (.inr (.inl p0)), none, some (.inl p1), none, none, none] [] M := ⟨fun h => h.2, fun h => ⟨show 4 ≤ 7 by decide, h⟩⟩
def uX8_questionDigest (R : zP) : zK := zU fX8 vX8_questionDigest cX8_questionDigest R
theorem dX8_questionDigest_0 : decode cX8_questionDigest 0 = .ok (.lload_n 1, 1) := by decide +kernel
theorem rX8_questionDigest_0 {R : zP} {x0 x2 x3 x4 x5 x6 : Option zV} {st : List zV} {M : zM} {a : Int} : uX8_questionDigest R 0 [x0, some (.inr (.inl a)), x2, x3, x4, x5, x6] st M ↔ uX8_questionDigest R 1 [x0, some (.inr (.inl a)), x2, x3, x4, x5, x6] (.inr (.inl a) :: st) M := zU_step dX8_questionDigest_0 (Or.inl rfl)
theorem dX8_questionDigest_1 : decode cX8_questionDigest 1 = .ok (.lstore 4, 2) := by decide +kernel
theorem rX8_questionDigest_1 {R : zP} {x0 x1 x2 x3 x4 x5 x6 : Option zV} {st : List zV} {M : zM} {a : Int} : uX8_questionDigest R 1 [x0, x1, x2, x3, x4, x5, x6] (.inr (.inl a) :: st) M ↔ uX8_questionDigest R 3 [x0, x1, x2, zkeep x3, some (.inr (.inl a)), none, x6] st M := Iff.trans (zU_step dX8_questionDigest_1 (Or.inl rfl)) ⟨fun h => h.2, fun h => ⟨show 4 + 1 < 7 by decide, h⟩⟩
theorem dX8_questionDigest_3 : decode cX8_questionDigest 3 = .ok (.iconst 0, 1) := by decide +kernel
theorem rX8_questionDigest_3 {R : zP} {x0 x1 x2 x3 x4 x5 x6 : Option zV} {st : List zV} {M : zM} : uX8_questionDigest R 3 [x0, x1, x2, x3, x4, x5, x6] st M ↔ uX8_questionDigest R 4 [x0, x1, x2, x3, x4, x5, x6] (.inl (0) :: st) M := zU_step dX8_questionDigest_3 (Or.inl rfl)
theorem dX8_questionDigest_4 : decode cX8_questionDigest 4 = .ok (.istore 6, 2) := by decide +kernel
theorem rX8_questionDigest_4 {R : zP} {x0 x1 x2 x3 x4 x5 x6 : Option zV} {st : List zV} {M : zM} {a : Int} : uX8_questionDigest R 4 [x0, x1, x2, x3, x4, x5, x6] (.inl a :: st) M ↔ uX8_questionDigest R 6 [x0, x1, x2, x3, x4, zkeep x5, some (.inl a)] st M := Iff.trans (zU_step dX8_questionDigest_4 (Or.inl rfl)) ⟨fun h => h.2, fun h => ⟨show 6 < 7 by decide, h⟩⟩
theorem dX8_questionDigest_6 : decode cX8_questionDigest 6 = .ok (.iload 6, 2) := by decide +kernel
theorem rX8_questionDigest_6 {R : zP} {x0 x1 x2 x3 x4 x5 : Option zV} {st : List zV} {M : zM} {a : Int} : uX8_questionDigest R 6 [x0, x1, x2, x3, x4, x5, some (.inl a)] st M ↔ uX8_questionDigest R 8 [x0, x1, x2, x3, x4, x5, some (.inl a)] (.inl a :: st) M := zU_step dX8_questionDigest_6 (Or.inl rfl)
theorem dX8_questionDigest_8 : decode cX8_questionDigest 8 = .ok (.iconst 3, 1) := by decide +kernel
theorem rX8_questionDigest_8 {R : zP} {x0 x1 x2 x3 x4 x5 x6 : Option zV} {st : List zV} {M : zM} : uX8_questionDigest R 8 [x0, x1, x2, x3, x4, x5, x6] st M ↔ uX8_questionDigest R 9 [x0, x1, x2, x3, x4, x5, x6] (.inl (3) :: st) M := zU_step dX8_questionDigest_8 (Or.inl rfl)
theorem dX8_questionDigest_9 : decode cX8_questionDigest 9 = .ok (.if_icmp .ge 28, 3) := by decide +kernel
theorem rX8_questionDigest_9 {R : zP} {x0 x1 x2 x3 x4 x5 x6 : Option zV} {st : List zV} {M : zM} {a b : Int} : uX8_questionDigest R 9 [x0, x1, x2, x3, x4, x5, x6] (.inl b :: .inl a :: st) M ↔ ((zIR a ∧ zIR b) ∧ (b ≤ a → uX8_questionDigest R 37 [x0, x1, x2, x3, x4, x5, x6] st M) ∧ (¬ b ≤ a → uX8_questionDigest R 12 [x0, x1, x2, x3, x4, x5, x6] st M)) := Iff.trans (zU_step dX8_questionDigest_9 (Or.inl rfl)) ⟨fun h => ⟨⟨h.1.1, h.1.2.1⟩, h.2⟩, fun h => ⟨⟨h.1.1, h.1.2, by decide⟩, h.2⟩⟩
theorem dX8_questionDigest_12 : decode cX8_questionDigest 12 = .ok (.ldc2_w 337, 3) := by decide +kernel
theorem rX8_questionDigest_12 {R : zP} {x0 x1 x2 x3 x4 x5 x6 : Option zV} {st : List zV} {M : zM} : uX8_questionDigest R 12 [x0, x1, x2, x3, x4, x5, x6] st M ↔ uX8_questionDigest R 15 [x0, x1, x2, x3, x4, x5, x6] (.inr (.inl (31)) :: st) M := zU_step dX8_questionDigest_12 (Or.inl rfl)
theorem dX8_questionDigest_15 : decode cX8_questionDigest 15 = .ok (.lload 4, 2) := by decide +kernel
theorem rX8_questionDigest_15 {R : zP} {x0 x1 x2 x3 x5 x6 : Option zV} {st : List zV} {M : zM} {a : Int} : uX8_questionDigest R 15 [x0, x1, x2, x3, some (.inr (.inl a)), x5, x6] st M ↔ uX8_questionDigest R 17 [x0, x1, x2, x3, some (.inr (.inl a)), x5, x6] (.inr (.inl a) :: st) M := zU_step dX8_questionDigest_15 (Or.inl rfl)
theorem dX8_questionDigest_17 : decode cX8_questionDigest 17 = .ok (.lmul, 1) := by decide +kernel
theorem rX8_questionDigest_17 {R : zP} {x0 x1 x2 x3 x4 x5 x6 : Option zV} {st : List zV} {M : zM} {a b : Int} : uX8_questionDigest R 17 [x0, x1, x2, x3, x4, x5, x6] (.inr (.inl b) :: .inr (.inl a) :: st) M ↔ uX8_questionDigest R 18 [x0, x1, x2, x3, x4, x5, x6] (.inr (.inl (a * b)) :: st) M := zU_step dX8_questionDigest_17 (Or.inl rfl)
theorem dX8_questionDigest_18 : decode cX8_questionDigest 18 = .ok (.aload_n 0, 1) := by decide +kernel
theorem rX8_questionDigest_18 {R : zP} {x1 x2 x3 x4 x5 x6 : Option zV} {st : List zV} {M : zM} {a : Nat} : uX8_questionDigest R 18 [some (.inr (.inr a)), x1, x2, x3, x4, x5, x6] st M ↔ uX8_questionDigest R 19 [some (.inr (.inr a)), x1, x2, x3, x4, x5, x6] (.inr (.inr a) :: st) M := zU_step dX8_questionDigest_18 (Or.inl rfl)
theorem dX8_questionDigest_19 : decode cX8_questionDigest 19 = .ok (.bipush 6, 2) := by decide +kernel
theorem rX8_questionDigest_19 {R : zP} {x0 x1 x2 x3 x4 x5 x6 : Option zV} {st : List zV} {M : zM} : uX8_questionDigest R 19 [x0, x1, x2, x3, x4, x5, x6] st M ↔ uX8_questionDigest R 21 [x0, x1, x2, x3, x4, x5, x6] (.inl (6) :: st) M := Iff.trans (zU_step dX8_questionDigest_19 (Or.inl rfl)) ⟨fun h => h.2, fun h => ⟨by decide, h⟩⟩
theorem dX8_questionDigest_21 : decode cX8_questionDigest 21 = .ok (.iload_n 3, 1) := by decide +kernel
theorem rX8_questionDigest_21 {R : zP} {x0 x1 x2 x4 x5 x6 : Option zV} {st : List zV} {M : zM} {a : Int} : uX8_questionDigest R 21 [x0, x1, x2, some (.inl a), x4, x5, x6] st M ↔ uX8_questionDigest R 22 [x0, x1, x2, some (.inl a), x4, x5, x6] (.inl a :: st) M := zU_step dX8_questionDigest_21 (Or.inl rfl)
theorem dX8_questionDigest_22 : decode cX8_questionDigest 22 = .ok (.iload 6, 2) := by decide +kernel
theorem rX8_questionDigest_22 {R : zP} {x0 x1 x2 x3 x4 x5 : Option zV} {st : List zV} {M : zM} {a : Int} : uX8_questionDigest R 22 [x0, x1, x2, x3, x4, x5, some (.inl a)] st M ↔ uX8_questionDigest R 24 [x0, x1, x2, x3, x4, x5, some (.inl a)] (.inl a :: st) M := zU_step dX8_questionDigest_22 (Or.inl rfl)
theorem dX8_questionDigest_24 : decode cX8_questionDigest 24 = .ok (.invokevirtual 233, 3) := by decide +kernel
theorem rX8_questionDigest_24 {R : zP} {x0 x1 x2 x3 x4 x5 x6 : Option zV} {st : List zV} {M : zM} {a0 a1 a2 a3 : zV} : uX8_questionDigest R 24 [x0, x1, x2, x3, x4, x5, x6] (a3 :: a2 :: a1 :: a0 :: st) M ↔ (st.length ≤ 4 ∧ zcv (zv 8 tX8_houseOf) [a0, a1, a2, a3] M (fun v M => uX8_questionDigest R 27 [x0, x1, x2, x3, x4, x5, x6] (v :: st) M)) := Iff.trans (zU_step dX8_questionDigest_24 (Or.inl rfl)) ⟨fun h => ⟨h.2.1, zcv_of h.2.2⟩, fun h => ⟨rfl, h.1, zcv_to h.2⟩⟩
theorem dX8_questionDigest_27 : decode cX8_questionDigest 27 = .ok (.i2l, 1) := by decide +kernel
theorem rX8_questionDigest_27 {R : zP} {x0 x1 x2 x3 x4 x5 x6 : Option zV} {st : List zV} {M : zM} {a : Int} : uX8_questionDigest R 27 [x0, x1, x2, x3, x4, x5, x6] (.inl a :: st) M ↔ (zIR a ∧ uX8_questionDigest R 28 [x0, x1, x2, x3, x4, x5, x6] (.inr (.inl a) :: st) M) := zU_step dX8_questionDigest_27 (Or.inl rfl)
theorem dX8_questionDigest_28 : decode cX8_questionDigest 28 = .ok (.ladd, 1) := by decide +kernel
theorem rX8_questionDigest_28 {R : zP} {x0 x1 x2 x3 x4 x5 x6 : Option zV} {st : List zV} {M : zM} {a b : Int} : uX8_questionDigest R 28 [x0, x1, x2, x3, x4, x5, x6] (.inr (.inl b) :: .inr (.inl a) :: st) M ↔ uX8_questionDigest R 29 [x0, x1, x2, x3, x4, x5, x6] (.inr (.inl (a + b)) :: st) M := zU_step dX8_questionDigest_28 (Or.inl rfl)
theorem dX8_questionDigest_29 : decode cX8_questionDigest 29 = .ok (.lstore 4, 2) := by decide +kernel
theorem rX8_questionDigest_29 {R : zP} {x0 x1 x2 x3 x4 x5 x6 : Option zV} {st : List zV} {M : zM} {a : Int} : uX8_questionDigest R 29 [x0, x1, x2, x3, x4, x5, x6] (.inr (.inl a) :: st) M ↔ uX8_questionDigest R 31 [x0, x1, x2, zkeep x3, some (.inr (.inl a)), none, x6] st M := Iff.trans (zU_step dX8_questionDigest_29 (Or.inl rfl)) ⟨fun h => h.2, fun h => ⟨show 4 + 1 < 7 by decide, h⟩⟩
theorem dX8_questionDigest_31 : decode cX8_questionDigest 31 = .ok (.iinc 6 1, 3) := by decide +kernel
theorem rX8_questionDigest_31 {R : zP} {x0 x1 x2 x3 x4 x5 : Option zV} {st : List zV} {M : zM} {a : Int} : uX8_questionDigest R 31 [x0, x1, x2, x3, x4, x5, some (.inl a)] st M ↔ uX8_questionDigest R 34 [x0, x1, x2, x3, x4, zkeep x5, some (.inl (a + (1)))] st M := Iff.trans (zU_step dX8_questionDigest_31 (Or.inl rfl)) ⟨fun h => h.2, fun h => ⟨show 6 < 7 by decide, h⟩⟩
theorem dX8_questionDigest_34 : decode cX8_questionDigest 34 = .ok (.goto (-28), 3) := by decide +kernel
theorem rX8_questionDigest_34 {R : zP} {x0 x1 x2 x3 x4 x5 x6 : Option zV} {st : List zV} {M : zM} : uX8_questionDigest R 34 [x0, x1, x2, x3, x4, x5, x6] st M ↔ uX8_questionDigest R 6 [x0, x1, x2, x3, x4, x5, x6] st M := Iff.trans (zU_step dX8_questionDigest_34 (Or.inl rfl)) ⟨fun h => h.2, fun h => ⟨by decide, h⟩⟩
theorem dX8_questionDigest_37 : decode cX8_questionDigest 37 = .ok (.iconst 0, 1) := by decide +kernel
theorem rX8_questionDigest_37 {R : zP} {x0 x1 x2 x3 x4 x5 x6 : Option zV} {st : List zV} {M : zM} : uX8_questionDigest R 37 [x0, x1, x2, x3, x4, x5, x6] st M ↔ uX8_questionDigest R 38 [x0, x1, x2, x3, x4, x5, x6] (.inl (0) :: st) M := zU_step dX8_questionDigest_37 (Or.inl rfl)
theorem dX8_questionDigest_38 : decode cX8_questionDigest 38 = .ok (.istore 6, 2) := by decide +kernel
theorem rX8_questionDigest_38 {R : zP} {x0 x1 x2 x3 x4 x5 x6 : Option zV} {st : List zV} {M : zM} {a : Int} : uX8_questionDigest R 38 [x0, x1, x2, x3, x4, x5, x6] (.inl a :: st) M ↔ uX8_questionDigest R 40 [x0, x1, x2, x3, x4, zkeep x5, some (.inl a)] st M := Iff.trans (zU_step dX8_questionDigest_38 (Or.inl rfl)) ⟨fun h => h.2, fun h => ⟨show 6 < 7 by decide, h⟩⟩
theorem dX8_questionDigest_40 : decode cX8_questionDigest 40 = .ok (.iload 6, 2) := by decide +kernel
theorem rX8_questionDigest_40 {R : zP} {x0 x1 x2 x3 x4 x5 : Option zV} {st : List zV} {M : zM} {a : Int} : uX8_questionDigest R 40 [x0, x1, x2, x3, x4, x5, some (.inl a)] st M ↔ uX8_questionDigest R 42 [x0, x1, x2, x3, x4, x5, some (.inl a)] (.inl a :: st) M := zU_step dX8_questionDigest_40 (Or.inl rfl)
theorem dX8_questionDigest_42 : decode cX8_questionDigest 42 = .ok (.iconst 3, 1) := by decide +kernel
theorem rX8_questionDigest_42 {R : zP} {x0 x1 x2 x3 x4 x5 x6 : Option zV} {st : List zV} {M : zM} : uX8_questionDigest R 42 [x0, x1, x2, x3, x4, x5, x6] st M ↔ uX8_questionDigest R 43 [x0, x1, x2, x3, x4, x5, x6] (.inl (3) :: st) M := zU_step dX8_questionDigest_42 (Or.inl rfl)
theorem dX8_questionDigest_43 : decode cX8_questionDigest 43 = .ok (.if_icmp .ge 28, 3) := by decide +kernel
theorem rX8_questionDigest_43 {R : zP} {x0 x1 x2 x3 x4 x5 x6 : Option zV} {st : List zV} {M : zM} {a b : Int} : uX8_questionDigest R 43 [x0, x1, x2, x3, x4, x5, x6] (.inl b :: .inl a :: st) M ↔ ((zIR a ∧ zIR b) ∧ (b ≤ a → uX8_questionDigest R 71 [x0, x1, x2, x3, x4, x5, x6] st M) ∧ (¬ b ≤ a → uX8_questionDigest R 46 [x0, x1, x2, x3, x4, x5, x6] st M)) := Iff.trans (zU_step dX8_questionDigest_43 (Or.inl rfl)) ⟨fun h => ⟨⟨h.1.1, h.1.2.1⟩, h.2⟩, fun h => ⟨⟨h.1.1, h.1.2, by decide⟩, h.2⟩⟩
theorem dX8_questionDigest_46 : decode cX8_questionDigest 46 = .ok (.ldc2_w 337, 3) := by decide +kernel
theorem rX8_questionDigest_46 {R : zP} {x0 x1 x2 x3 x4 x5 x6 : Option zV} {st : List zV} {M : zM} : uX8_questionDigest R 46 [x0, x1, x2, x3, x4, x5, x6] st M ↔ uX8_questionDigest R 49 [x0, x1, x2, x3, x4, x5, x6] (.inr (.inl (31)) :: st) M := zU_step dX8_questionDigest_46 (Or.inl rfl)
theorem dX8_questionDigest_49 : decode cX8_questionDigest 49 = .ok (.lload 4, 2) := by decide +kernel
theorem rX8_questionDigest_49 {R : zP} {x0 x1 x2 x3 x5 x6 : Option zV} {st : List zV} {M : zM} {a : Int} : uX8_questionDigest R 49 [x0, x1, x2, x3, some (.inr (.inl a)), x5, x6] st M ↔ uX8_questionDigest R 51 [x0, x1, x2, x3, some (.inr (.inl a)), x5, x6] (.inr (.inl a) :: st) M := zU_step dX8_questionDigest_49 (Or.inl rfl)
theorem dX8_questionDigest_51 : decode cX8_questionDigest 51 = .ok (.lmul, 1) := by decide +kernel
theorem rX8_questionDigest_51 {R : zP} {x0 x1 x2 x3 x4 x5 x6 : Option zV} {st : List zV} {M : zM} {a b : Int} : uX8_questionDigest R 51 [x0, x1, x2, x3, x4, x5, x6] (.inr (.inl b) :: .inr (.inl a) :: st) M ↔ uX8_questionDigest R 52 [x0, x1, x2, x3, x4, x5, x6] (.inr (.inl (a * b)) :: st) M := zU_step dX8_questionDigest_51 (Or.inl rfl)
theorem dX8_questionDigest_52 : decode cX8_questionDigest 52 = .ok (.aload_n 0, 1) := by decide +kernel
theorem rX8_questionDigest_52 {R : zP} {x1 x2 x3 x4 x5 x6 : Option zV} {st : List zV} {M : zM} {a : Nat} : uX8_questionDigest R 52 [some (.inr (.inr a)), x1, x2, x3, x4, x5, x6] st M ↔ uX8_questionDigest R 53 [some (.inr (.inr a)), x1, x2, x3, x4, x5, x6] (.inr (.inr a) :: st) M := zU_step dX8_questionDigest_52 (Or.inl rfl)
theorem dX8_questionDigest_53 : decode cX8_questionDigest 53 = .ok (.bipush 19, 2) := by decide +kernel
theorem rX8_questionDigest_53 {R : zP} {x0 x1 x2 x3 x4 x5 x6 : Option zV} {st : List zV} {M : zM} : uX8_questionDigest R 53 [x0, x1, x2, x3, x4, x5, x6] st M ↔ uX8_questionDigest R 55 [x0, x1, x2, x3, x4, x5, x6] (.inl (19) :: st) M := Iff.trans (zU_step dX8_questionDigest_53 (Or.inl rfl)) ⟨fun h => h.2, fun h => ⟨by decide, h⟩⟩
theorem dX8_questionDigest_55 : decode cX8_questionDigest 55 = .ok (.iload_n 3, 1) := by decide +kernel
theorem rX8_questionDigest_55 {R : zP} {x0 x1 x2 x4 x5 x6 : Option zV} {st : List zV} {M : zM} {a : Int} : uX8_questionDigest R 55 [x0, x1, x2, some (.inl a), x4, x5, x6] st M ↔ uX8_questionDigest R 56 [x0, x1, x2, some (.inl a), x4, x5, x6] (.inl a :: st) M := zU_step dX8_questionDigest_55 (Or.inl rfl)
theorem dX8_questionDigest_56 : decode cX8_questionDigest 56 = .ok (.iload 6, 2) := by decide +kernel
theorem rX8_questionDigest_56 {R : zP} {x0 x1 x2 x3 x4 x5 : Option zV} {st : List zV} {M : zM} {a : Int} : uX8_questionDigest R 56 [x0, x1, x2, x3, x4, x5, some (.inl a)] st M ↔ uX8_questionDigest R 58 [x0, x1, x2, x3, x4, x5, some (.inl a)] (.inl a :: st) M := zU_step dX8_questionDigest_56 (Or.inl rfl)
theorem dX8_questionDigest_58 : decode cX8_questionDigest 58 = .ok (.invokevirtual 233, 3) := by decide +kernel
theorem rX8_questionDigest_58 {R : zP} {x0 x1 x2 x3 x4 x5 x6 : Option zV} {st : List zV} {M : zM} {a0 a1 a2 a3 : zV} : uX8_questionDigest R 58 [x0, x1, x2, x3, x4, x5, x6] (a3 :: a2 :: a1 :: a0 :: st) M ↔ (st.length ≤ 4 ∧ zcv (zv 8 tX8_houseOf) [a0, a1, a2, a3] M (fun v M => uX8_questionDigest R 61 [x0, x1, x2, x3, x4, x5, x6] (v :: st) M)) := Iff.trans (zU_step dX8_questionDigest_58 (Or.inl rfl)) ⟨fun h => ⟨h.2.1, zcv_of h.2.2⟩, fun h => ⟨rfl, h.1, zcv_to h.2⟩⟩
theorem dX8_questionDigest_61 : decode cX8_questionDigest 61 = .ok (.i2l, 1) := by decide +kernel
theorem rX8_questionDigest_61 {R : zP} {x0 x1 x2 x3 x4 x5 x6 : Option zV} {st : List zV} {M : zM} {a : Int} : uX8_questionDigest R 61 [x0, x1, x2, x3, x4, x5, x6] (.inl a :: st) M ↔ (zIR a ∧ uX8_questionDigest R 62 [x0, x1, x2, x3, x4, x5, x6] (.inr (.inl a) :: st) M) := zU_step dX8_questionDigest_61 (Or.inl rfl)
theorem dX8_questionDigest_62 : decode cX8_questionDigest 62 = .ok (.ladd, 1) := by decide +kernel
theorem rX8_questionDigest_62 {R : zP} {x0 x1 x2 x3 x4 x5 x6 : Option zV} {st : List zV} {M : zM} {a b : Int} : uX8_questionDigest R 62 [x0, x1, x2, x3, x4, x5, x6] (.inr (.inl b) :: .inr (.inl a) :: st) M ↔ uX8_questionDigest R 63 [x0, x1, x2, x3, x4, x5, x6] (.inr (.inl (a + b)) :: st) M := zU_step dX8_questionDigest_62 (Or.inl rfl)
theorem dX8_questionDigest_63 : decode cX8_questionDigest 63 = .ok (.lstore 4, 2) := by decide +kernel
theorem rX8_questionDigest_63 {R : zP} {x0 x1 x2 x3 x4 x5 x6 : Option zV} {st : List zV} {M : zM} {a : Int} : uX8_questionDigest R 63 [x0, x1, x2, x3, x4, x5, x6] (.inr (.inl a) :: st) M ↔ uX8_questionDigest R 65 [x0, x1, x2, zkeep x3, some (.inr (.inl a)), none, x6] st M := Iff.trans (zU_step dX8_questionDigest_63 (Or.inl rfl)) ⟨fun h => h.2, fun h => ⟨show 4 + 1 < 7 by decide, h⟩⟩
theorem dX8_questionDigest_65 : decode cX8_questionDigest 65 = .ok (.iinc 6 1, 3) := by decide +kernel
theorem rX8_questionDigest_65 {R : zP} {x0 x1 x2 x3 x4 x5 : Option zV} {st : List zV} {M : zM} {a : Int} : uX8_questionDigest R 65 [x0, x1, x2, x3, x4, x5, some (.inl a)] st M ↔ uX8_questionDigest R 68 [x0, x1, x2, x3, x4, zkeep x5, some (.inl (a + (1)))] st M := Iff.trans (zU_step dX8_questionDigest_65 (Or.inl rfl)) ⟨fun h => h.2, fun h => ⟨show 6 < 7 by decide, h⟩⟩
theorem dX8_questionDigest_68 : decode cX8_questionDigest 68 = .ok (.goto (-28), 3) := by decide +kernel
theorem rX8_questionDigest_68 {R : zP} {x0 x1 x2 x3 x4 x5 x6 : Option zV} {st : List zV} {M : zM} : uX8_questionDigest R 68 [x0, x1, x2, x3, x4, x5, x6] st M ↔ uX8_questionDigest R 40 [x0, x1, x2, x3, x4, x5, x6] st M := Iff.trans (zU_step dX8_questionDigest_68 (Or.inl rfl)) ⟨fun h => h.2, fun h => ⟨by decide, h⟩⟩
theorem dX8_questionDigest_71 : decode cX8_questionDigest 71 = .ok (.ldc2_w 337, 3) := by decide +kernel
theorem rX8_questionDigest_71 {R : zP} {x0 x1 x2 x3 x4 x5 x6 : Option zV} {st : List zV} {M : zM} : uX8_questionDigest R 71 [x0, x1, x2, x3, x4, x5, x6] st M ↔ uX8_questionDigest R 74 [x0, x1, x2, x3, x4, x5, x6] (.inr (.inl (31)) :: st) M := zU_step dX8_questionDigest_71 (Or.inl rfl)
theorem dX8_questionDigest_74 : decode cX8_questionDigest 74 = .ok (.lload 4, 2) := by decide +kernel
theorem rX8_questionDigest_74 {R : zP} {x0 x1 x2 x3 x5 x6 : Option zV} {st : List zV} {M : zM} {a : Int} : uX8_questionDigest R 74 [x0, x1, x2, x3, some (.inr (.inl a)), x5, x6] st M ↔ uX8_questionDigest R 76 [x0, x1, x2, x3, some (.inr (.inl a)), x5, x6] (.inr (.inl a) :: st) M := zU_step dX8_questionDigest_74 (Or.inl rfl)
theorem dX8_questionDigest_76 : decode cX8_questionDigest 76 = .ok (.lmul, 1) := by decide +kernel
theorem rX8_questionDigest_76 {R : zP} {x0 x1 x2 x3 x4 x5 x6 : Option zV} {st : List zV} {M : zM} {a b : Int} : uX8_questionDigest R 76 [x0, x1, x2, x3, x4, x5, x6] (.inr (.inl b) :: .inr (.inl a) :: st) M ↔ uX8_questionDigest R 77 [x0, x1, x2, x3, x4, x5, x6] (.inr (.inl (a * b)) :: st) M := zU_step dX8_questionDigest_76 (Or.inl rfl)
theorem dX8_questionDigest_77 : decode cX8_questionDigest 77 = .ok (.aload_n 0, 1) := by decide +kernel
theorem rX8_questionDigest_77 {R : zP} {x1 x2 x3 x4 x5 x6 : Option zV} {st : List zV} {M : zM} {a : Nat} : uX8_questionDigest R 77 [some (.inr (.inr a)), x1, x2, x3, x4, x5, x6] st M ↔ uX8_questionDigest R 78 [some (.inr (.inr a)), x1, x2, x3, x4, x5, x6] (.inr (.inr a) :: st) M := zU_step dX8_questionDigest_77 (Or.inl rfl)
theorem dX8_questionDigest_78 : decode cX8_questionDigest 78 = .ok (.iload_n 3, 1) := by decide +kernel
theorem rX8_questionDigest_78 {R : zP} {x0 x1 x2 x4 x5 x6 : Option zV} {st : List zV} {M : zM} {a : Int} : uX8_questionDigest R 78 [x0, x1, x2, some (.inl a), x4, x5, x6] st M ↔ uX8_questionDigest R 79 [x0, x1, x2, some (.inl a), x4, x5, x6] (.inl a :: st) M := zU_step dX8_questionDigest_78 (Or.inl rfl)
theorem dX8_questionDigest_79 : decode cX8_questionDigest 79 = .ok (.invokevirtual 246, 3) := by decide +kernel
theorem rX8_questionDigest_79 {R : zP} {x0 x1 x2 x3 x4 x5 x6 : Option zV} {st : List zV} {M : zM} {a0 a1 : zV} : uX8_questionDigest R 79 [x0, x1, x2, x3, x4, x5, x6] (a1 :: a0 :: st) M ↔ (st.length ≤ 4 ∧ zcv (zv 8 tX8_noOf) [a0, a1] M (fun v M => uX8_questionDigest R 82 [x0, x1, x2, x3, x4, x5, x6] (v :: st) M)) := Iff.trans (zU_step dX8_questionDigest_79 (Or.inl rfl)) ⟨fun h => ⟨h.2.1, zcv_of h.2.2⟩, fun h => ⟨rfl, h.1, zcv_to h.2⟩⟩
theorem dX8_questionDigest_82 : decode cX8_questionDigest 82 = .ok (.i2l, 1) := by decide +kernel
theorem rX8_questionDigest_82 {R : zP} {x0 x1 x2 x3 x4 x5 x6 : Option zV} {st : List zV} {M : zM} {a : Int} : uX8_questionDigest R 82 [x0, x1, x2, x3, x4, x5, x6] (.inl a :: st) M ↔ (zIR a ∧ uX8_questionDigest R 83 [x0, x1, x2, x3, x4, x5, x6] (.inr (.inl a) :: st) M) := zU_step dX8_questionDigest_82 (Or.inl rfl)
theorem dX8_questionDigest_83 : decode cX8_questionDigest 83 = .ok (.ladd, 1) := by decide +kernel
theorem rX8_questionDigest_83 {R : zP} {x0 x1 x2 x3 x4 x5 x6 : Option zV} {st : List zV} {M : zM} {a b : Int} : uX8_questionDigest R 83 [x0, x1, x2, x3, x4, x5, x6] (.inr (.inl b) :: .inr (.inl a) :: st) M ↔ uX8_questionDigest R 84 [x0, x1, x2, x3, x4, x5, x6] (.inr (.inl (a + b)) :: st) M := zU_step dX8_questionDigest_83 (Or.inl rfl)
theorem dX8_questionDigest_84 : decode cX8_questionDigest 84 = .ok (.lstore 4, 2) := by decide +kernel
theorem rX8_questionDigest_84 {R : zP} {x0 x1 x2 x3 x4 x5 x6 : Option zV} {st : List zV} {M : zM} {a : Int} : uX8_questionDigest R 84 [x0, x1, x2, x3, x4, x5, x6] (.inr (.inl a) :: st) M ↔ uX8_questionDigest R 86 [x0, x1, x2, zkeep x3, some (.inr (.inl a)), none, x6] st M := Iff.trans (zU_step dX8_questionDigest_84 (Or.inl rfl)) ⟨fun h => h.2, fun h => ⟨show 4 + 1 < 7 by decide, h⟩⟩
theorem dX8_questionDigest_86 : decode cX8_questionDigest 86 = .ok (.iconst 0, 1) := by decide +kernel
theorem rX8_questionDigest_86 {R : zP} {x0 x1 x2 x3 x4 x5 x6 : Option zV} {st : List zV} {M : zM} : uX8_questionDigest R 86 [x0, x1, x2, x3, x4, x5, x6] st M ↔ uX8_questionDigest R 87 [x0, x1, x2, x3, x4, x5, x6] (.inl (0) :: st) M := zU_step dX8_questionDigest_86 (Or.inl rfl)
theorem dX8_questionDigest_87 : decode cX8_questionDigest 87 = .ok (.istore 6, 2) := by decide +kernel
theorem rX8_questionDigest_87 {R : zP} {x0 x1 x2 x3 x4 x5 x6 : Option zV} {st : List zV} {M : zM} {a : Int} : uX8_questionDigest R 87 [x0, x1, x2, x3, x4, x5, x6] (.inl a :: st) M ↔ uX8_questionDigest R 89 [x0, x1, x2, x3, x4, zkeep x5, some (.inl a)] st M := Iff.trans (zU_step dX8_questionDigest_87 (Or.inl rfl)) ⟨fun h => h.2, fun h => ⟨show 6 < 7 by decide, h⟩⟩
theorem dX8_questionDigest_89 : decode cX8_questionDigest 89 = .ok (.iload 6, 2) := by decide +kernel
theorem rX8_questionDigest_89 {R : zP} {x0 x1 x2 x3 x4 x5 : Option zV} {st : List zV} {M : zM} {a : Int} : uX8_questionDigest R 89 [x0, x1, x2, x3, x4, x5, some (.inl a)] st M ↔ uX8_questionDigest R 91 [x0, x1, x2, x3, x4, x5, some (.inl a)] (.inl a :: st) M := zU_step dX8_questionDigest_89 (Or.inl rfl)
theorem dX8_questionDigest_91 : decode cX8_questionDigest 91 = .ok (.iconst 3, 1) := by decide +kernel
theorem rX8_questionDigest_91 {R : zP} {x0 x1 x2 x3 x4 x5 x6 : Option zV} {st : List zV} {M : zM} : uX8_questionDigest R 91 [x0, x1, x2, x3, x4, x5, x6] st M ↔ uX8_questionDigest R 92 [x0, x1, x2, x3, x4, x5, x6] (.inl (3) :: st) M := zU_step dX8_questionDigest_91 (Or.inl rfl)
theorem dX8_questionDigest_92 : decode cX8_questionDigest 92 = .ok (.if_icmp .ge 28, 3) := by decide +kernel
theorem rX8_questionDigest_92 {R : zP} {x0 x1 x2 x3 x4 x5 x6 : Option zV} {st : List zV} {M : zM} {a b : Int} : uX8_questionDigest R 92 [x0, x1, x2, x3, x4, x5, x6] (.inl b :: .inl a :: st) M ↔ ((zIR a ∧ zIR b) ∧ (b ≤ a → uX8_questionDigest R 120 [x0, x1, x2, x3, x4, x5, x6] st M) ∧ (¬ b ≤ a → uX8_questionDigest R 95 [x0, x1, x2, x3, x4, x5, x6] st M)) := Iff.trans (zU_step dX8_questionDigest_92 (Or.inl rfl)) ⟨fun h => ⟨⟨h.1.1, h.1.2.1⟩, h.2⟩, fun h => ⟨⟨h.1.1, h.1.2, by decide⟩, h.2⟩⟩
theorem dX8_questionDigest_95 : decode cX8_questionDigest 95 = .ok (.ldc2_w 337, 3) := by decide +kernel
theorem rX8_questionDigest_95 {R : zP} {x0 x1 x2 x3 x4 x5 x6 : Option zV} {st : List zV} {M : zM} : uX8_questionDigest R 95 [x0, x1, x2, x3, x4, x5, x6] st M ↔ uX8_questionDigest R 98 [x0, x1, x2, x3, x4, x5, x6] (.inr (.inl (31)) :: st) M := zU_step dX8_questionDigest_95 (Or.inl rfl)
theorem dX8_questionDigest_98 : decode cX8_questionDigest 98 = .ok (.lload 4, 2) := by decide +kernel
theorem rX8_questionDigest_98 {R : zP} {x0 x1 x2 x3 x5 x6 : Option zV} {st : List zV} {M : zM} {a : Int} : uX8_questionDigest R 98 [x0, x1, x2, x3, some (.inr (.inl a)), x5, x6] st M ↔ uX8_questionDigest R 100 [x0, x1, x2, x3, some (.inr (.inl a)), x5, x6] (.inr (.inl a) :: st) M := zU_step dX8_questionDigest_98 (Or.inl rfl)
theorem dX8_questionDigest_100 : decode cX8_questionDigest 100 = .ok (.lmul, 1) := by decide +kernel
theorem rX8_questionDigest_100 {R : zP} {x0 x1 x2 x3 x4 x5 x6 : Option zV} {st : List zV} {M : zM} {a b : Int} : uX8_questionDigest R 100 [x0, x1, x2, x3, x4, x5, x6] (.inr (.inl b) :: .inr (.inl a) :: st) M ↔ uX8_questionDigest R 101 [x0, x1, x2, x3, x4, x5, x6] (.inr (.inl (a * b)) :: st) M := zU_step dX8_questionDigest_100 (Or.inl rfl)
theorem dX8_questionDigest_101 : decode cX8_questionDigest 101 = .ok (.aload_n 0, 1) := by decide +kernel
theorem rX8_questionDigest_101 {R : zP} {x1 x2 x3 x4 x5 x6 : Option zV} {st : List zV} {M : zM} {a : Nat} : uX8_questionDigest R 101 [some (.inr (.inr a)), x1, x2, x3, x4, x5, x6] st M ↔ uX8_questionDigest R 102 [some (.inr (.inr a)), x1, x2, x3, x4, x5, x6] (.inr (.inr a) :: st) M := zU_step dX8_questionDigest_101 (Or.inl rfl)
theorem dX8_questionDigest_102 : decode cX8_questionDigest 102 = .ok (.bipush 8, 2) := by decide +kernel
theorem rX8_questionDigest_102 {R : zP} {x0 x1 x2 x3 x4 x5 x6 : Option zV} {st : List zV} {M : zM} : uX8_questionDigest R 102 [x0, x1, x2, x3, x4, x5, x6] st M ↔ uX8_questionDigest R 104 [x0, x1, x2, x3, x4, x5, x6] (.inl (8) :: st) M := Iff.trans (zU_step dX8_questionDigest_102 (Or.inl rfl)) ⟨fun h => h.2, fun h => ⟨by decide, h⟩⟩
theorem dX8_questionDigest_104 : decode cX8_questionDigest 104 = .ok (.iload_n 3, 1) := by decide +kernel
theorem rX8_questionDigest_104 {R : zP} {x0 x1 x2 x4 x5 x6 : Option zV} {st : List zV} {M : zM} {a : Int} : uX8_questionDigest R 104 [x0, x1, x2, some (.inl a), x4, x5, x6] st M ↔ uX8_questionDigest R 105 [x0, x1, x2, some (.inl a), x4, x5, x6] (.inl a :: st) M := zU_step dX8_questionDigest_104 (Or.inl rfl)
theorem dX8_questionDigest_105 : decode cX8_questionDigest 105 = .ok (.iload 6, 2) := by decide +kernel
theorem rX8_questionDigest_105 {R : zP} {x0 x1 x2 x3 x4 x5 : Option zV} {st : List zV} {M : zM} {a : Int} : uX8_questionDigest R 105 [x0, x1, x2, x3, x4, x5, some (.inl a)] st M ↔ uX8_questionDigest R 107 [x0, x1, x2, x3, x4, x5, some (.inl a)] (.inl a :: st) M := zU_step dX8_questionDigest_105 (Or.inl rfl)
theorem dX8_questionDigest_107 : decode cX8_questionDigest 107 = .ok (.invokevirtual 281, 3) := by decide +kernel
theorem rX8_questionDigest_107 {R : zP} {x0 x1 x2 x3 x4 x5 x6 : Option zV} {st : List zV} {M : zM} {a0 a1 a2 a3 : zV} : uX8_questionDigest R 107 [x0, x1, x2, x3, x4, x5, x6] (a3 :: a2 :: a1 :: a0 :: st) M ↔ (st.length ≤ 4 ∧ zcv (zv 8 tX8_carryOf) [a0, a1, a2, a3] M (fun v M => uX8_questionDigest R 110 [x0, x1, x2, x3, x4, x5, x6] (v :: st) M)) := Iff.trans (zU_step dX8_questionDigest_107 (Or.inl rfl)) ⟨fun h => ⟨h.2.1, zcv_of h.2.2⟩, fun h => ⟨rfl, h.1, zcv_to h.2⟩⟩
theorem dX8_questionDigest_110 : decode cX8_questionDigest 110 = .ok (.i2l, 1) := by decide +kernel
theorem rX8_questionDigest_110 {R : zP} {x0 x1 x2 x3 x4 x5 x6 : Option zV} {st : List zV} {M : zM} {a : Int} : uX8_questionDigest R 110 [x0, x1, x2, x3, x4, x5, x6] (.inl a :: st) M ↔ (zIR a ∧ uX8_questionDigest R 111 [x0, x1, x2, x3, x4, x5, x6] (.inr (.inl a) :: st) M) := zU_step dX8_questionDigest_110 (Or.inl rfl)
theorem dX8_questionDigest_111 : decode cX8_questionDigest 111 = .ok (.ladd, 1) := by decide +kernel
theorem rX8_questionDigest_111 {R : zP} {x0 x1 x2 x3 x4 x5 x6 : Option zV} {st : List zV} {M : zM} {a b : Int} : uX8_questionDigest R 111 [x0, x1, x2, x3, x4, x5, x6] (.inr (.inl b) :: .inr (.inl a) :: st) M ↔ uX8_questionDigest R 112 [x0, x1, x2, x3, x4, x5, x6] (.inr (.inl (a + b)) :: st) M := zU_step dX8_questionDigest_111 (Or.inl rfl)
theorem dX8_questionDigest_112 : decode cX8_questionDigest 112 = .ok (.lstore 4, 2) := by decide +kernel
theorem rX8_questionDigest_112 {R : zP} {x0 x1 x2 x3 x4 x5 x6 : Option zV} {st : List zV} {M : zM} {a : Int} : uX8_questionDigest R 112 [x0, x1, x2, x3, x4, x5, x6] (.inr (.inl a) :: st) M ↔ uX8_questionDigest R 114 [x0, x1, x2, zkeep x3, some (.inr (.inl a)), none, x6] st M := Iff.trans (zU_step dX8_questionDigest_112 (Or.inl rfl)) ⟨fun h => h.2, fun h => ⟨show 4 + 1 < 7 by decide, h⟩⟩
theorem dX8_questionDigest_114 : decode cX8_questionDigest 114 = .ok (.iinc 6 1, 3) := by decide +kernel
theorem rX8_questionDigest_114 {R : zP} {x0 x1 x2 x3 x4 x5 : Option zV} {st : List zV} {M : zM} {a : Int} : uX8_questionDigest R 114 [x0, x1, x2, x3, x4, x5, some (.inl a)] st M ↔ uX8_questionDigest R 117 [x0, x1, x2, x3, x4, zkeep x5, some (.inl (a + (1)))] st M := Iff.trans (zU_step dX8_questionDigest_114 (Or.inl rfl)) ⟨fun h => h.2, fun h => ⟨show 6 < 7 by decide, h⟩⟩
theorem dX8_questionDigest_117 : decode cX8_questionDigest 117 = .ok (.goto (-28), 3) := by decide +kernel
theorem rX8_questionDigest_117 {R : zP} {x0 x1 x2 x3 x4 x5 x6 : Option zV} {st : List zV} {M : zM} : uX8_questionDigest R 117 [x0, x1, x2, x3, x4, x5, x6] st M ↔ uX8_questionDigest R 89 [x0, x1, x2, x3, x4, x5, x6] st M := Iff.trans (zU_step dX8_questionDigest_117 (Or.inl rfl)) ⟨fun h => h.2, fun h => ⟨by decide, h⟩⟩
theorem dX8_questionDigest_120 : decode cX8_questionDigest 120 = .ok (.ldc2_w 337, 3) := by decide +kernel
theorem rX8_questionDigest_120 {R : zP} {x0 x1 x2 x3 x4 x5 x6 : Option zV} {st : List zV} {M : zM} : uX8_questionDigest R 120 [x0, x1, x2, x3, x4, x5, x6] st M ↔ uX8_questionDigest R 123 [x0, x1, x2, x3, x4, x5, x6] (.inr (.inl (31)) :: st) M := zU_step dX8_questionDigest_120 (Or.inl rfl)
theorem dX8_questionDigest_123 : decode cX8_questionDigest 123 = .ok (.lload 4, 2) := by decide +kernel
theorem rX8_questionDigest_123 {R : zP} {x0 x1 x2 x3 x5 x6 : Option zV} {st : List zV} {M : zM} {a : Int} : uX8_questionDigest R 123 [x0, x1, x2, x3, some (.inr (.inl a)), x5, x6] st M ↔ uX8_questionDigest R 125 [x0, x1, x2, x3, some (.inr (.inl a)), x5, x6] (.inr (.inl a) :: st) M := zU_step dX8_questionDigest_123 (Or.inl rfl)
theorem dX8_questionDigest_125 : decode cX8_questionDigest 125 = .ok (.lmul, 1) := by decide +kernel
theorem rX8_questionDigest_125 {R : zP} {x0 x1 x2 x3 x4 x5 x6 : Option zV} {st : List zV} {M : zM} {a b : Int} : uX8_questionDigest R 125 [x0, x1, x2, x3, x4, x5, x6] (.inr (.inl b) :: .inr (.inl a) :: st) M ↔ uX8_questionDigest R 126 [x0, x1, x2, x3, x4, x5, x6] (.inr (.inl (a * b)) :: st) M := zU_step dX8_questionDigest_125 (Or.inl rfl)
theorem dX8_questionDigest_126 : decode cX8_questionDigest 126 = .ok (.aload_n 0, 1) := by decide +kernel
theorem rX8_questionDigest_126 {R : zP} {x1 x2 x3 x4 x5 x6 : Option zV} {st : List zV} {M : zM} {a : Nat} : uX8_questionDigest R 126 [some (.inr (.inr a)), x1, x2, x3, x4, x5, x6] st M ↔ uX8_questionDigest R 127 [some (.inr (.inr a)), x1, x2, x3, x4, x5, x6] (.inr (.inr a) :: st) M := zU_step dX8_questionDigest_126 (Or.inl rfl)
theorem dX8_questionDigest_127 : decode cX8_questionDigest 127 = .ok (.iconst 5, 1) := by decide +kernel
theorem rX8_questionDigest_127 {R : zP} {x0 x1 x2 x3 x4 x5 x6 : Option zV} {st : List zV} {M : zM} : uX8_questionDigest R 127 [x0, x1, x2, x3, x4, x5, x6] st M ↔ uX8_questionDigest R 128 [x0, x1, x2, x3, x4, x5, x6] (.inl (5) :: st) M := zU_step dX8_questionDigest_127 (Or.inl rfl)
theorem dX8_questionDigest_128 : decode cX8_questionDigest 128 = .ok (.bipush 14, 2) := by decide +kernel
theorem rX8_questionDigest_128 {R : zP} {x0 x1 x2 x3 x4 x5 x6 : Option zV} {st : List zV} {M : zM} : uX8_questionDigest R 128 [x0, x1, x2, x3, x4, x5, x6] st M ↔ uX8_questionDigest R 130 [x0, x1, x2, x3, x4, x5, x6] (.inl (14) :: st) M := Iff.trans (zU_step dX8_questionDigest_128 (Or.inl rfl)) ⟨fun h => h.2, fun h => ⟨by decide, h⟩⟩
theorem dX8_questionDigest_130 : decode cX8_questionDigest 130 = .ok (.iload_n 3, 1) := by decide +kernel
theorem rX8_questionDigest_130 {R : zP} {x0 x1 x2 x4 x5 x6 : Option zV} {st : List zV} {M : zM} {a : Int} : uX8_questionDigest R 130 [x0, x1, x2, some (.inl a), x4, x5, x6] st M ↔ uX8_questionDigest R 131 [x0, x1, x2, some (.inl a), x4, x5, x6] (.inl a :: st) M := zU_step dX8_questionDigest_130 (Or.inl rfl)
theorem dX8_questionDigest_131 : decode cX8_questionDigest 131 = .ok (.iconst 0, 1) := by decide +kernel
theorem rX8_questionDigest_131 {R : zP} {x0 x1 x2 x3 x4 x5 x6 : Option zV} {st : List zV} {M : zM} : uX8_questionDigest R 131 [x0, x1, x2, x3, x4, x5, x6] st M ↔ uX8_questionDigest R 132 [x0, x1, x2, x3, x4, x5, x6] (.inl (0) :: st) M := zU_step dX8_questionDigest_131 (Or.inl rfl)
theorem dX8_questionDigest_132 : decode cX8_questionDigest 132 = .ok (.invokevirtual 309, 3) := by decide +kernel
theorem rX8_questionDigest_132 {R : zP} {x0 x1 x2 x3 x4 x5 x6 : Option zV} {st : List zV} {M : zM} {a0 a1 a2 a3 a4 : zV} : uX8_questionDigest R 132 [x0, x1, x2, x3, x4, x5, x6] (a4 :: a3 :: a2 :: a1 :: a0 :: st) M ↔ (st.length ≤ 4 ∧ zcv (zv 8 tX8_creamOf) [a0, a1, a2, a3, a4] M (fun v M => uX8_questionDigest R 135 [x0, x1, x2, x3, x4, x5, x6] (v :: st) M)) := Iff.trans (zU_step dX8_questionDigest_132 (Or.inl rfl)) ⟨fun h => ⟨h.2.1, zcv_of h.2.2⟩, fun h => ⟨rfl, h.1, zcv_to h.2⟩⟩
theorem dX8_questionDigest_135 : decode cX8_questionDigest 135 = .ok (.ladd, 1) := by decide +kernel
theorem rX8_questionDigest_135 {R : zP} {x0 x1 x2 x3 x4 x5 x6 : Option zV} {st : List zV} {M : zM} {a b : Int} : uX8_questionDigest R 135 [x0, x1, x2, x3, x4, x5, x6] (.inr (.inl b) :: .inr (.inl a) :: st) M ↔ uX8_questionDigest R 136 [x0, x1, x2, x3, x4, x5, x6] (.inr (.inl (a + b)) :: st) M := zU_step dX8_questionDigest_135 (Or.inl rfl)
theorem dX8_questionDigest_136 : decode cX8_questionDigest 136 = .ok (.lstore 4, 2) := by decide +kernel
theorem rX8_questionDigest_136 {R : zP} {x0 x1 x2 x3 x4 x5 x6 : Option zV} {st : List zV} {M : zM} {a : Int} : uX8_questionDigest R 136 [x0, x1, x2, x3, x4, x5, x6] (.inr (.inl a) :: st) M ↔ uX8_questionDigest R 138 [x0, x1, x2, zkeep x3, some (.inr (.inl a)), none, x6] st M := Iff.trans (zU_step dX8_questionDigest_136 (Or.inl rfl)) ⟨fun h => h.2, fun h => ⟨show 4 + 1 < 7 by decide, h⟩⟩
theorem dX8_questionDigest_138 : decode cX8_questionDigest 138 = .ok (.ldc2_w 337, 3) := by decide +kernel
theorem rX8_questionDigest_138 {R : zP} {x0 x1 x2 x3 x4 x5 x6 : Option zV} {st : List zV} {M : zM} : uX8_questionDigest R 138 [x0, x1, x2, x3, x4, x5, x6] st M ↔ uX8_questionDigest R 141 [x0, x1, x2, x3, x4, x5, x6] (.inr (.inl (31)) :: st) M := zU_step dX8_questionDigest_138 (Or.inl rfl)
theorem dX8_questionDigest_141 : decode cX8_questionDigest 141 = .ok (.lload 4, 2) := by decide +kernel
theorem rX8_questionDigest_141 {R : zP} {x0 x1 x2 x3 x5 x6 : Option zV} {st : List zV} {M : zM} {a : Int} : uX8_questionDigest R 141 [x0, x1, x2, x3, some (.inr (.inl a)), x5, x6] st M ↔ uX8_questionDigest R 143 [x0, x1, x2, x3, some (.inr (.inl a)), x5, x6] (.inr (.inl a) :: st) M := zU_step dX8_questionDigest_141 (Or.inl rfl)
theorem dX8_questionDigest_143 : decode cX8_questionDigest 143 = .ok (.lmul, 1) := by decide +kernel
theorem rX8_questionDigest_143 {R : zP} {x0 x1 x2 x3 x4 x5 x6 : Option zV} {st : List zV} {M : zM} {a b : Int} : uX8_questionDigest R 143 [x0, x1, x2, x3, x4, x5, x6] (.inr (.inl b) :: .inr (.inl a) :: st) M ↔ uX8_questionDigest R 144 [x0, x1, x2, x3, x4, x5, x6] (.inr (.inl (a * b)) :: st) M := zU_step dX8_questionDigest_143 (Or.inl rfl)
theorem dX8_questionDigest_144 : decode cX8_questionDigest 144 = .ok (.aload_n 0, 1) := by decide +kernel
theorem rX8_questionDigest_144 {R : zP} {x1 x2 x3 x4 x5 x6 : Option zV} {st : List zV} {M : zM} {a : Nat} : uX8_questionDigest R 144 [some (.inr (.inr a)), x1, x2, x3, x4, x5, x6] st M ↔ uX8_questionDigest R 145 [some (.inr (.inr a)), x1, x2, x3, x4, x5, x6] (.inr (.inr a) :: st) M := zU_step dX8_questionDigest_144 (Or.inl rfl)
theorem dX8_questionDigest_145 : decode cX8_questionDigest 145 = .ok (.iconst 5, 1) := by decide +kernel
theorem rX8_questionDigest_145 {R : zP} {x0 x1 x2 x3 x4 x5 x6 : Option zV} {st : List zV} {M : zM} : uX8_questionDigest R 145 [x0, x1, x2, x3, x4, x5, x6] st M ↔ uX8_questionDigest R 146 [x0, x1, x2, x3, x4, x5, x6] (.inl (5) :: st) M := zU_step dX8_questionDigest_145 (Or.inl rfl)
theorem dX8_questionDigest_146 : decode cX8_questionDigest 146 = .ok (.bipush 14, 2) := by decide +kernel
theorem rX8_questionDigest_146 {R : zP} {x0 x1 x2 x3 x4 x5 x6 : Option zV} {st : List zV} {M : zM} : uX8_questionDigest R 146 [x0, x1, x2, x3, x4, x5, x6] st M ↔ uX8_questionDigest R 148 [x0, x1, x2, x3, x4, x5, x6] (.inl (14) :: st) M := Iff.trans (zU_step dX8_questionDigest_146 (Or.inl rfl)) ⟨fun h => h.2, fun h => ⟨by decide, h⟩⟩
theorem dX8_questionDigest_148 : decode cX8_questionDigest 148 = .ok (.iload_n 3, 1) := by decide +kernel
theorem rX8_questionDigest_148 {R : zP} {x0 x1 x2 x4 x5 x6 : Option zV} {st : List zV} {M : zM} {a : Int} : uX8_questionDigest R 148 [x0, x1, x2, some (.inl a), x4, x5, x6] st M ↔ uX8_questionDigest R 149 [x0, x1, x2, some (.inl a), x4, x5, x6] (.inl a :: st) M := zU_step dX8_questionDigest_148 (Or.inl rfl)
theorem dX8_questionDigest_149 : decode cX8_questionDigest 149 = .ok (.iconst 1, 1) := by decide +kernel
theorem rX8_questionDigest_149 {R : zP} {x0 x1 x2 x3 x4 x5 x6 : Option zV} {st : List zV} {M : zM} : uX8_questionDigest R 149 [x0, x1, x2, x3, x4, x5, x6] st M ↔ uX8_questionDigest R 150 [x0, x1, x2, x3, x4, x5, x6] (.inl (1) :: st) M := zU_step dX8_questionDigest_149 (Or.inl rfl)
theorem dX8_questionDigest_150 : decode cX8_questionDigest 150 = .ok (.invokevirtual 309, 3) := by decide +kernel
theorem rX8_questionDigest_150 {R : zP} {x0 x1 x2 x3 x4 x5 x6 : Option zV} {st : List zV} {M : zM} {a0 a1 a2 a3 a4 : zV} : uX8_questionDigest R 150 [x0, x1, x2, x3, x4, x5, x6] (a4 :: a3 :: a2 :: a1 :: a0 :: st) M ↔ (st.length ≤ 4 ∧ zcv (zv 8 tX8_creamOf) [a0, a1, a2, a3, a4] M (fun v M => uX8_questionDigest R 153 [x0, x1, x2, x3, x4, x5, x6] (v :: st) M)) := Iff.trans (zU_step dX8_questionDigest_150 (Or.inl rfl)) ⟨fun h => ⟨h.2.1, zcv_of h.2.2⟩, fun h => ⟨rfl, h.1, zcv_to h.2⟩⟩
theorem dX8_questionDigest_153 : decode cX8_questionDigest 153 = .ok (.ladd, 1) := by decide +kernel
theorem rX8_questionDigest_153 {R : zP} {x0 x1 x2 x3 x4 x5 x6 : Option zV} {st : List zV} {M : zM} {a b : Int} : uX8_questionDigest R 153 [x0, x1, x2, x3, x4, x5, x6] (.inr (.inl b) :: .inr (.inl a) :: st) M ↔ uX8_questionDigest R 154 [x0, x1, x2, x3, x4, x5, x6] (.inr (.inl (a + b)) :: st) M := zU_step dX8_questionDigest_153 (Or.inl rfl)
theorem dX8_questionDigest_154 : decode cX8_questionDigest 154 = .ok (.lreturn, 1) := by decide +kernel
theorem rX8_questionDigest_154 {R : zP} {x0 x1 x2 x3 x4 x5 x6 : Option zV} {M : zM} {a : Int} : uX8_questionDigest R 154 [x0, x1, x2, x3, x4, x5, x6] [.inr (.inl a)] M ↔ R (some (.inr (.inl a))) M := Iff.trans (zU_step dX8_questionDigest_154 (Or.inl rfl)) ⟨fun h => h.2.2, fun h => ⟨rfl, rfl, h⟩⟩
theorem eX8_questionDigest {R : zP} {M : zM} {a0 : Nat} {p0 : Int} {p1 : Int} : tX8_questionDigest [.inr (.inr a0), .inr (.inl p0), .inl p1] M R ↔ uX8_questionDigest R 0 [some (.inr (.inr a0)), some (.inr (.inl p0)), none, some (.inl p1), none, none, none] [] M := ⟨fun h => h.2, fun h => ⟨show 4 ≤ 7 by decide, h⟩⟩
def uX8_digest (R : zP) : zK := zU fX8 vX8_digest cX8_digest R
theorem dX8_digest_0 : decode cX8_digest 0 = .ok (.ldc2_w 346, 3) := by decide +kernel
theorem rX8_digest_0 {R : zP} {x0 x1 x2 x3 x4 : Option zV} {st : List zV} {M : zM} : uX8_digest R 0 [x0, x1, x2, x3, x4] st M ↔ uX8_digest R 3 [x0, x1, x2, x3, x4] (.inr (.inl (17)) :: st) M := zU_step dX8_digest_0 (Or.inl rfl)
theorem dX8_digest_3 : decode cX8_digest 3 = .ok (.lstore_n 1, 1) := by decide +kernel
theorem rX8_digest_3 {R : zP} {x0 x1 x2 x3 x4 : Option zV} {st : List zV} {M : zM} {a : Int} : uX8_digest R 3 [x0, x1, x2, x3, x4] (.inr (.inl a) :: st) M ↔ uX8_digest R 4 [zkeep x0, some (.inr (.inl a)), none, x3, x4] st M := Iff.trans (zU_step dX8_digest_3 (Or.inl rfl)) ⟨fun h => h.2, fun h => ⟨show 1 + 1 < 5 by decide, h⟩⟩
theorem dX8_digest_4 : decode cX8_digest 4 = .ok (.iconst 0, 1) := by decide +kernel
theorem rX8_digest_4 {R : zP} {x0 x1 x2 x3 x4 : Option zV} {st : List zV} {M : zM} : uX8_digest R 4 [x0, x1, x2, x3, x4] st M ↔ uX8_digest R 5 [x0, x1, x2, x3, x4] (.inl (0) :: st) M := zU_step dX8_digest_4 (Or.inl rfl)
theorem dX8_digest_5 : decode cX8_digest 5 = .ok (.istore_n 3, 1) := by decide +kernel
theorem rX8_digest_5 {R : zP} {x0 x1 x2 x3 x4 : Option zV} {st : List zV} {M : zM} {a : Int} : uX8_digest R 5 [x0, x1, x2, x3, x4] (.inl a :: st) M ↔ uX8_digest R 6 [x0, x1, zkeep x2, some (.inl a), x4] st M := Iff.trans (zU_step dX8_digest_5 (Or.inl rfl)) ⟨fun h => h.2, fun h => ⟨show 3 < 5 by decide, h⟩⟩
theorem dX8_digest_6 : decode cX8_digest 6 = .ok (.iload_n 3, 1) := by decide +kernel
theorem rX8_digest_6 {R : zP} {x0 x1 x2 x4 : Option zV} {st : List zV} {M : zM} {a : Int} : uX8_digest R 6 [x0, x1, x2, some (.inl a), x4] st M ↔ uX8_digest R 7 [x0, x1, x2, some (.inl a), x4] (.inl a :: st) M := zU_step dX8_digest_6 (Or.inl rfl)
theorem dX8_digest_7 : decode cX8_digest 7 = .ok (.bipush 8, 2) := by decide +kernel
theorem rX8_digest_7 {R : zP} {x0 x1 x2 x3 x4 : Option zV} {st : List zV} {M : zM} : uX8_digest R 7 [x0, x1, x2, x3, x4] st M ↔ uX8_digest R 9 [x0, x1, x2, x3, x4] (.inl (8) :: st) M := Iff.trans (zU_step dX8_digest_7 (Or.inl rfl)) ⟨fun h => h.2, fun h => ⟨by decide, h⟩⟩
theorem dX8_digest_9 : decode cX8_digest 9 = .ok (.if_icmp .ge 22, 3) := by decide +kernel
theorem rX8_digest_9 {R : zP} {x0 x1 x2 x3 x4 : Option zV} {st : List zV} {M : zM} {a b : Int} : uX8_digest R 9 [x0, x1, x2, x3, x4] (.inl b :: .inl a :: st) M ↔ ((zIR a ∧ zIR b) ∧ (b ≤ a → uX8_digest R 31 [x0, x1, x2, x3, x4] st M) ∧ (¬ b ≤ a → uX8_digest R 12 [x0, x1, x2, x3, x4] st M)) := Iff.trans (zU_step dX8_digest_9 (Or.inl rfl)) ⟨fun h => ⟨⟨h.1.1, h.1.2.1⟩, h.2⟩, fun h => ⟨⟨h.1.1, h.1.2, by decide⟩, h.2⟩⟩
theorem dX8_digest_12 : decode cX8_digest 12 = .ok (.ldc2_w 337, 3) := by decide +kernel
theorem rX8_digest_12 {R : zP} {x0 x1 x2 x3 x4 : Option zV} {st : List zV} {M : zM} : uX8_digest R 12 [x0, x1, x2, x3, x4] st M ↔ uX8_digest R 15 [x0, x1, x2, x3, x4] (.inr (.inl (31)) :: st) M := zU_step dX8_digest_12 (Or.inl rfl)
theorem dX8_digest_15 : decode cX8_digest 15 = .ok (.lload_n 1, 1) := by decide +kernel
theorem rX8_digest_15 {R : zP} {x0 x2 x3 x4 : Option zV} {st : List zV} {M : zM} {a : Int} : uX8_digest R 15 [x0, some (.inr (.inl a)), x2, x3, x4] st M ↔ uX8_digest R 16 [x0, some (.inr (.inl a)), x2, x3, x4] (.inr (.inl a) :: st) M := zU_step dX8_digest_15 (Or.inl rfl)
theorem dX8_digest_16 : decode cX8_digest 16 = .ok (.lmul, 1) := by decide +kernel
theorem rX8_digest_16 {R : zP} {x0 x1 x2 x3 x4 : Option zV} {st : List zV} {M : zM} {a b : Int} : uX8_digest R 16 [x0, x1, x2, x3, x4] (.inr (.inl b) :: .inr (.inl a) :: st) M ↔ uX8_digest R 17 [x0, x1, x2, x3, x4] (.inr (.inl (a * b)) :: st) M := zU_step dX8_digest_16 (Or.inl rfl)
theorem dX8_digest_17 : decode cX8_digest 17 = .ok (.aload_n 0, 1) := by decide +kernel
theorem rX8_digest_17 {R : zP} {x1 x2 x3 x4 : Option zV} {st : List zV} {M : zM} {a : Nat} : uX8_digest R 17 [some (.inr (.inr a)), x1, x2, x3, x4] st M ↔ uX8_digest R 18 [some (.inr (.inr a)), x1, x2, x3, x4] (.inr (.inr a) :: st) M := zU_step dX8_digest_17 (Or.inl rfl)
theorem dX8_digest_18 : decode cX8_digest 18 = .ok (.iload_n 3, 1) := by decide +kernel
theorem rX8_digest_18 {R : zP} {x0 x1 x2 x4 : Option zV} {st : List zV} {M : zM} {a : Int} : uX8_digest R 18 [x0, x1, x2, some (.inl a), x4] st M ↔ uX8_digest R 19 [x0, x1, x2, some (.inl a), x4] (.inl a :: st) M := zU_step dX8_digest_18 (Or.inl rfl)
theorem dX8_digest_19 : decode cX8_digest 19 = .ok (.invokevirtual 348, 3) := by decide +kernel
theorem rX8_digest_19 {R : zP} {x0 x1 x2 x3 x4 : Option zV} {st : List zV} {M : zM} {a0 a1 : zV} : uX8_digest R 19 [x0, x1, x2, x3, x4] (a1 :: a0 :: st) M ↔ (st.length ≤ 4 ∧ zcv (zv 8 tX8_count) [a0, a1] M (fun v M => uX8_digest R 22 [x0, x1, x2, x3, x4] (v :: st) M)) := Iff.trans (zU_step dX8_digest_19 (Or.inl rfl)) ⟨fun h => ⟨h.2.1, zcv_of h.2.2⟩, fun h => ⟨rfl, h.1, zcv_to h.2⟩⟩
theorem dX8_digest_22 : decode cX8_digest 22 = .ok (.i2l, 1) := by decide +kernel
theorem rX8_digest_22 {R : zP} {x0 x1 x2 x3 x4 : Option zV} {st : List zV} {M : zM} {a : Int} : uX8_digest R 22 [x0, x1, x2, x3, x4] (.inl a :: st) M ↔ (zIR a ∧ uX8_digest R 23 [x0, x1, x2, x3, x4] (.inr (.inl a) :: st) M) := zU_step dX8_digest_22 (Or.inl rfl)
theorem dX8_digest_23 : decode cX8_digest 23 = .ok (.ladd, 1) := by decide +kernel
theorem rX8_digest_23 {R : zP} {x0 x1 x2 x3 x4 : Option zV} {st : List zV} {M : zM} {a b : Int} : uX8_digest R 23 [x0, x1, x2, x3, x4] (.inr (.inl b) :: .inr (.inl a) :: st) M ↔ uX8_digest R 24 [x0, x1, x2, x3, x4] (.inr (.inl (a + b)) :: st) M := zU_step dX8_digest_23 (Or.inl rfl)
theorem dX8_digest_24 : decode cX8_digest 24 = .ok (.lstore_n 1, 1) := by decide +kernel
theorem rX8_digest_24 {R : zP} {x0 x1 x2 x3 x4 : Option zV} {st : List zV} {M : zM} {a : Int} : uX8_digest R 24 [x0, x1, x2, x3, x4] (.inr (.inl a) :: st) M ↔ uX8_digest R 25 [zkeep x0, some (.inr (.inl a)), none, x3, x4] st M := Iff.trans (zU_step dX8_digest_24 (Or.inl rfl)) ⟨fun h => h.2, fun h => ⟨show 1 + 1 < 5 by decide, h⟩⟩
theorem dX8_digest_25 : decode cX8_digest 25 = .ok (.iinc 3 1, 3) := by decide +kernel
theorem rX8_digest_25 {R : zP} {x0 x1 x2 x4 : Option zV} {st : List zV} {M : zM} {a : Int} : uX8_digest R 25 [x0, x1, x2, some (.inl a), x4] st M ↔ uX8_digest R 28 [x0, x1, zkeep x2, some (.inl (a + (1))), x4] st M := Iff.trans (zU_step dX8_digest_25 (Or.inl rfl)) ⟨fun h => h.2, fun h => ⟨show 3 < 5 by decide, h⟩⟩
theorem dX8_digest_28 : decode cX8_digest 28 = .ok (.goto (-22), 3) := by decide +kernel
theorem rX8_digest_28 {R : zP} {x0 x1 x2 x3 x4 : Option zV} {st : List zV} {M : zM} : uX8_digest R 28 [x0, x1, x2, x3, x4] st M ↔ uX8_digest R 6 [x0, x1, x2, x3, x4] st M := Iff.trans (zU_step dX8_digest_28 (Or.inl rfl)) ⟨fun h => h.2, fun h => ⟨by decide, h⟩⟩
theorem dX8_digest_31 : decode cX8_digest 31 = .ok (.ldc2_w 337, 3) := by decide +kernel
theorem rX8_digest_31 {R : zP} {x0 x1 x2 x3 x4 : Option zV} {st : List zV} {M : zM} : uX8_digest R 31 [x0, x1, x2, x3, x4] st M ↔ uX8_digest R 34 [x0, x1, x2, x3, x4] (.inr (.inl (31)) :: st) M := zU_step dX8_digest_31 (Or.inl rfl)
theorem dX8_digest_34 : decode cX8_digest 34 = .ok (.lload_n 1, 1) := by decide +kernel
theorem rX8_digest_34 {R : zP} {x0 x2 x3 x4 : Option zV} {st : List zV} {M : zM} {a : Int} : uX8_digest R 34 [x0, some (.inr (.inl a)), x2, x3, x4] st M ↔ uX8_digest R 35 [x0, some (.inr (.inl a)), x2, x3, x4] (.inr (.inl a) :: st) M := zU_step dX8_digest_34 (Or.inl rfl)
theorem dX8_digest_35 : decode cX8_digest 35 = .ok (.lmul, 1) := by decide +kernel
theorem rX8_digest_35 {R : zP} {x0 x1 x2 x3 x4 : Option zV} {st : List zV} {M : zM} {a b : Int} : uX8_digest R 35 [x0, x1, x2, x3, x4] (.inr (.inl b) :: .inr (.inl a) :: st) M ↔ uX8_digest R 36 [x0, x1, x2, x3, x4] (.inr (.inl (a * b)) :: st) M := zU_step dX8_digest_35 (Or.inl rfl)
theorem dX8_digest_36 : decode cX8_digest 36 = .ok (.aload_n 0, 1) := by decide +kernel
theorem rX8_digest_36 {R : zP} {x1 x2 x3 x4 : Option zV} {st : List zV} {M : zM} {a : Nat} : uX8_digest R 36 [some (.inr (.inr a)), x1, x2, x3, x4] st M ↔ uX8_digest R 37 [some (.inr (.inr a)), x1, x2, x3, x4] (.inr (.inr a) :: st) M := zU_step dX8_digest_36 (Or.inl rfl)
theorem dX8_digest_37 : decode cX8_digest 37 = .ok (.iconst 0, 1) := by decide +kernel
theorem rX8_digest_37 {R : zP} {x0 x1 x2 x3 x4 : Option zV} {st : List zV} {M : zM} : uX8_digest R 37 [x0, x1, x2, x3, x4] st M ↔ uX8_digest R 38 [x0, x1, x2, x3, x4] (.inl (0) :: st) M := zU_step dX8_digest_37 (Or.inl rfl)
theorem dX8_digest_38 : decode cX8_digest 38 = .ok (.invokevirtual 142, 3) := by decide +kernel
theorem rX8_digest_38 {R : zP} {x0 x1 x2 x3 x4 : Option zV} {st : List zV} {M : zM} {a0 a1 : zV} : uX8_digest R 38 [x0, x1, x2, x3, x4] (a1 :: a0 :: st) M ↔ (st.length ≤ 4 ∧ zcv (zv 8 tX8_faultOf) [a0, a1] M (fun v M => uX8_digest R 41 [x0, x1, x2, x3, x4] (v :: st) M)) := Iff.trans (zU_step dX8_digest_38 (Or.inl rfl)) ⟨fun h => ⟨h.2.1, zcv_of h.2.2⟩, fun h => ⟨rfl, h.1, zcv_to h.2⟩⟩
theorem dX8_digest_41 : decode cX8_digest 41 = .ok (.i2l, 1) := by decide +kernel
theorem rX8_digest_41 {R : zP} {x0 x1 x2 x3 x4 : Option zV} {st : List zV} {M : zM} {a : Int} : uX8_digest R 41 [x0, x1, x2, x3, x4] (.inl a :: st) M ↔ (zIR a ∧ uX8_digest R 42 [x0, x1, x2, x3, x4] (.inr (.inl a) :: st) M) := zU_step dX8_digest_41 (Or.inl rfl)
theorem dX8_digest_42 : decode cX8_digest 42 = .ok (.ladd, 1) := by decide +kernel
theorem rX8_digest_42 {R : zP} {x0 x1 x2 x3 x4 : Option zV} {st : List zV} {M : zM} {a b : Int} : uX8_digest R 42 [x0, x1, x2, x3, x4] (.inr (.inl b) :: .inr (.inl a) :: st) M ↔ uX8_digest R 43 [x0, x1, x2, x3, x4] (.inr (.inl (a + b)) :: st) M := zU_step dX8_digest_42 (Or.inl rfl)
theorem dX8_digest_43 : decode cX8_digest 43 = .ok (.lstore_n 1, 1) := by decide +kernel
theorem rX8_digest_43 {R : zP} {x0 x1 x2 x3 x4 : Option zV} {st : List zV} {M : zM} {a : Int} : uX8_digest R 43 [x0, x1, x2, x3, x4] (.inr (.inl a) :: st) M ↔ uX8_digest R 44 [zkeep x0, some (.inr (.inl a)), none, x3, x4] st M := Iff.trans (zU_step dX8_digest_43 (Or.inl rfl)) ⟨fun h => h.2, fun h => ⟨show 1 + 1 < 5 by decide, h⟩⟩
theorem dX8_digest_44 : decode cX8_digest 44 = .ok (.ldc2_w 337, 3) := by decide +kernel
theorem rX8_digest_44 {R : zP} {x0 x1 x2 x3 x4 : Option zV} {st : List zV} {M : zM} : uX8_digest R 44 [x0, x1, x2, x3, x4] st M ↔ uX8_digest R 47 [x0, x1, x2, x3, x4] (.inr (.inl (31)) :: st) M := zU_step dX8_digest_44 (Or.inl rfl)
theorem dX8_digest_47 : decode cX8_digest 47 = .ok (.lload_n 1, 1) := by decide +kernel
theorem rX8_digest_47 {R : zP} {x0 x2 x3 x4 : Option zV} {st : List zV} {M : zM} {a : Int} : uX8_digest R 47 [x0, some (.inr (.inl a)), x2, x3, x4] st M ↔ uX8_digest R 48 [x0, some (.inr (.inl a)), x2, x3, x4] (.inr (.inl a) :: st) M := zU_step dX8_digest_47 (Or.inl rfl)
theorem dX8_digest_48 : decode cX8_digest 48 = .ok (.lmul, 1) := by decide +kernel
theorem rX8_digest_48 {R : zP} {x0 x1 x2 x3 x4 : Option zV} {st : List zV} {M : zM} {a b : Int} : uX8_digest R 48 [x0, x1, x2, x3, x4] (.inr (.inl b) :: .inr (.inl a) :: st) M ↔ uX8_digest R 49 [x0, x1, x2, x3, x4] (.inr (.inl (a * b)) :: st) M := zU_step dX8_digest_48 (Or.inl rfl)
theorem dX8_digest_49 : decode cX8_digest 49 = .ok (.aload_n 0, 1) := by decide +kernel
theorem rX8_digest_49 {R : zP} {x1 x2 x3 x4 : Option zV} {st : List zV} {M : zM} {a : Nat} : uX8_digest R 49 [some (.inr (.inr a)), x1, x2, x3, x4] st M ↔ uX8_digest R 50 [some (.inr (.inr a)), x1, x2, x3, x4] (.inr (.inr a) :: st) M := zU_step dX8_digest_49 (Or.inl rfl)
theorem dX8_digest_50 : decode cX8_digest 50 = .ok (.iconst 1, 1) := by decide +kernel
theorem rX8_digest_50 {R : zP} {x0 x1 x2 x3 x4 : Option zV} {st : List zV} {M : zM} : uX8_digest R 50 [x0, x1, x2, x3, x4] st M ↔ uX8_digest R 51 [x0, x1, x2, x3, x4] (.inl (1) :: st) M := zU_step dX8_digest_50 (Or.inl rfl)
theorem dX8_digest_51 : decode cX8_digest 51 = .ok (.invokevirtual 142, 3) := by decide +kernel
theorem rX8_digest_51 {R : zP} {x0 x1 x2 x3 x4 : Option zV} {st : List zV} {M : zM} {a0 a1 : zV} : uX8_digest R 51 [x0, x1, x2, x3, x4] (a1 :: a0 :: st) M ↔ (st.length ≤ 4 ∧ zcv (zv 8 tX8_faultOf) [a0, a1] M (fun v M => uX8_digest R 54 [x0, x1, x2, x3, x4] (v :: st) M)) := Iff.trans (zU_step dX8_digest_51 (Or.inl rfl)) ⟨fun h => ⟨h.2.1, zcv_of h.2.2⟩, fun h => ⟨rfl, h.1, zcv_to h.2⟩⟩
theorem dX8_digest_54 : decode cX8_digest 54 = .ok (.i2l, 1) := by decide +kernel
theorem rX8_digest_54 {R : zP} {x0 x1 x2 x3 x4 : Option zV} {st : List zV} {M : zM} {a : Int} : uX8_digest R 54 [x0, x1, x2, x3, x4] (.inl a :: st) M ↔ (zIR a ∧ uX8_digest R 55 [x0, x1, x2, x3, x4] (.inr (.inl a) :: st) M) := zU_step dX8_digest_54 (Or.inl rfl)
theorem dX8_digest_55 : decode cX8_digest 55 = .ok (.ladd, 1) := by decide +kernel
theorem rX8_digest_55 {R : zP} {x0 x1 x2 x3 x4 : Option zV} {st : List zV} {M : zM} {a b : Int} : uX8_digest R 55 [x0, x1, x2, x3, x4] (.inr (.inl b) :: .inr (.inl a) :: st) M ↔ uX8_digest R 56 [x0, x1, x2, x3, x4] (.inr (.inl (a + b)) :: st) M := zU_step dX8_digest_55 (Or.inl rfl)
theorem dX8_digest_56 : decode cX8_digest 56 = .ok (.lstore_n 1, 1) := by decide +kernel
theorem rX8_digest_56 {R : zP} {x0 x1 x2 x3 x4 : Option zV} {st : List zV} {M : zM} {a : Int} : uX8_digest R 56 [x0, x1, x2, x3, x4] (.inr (.inl a) :: st) M ↔ uX8_digest R 57 [zkeep x0, some (.inr (.inl a)), none, x3, x4] st M := Iff.trans (zU_step dX8_digest_56 (Or.inl rfl)) ⟨fun h => h.2, fun h => ⟨show 1 + 1 < 5 by decide, h⟩⟩
theorem dX8_digest_57 : decode cX8_digest 57 = .ok (.iconst 0, 1) := by decide +kernel
theorem rX8_digest_57 {R : zP} {x0 x1 x2 x3 x4 : Option zV} {st : List zV} {M : zM} : uX8_digest R 57 [x0, x1, x2, x3, x4] st M ↔ uX8_digest R 58 [x0, x1, x2, x3, x4] (.inl (0) :: st) M := zU_step dX8_digest_57 (Or.inl rfl)
theorem dX8_digest_58 : decode cX8_digest 58 = .ok (.istore_n 3, 1) := by decide +kernel
theorem rX8_digest_58 {R : zP} {x0 x1 x2 x3 x4 : Option zV} {st : List zV} {M : zM} {a : Int} : uX8_digest R 58 [x0, x1, x2, x3, x4] (.inl a :: st) M ↔ uX8_digest R 59 [x0, x1, zkeep x2, some (.inl a), x4] st M := Iff.trans (zU_step dX8_digest_58 (Or.inl rfl)) ⟨fun h => h.2, fun h => ⟨show 3 < 5 by decide, h⟩⟩
theorem dX8_digest_59 : decode cX8_digest 59 = .ok (.iload_n 3, 1) := by decide +kernel
theorem rX8_digest_59 {R : zP} {x0 x1 x2 x4 : Option zV} {st : List zV} {M : zM} {a : Int} : uX8_digest R 59 [x0, x1, x2, some (.inl a), x4] st M ↔ uX8_digest R 60 [x0, x1, x2, some (.inl a), x4] (.inl a :: st) M := zU_step dX8_digest_59 (Or.inl rfl)
theorem dX8_digest_60 : decode cX8_digest 60 = .ok (.aload_n 0, 1) := by decide +kernel
theorem rX8_digest_60 {R : zP} {x1 x2 x3 x4 : Option zV} {st : List zV} {M : zM} {a : Nat} : uX8_digest R 60 [some (.inr (.inr a)), x1, x2, x3, x4] st M ↔ uX8_digest R 61 [some (.inr (.inr a)), x1, x2, x3, x4] (.inr (.inr a) :: st) M := zU_step dX8_digest_60 (Or.inl rfl)
theorem dX8_digest_61 : decode cX8_digest 61 = .ok (.getfield 131, 3) := by decide +kernel
theorem rX8_digest_61 {R : zP} {x0 x1 x2 x3 x4 : Option zV} {st : List zV} {M : zM} {r : Nat} : uX8_digest R 61 [x0, x1, x2, x3, x4] (.inr (.inr r) :: st) M ↔ zgetx fX8 131 r M (fun v => uX8_digest R 64 [x0, x1, x2, x3, x4] (v :: st) M) := zU_step dX8_digest_61 (Or.inl rfl)
theorem dX8_digest_64 : decode cX8_digest 64 = .ok (.if_icmp .ge 39, 3) := by decide +kernel
theorem rX8_digest_64 {R : zP} {x0 x1 x2 x3 x4 : Option zV} {st : List zV} {M : zM} {a b : Int} : uX8_digest R 64 [x0, x1, x2, x3, x4] (.inl b :: .inl a :: st) M ↔ ((zIR a ∧ zIR b) ∧ (b ≤ a → uX8_digest R 103 [x0, x1, x2, x3, x4] st M) ∧ (¬ b ≤ a → uX8_digest R 67 [x0, x1, x2, x3, x4] st M)) := Iff.trans (zU_step dX8_digest_64 (Or.inl rfl)) ⟨fun h => ⟨⟨h.1.1, h.1.2.1⟩, h.2⟩, fun h => ⟨⟨h.1.1, h.1.2, by decide⟩, h.2⟩⟩
theorem dX8_digest_67 : decode cX8_digest 67 = .ok (.iconst 0, 1) := by decide +kernel
theorem rX8_digest_67 {R : zP} {x0 x1 x2 x3 x4 : Option zV} {st : List zV} {M : zM} : uX8_digest R 67 [x0, x1, x2, x3, x4] st M ↔ uX8_digest R 68 [x0, x1, x2, x3, x4] (.inl (0) :: st) M := zU_step dX8_digest_67 (Or.inl rfl)
theorem dX8_digest_68 : decode cX8_digest 68 = .ok (.istore 4, 2) := by decide +kernel
theorem rX8_digest_68 {R : zP} {x0 x1 x2 x3 x4 : Option zV} {st : List zV} {M : zM} {a : Int} : uX8_digest R 68 [x0, x1, x2, x3, x4] (.inl a :: st) M ↔ uX8_digest R 70 [x0, x1, x2, zkeep x3, some (.inl a)] st M := Iff.trans (zU_step dX8_digest_68 (Or.inl rfl)) ⟨fun h => h.2, fun h => ⟨show 4 < 5 by decide, h⟩⟩
theorem dX8_digest_70 : decode cX8_digest 70 = .ok (.iload 4, 2) := by decide +kernel
theorem rX8_digest_70 {R : zP} {x0 x1 x2 x3 : Option zV} {st : List zV} {M : zM} {a : Int} : uX8_digest R 70 [x0, x1, x2, x3, some (.inl a)] st M ↔ uX8_digest R 72 [x0, x1, x2, x3, some (.inl a)] (.inl a :: st) M := zU_step dX8_digest_70 (Or.inl rfl)
theorem dX8_digest_72 : decode cX8_digest 72 = .ok (.iconst 5, 1) := by decide +kernel
theorem rX8_digest_72 {R : zP} {x0 x1 x2 x3 x4 : Option zV} {st : List zV} {M : zM} : uX8_digest R 72 [x0, x1, x2, x3, x4] st M ↔ uX8_digest R 73 [x0, x1, x2, x3, x4] (.inl (5) :: st) M := zU_step dX8_digest_72 (Or.inl rfl)
theorem dX8_digest_73 : decode cX8_digest 73 = .ok (.if_icmp .ge 24, 3) := by decide +kernel
theorem rX8_digest_73 {R : zP} {x0 x1 x2 x3 x4 : Option zV} {st : List zV} {M : zM} {a b : Int} : uX8_digest R 73 [x0, x1, x2, x3, x4] (.inl b :: .inl a :: st) M ↔ ((zIR a ∧ zIR b) ∧ (b ≤ a → uX8_digest R 97 [x0, x1, x2, x3, x4] st M) ∧ (¬ b ≤ a → uX8_digest R 76 [x0, x1, x2, x3, x4] st M)) := Iff.trans (zU_step dX8_digest_73 (Or.inl rfl)) ⟨fun h => ⟨⟨h.1.1, h.1.2.1⟩, h.2⟩, fun h => ⟨⟨h.1.1, h.1.2, by decide⟩, h.2⟩⟩
theorem dX8_digest_76 : decode cX8_digest 76 = .ok (.ldc2_w 337, 3) := by decide +kernel
theorem rX8_digest_76 {R : zP} {x0 x1 x2 x3 x4 : Option zV} {st : List zV} {M : zM} : uX8_digest R 76 [x0, x1, x2, x3, x4] st M ↔ uX8_digest R 79 [x0, x1, x2, x3, x4] (.inr (.inl (31)) :: st) M := zU_step dX8_digest_76 (Or.inl rfl)
theorem dX8_digest_79 : decode cX8_digest 79 = .ok (.lload_n 1, 1) := by decide +kernel
theorem rX8_digest_79 {R : zP} {x0 x2 x3 x4 : Option zV} {st : List zV} {M : zM} {a : Int} : uX8_digest R 79 [x0, some (.inr (.inl a)), x2, x3, x4] st M ↔ uX8_digest R 80 [x0, some (.inr (.inl a)), x2, x3, x4] (.inr (.inl a) :: st) M := zU_step dX8_digest_79 (Or.inl rfl)
theorem dX8_digest_80 : decode cX8_digest 80 = .ok (.lmul, 1) := by decide +kernel
theorem rX8_digest_80 {R : zP} {x0 x1 x2 x3 x4 : Option zV} {st : List zV} {M : zM} {a b : Int} : uX8_digest R 80 [x0, x1, x2, x3, x4] (.inr (.inl b) :: .inr (.inl a) :: st) M ↔ uX8_digest R 81 [x0, x1, x2, x3, x4] (.inr (.inl (a * b)) :: st) M := zU_step dX8_digest_80 (Or.inl rfl)
theorem dX8_digest_81 : decode cX8_digest 81 = .ok (.aload_n 0, 1) := by decide +kernel
theorem rX8_digest_81 {R : zP} {x1 x2 x3 x4 : Option zV} {st : List zV} {M : zM} {a : Nat} : uX8_digest R 81 [some (.inr (.inr a)), x1, x2, x3, x4] st M ↔ uX8_digest R 82 [some (.inr (.inr a)), x1, x2, x3, x4] (.inr (.inr a) :: st) M := zU_step dX8_digest_81 (Or.inl rfl)
theorem dX8_digest_82 : decode cX8_digest 82 = .ok (.iload_n 3, 1) := by decide +kernel
theorem rX8_digest_82 {R : zP} {x0 x1 x2 x4 : Option zV} {st : List zV} {M : zM} {a : Int} : uX8_digest R 82 [x0, x1, x2, some (.inl a), x4] st M ↔ uX8_digest R 83 [x0, x1, x2, some (.inl a), x4] (.inl a :: st) M := zU_step dX8_digest_82 (Or.inl rfl)
theorem dX8_digest_83 : decode cX8_digest 83 = .ok (.iload 4, 2) := by decide +kernel
theorem rX8_digest_83 {R : zP} {x0 x1 x2 x3 : Option zV} {st : List zV} {M : zM} {a : Int} : uX8_digest R 83 [x0, x1, x2, x3, some (.inl a)] st M ↔ uX8_digest R 85 [x0, x1, x2, x3, some (.inl a)] (.inl a :: st) M := zU_step dX8_digest_83 (Or.inl rfl)
theorem dX8_digest_85 : decode cX8_digest 85 = .ok (.invokevirtual 157, 3) := by decide +kernel
theorem rX8_digest_85 {R : zP} {x0 x1 x2 x3 x4 : Option zV} {st : List zV} {M : zM} {a0 a1 a2 : zV} : uX8_digest R 85 [x0, x1, x2, x3, x4] (a2 :: a1 :: a0 :: st) M ↔ (st.length ≤ 4 ∧ zcv (zv 8 tX8_cowOf) [a0, a1, a2] M (fun v M => uX8_digest R 88 [x0, x1, x2, x3, x4] (v :: st) M)) := Iff.trans (zU_step dX8_digest_85 (Or.inl rfl)) ⟨fun h => ⟨h.2.1, zcv_of h.2.2⟩, fun h => ⟨rfl, h.1, zcv_to h.2⟩⟩
theorem dX8_digest_88 : decode cX8_digest 88 = .ok (.i2l, 1) := by decide +kernel
theorem rX8_digest_88 {R : zP} {x0 x1 x2 x3 x4 : Option zV} {st : List zV} {M : zM} {a : Int} : uX8_digest R 88 [x0, x1, x2, x3, x4] (.inl a :: st) M ↔ (zIR a ∧ uX8_digest R 89 [x0, x1, x2, x3, x4] (.inr (.inl a) :: st) M) := zU_step dX8_digest_88 (Or.inl rfl)
theorem dX8_digest_89 : decode cX8_digest 89 = .ok (.ladd, 1) := by decide +kernel
theorem rX8_digest_89 {R : zP} {x0 x1 x2 x3 x4 : Option zV} {st : List zV} {M : zM} {a b : Int} : uX8_digest R 89 [x0, x1, x2, x3, x4] (.inr (.inl b) :: .inr (.inl a) :: st) M ↔ uX8_digest R 90 [x0, x1, x2, x3, x4] (.inr (.inl (a + b)) :: st) M := zU_step dX8_digest_89 (Or.inl rfl)
theorem dX8_digest_90 : decode cX8_digest 90 = .ok (.lstore_n 1, 1) := by decide +kernel
theorem rX8_digest_90 {R : zP} {x0 x1 x2 x3 x4 : Option zV} {st : List zV} {M : zM} {a : Int} : uX8_digest R 90 [x0, x1, x2, x3, x4] (.inr (.inl a) :: st) M ↔ uX8_digest R 91 [zkeep x0, some (.inr (.inl a)), none, x3, x4] st M := Iff.trans (zU_step dX8_digest_90 (Or.inl rfl)) ⟨fun h => h.2, fun h => ⟨show 1 + 1 < 5 by decide, h⟩⟩
theorem dX8_digest_91 : decode cX8_digest 91 = .ok (.iinc 4 1, 3) := by decide +kernel
theorem rX8_digest_91 {R : zP} {x0 x1 x2 x3 : Option zV} {st : List zV} {M : zM} {a : Int} : uX8_digest R 91 [x0, x1, x2, x3, some (.inl a)] st M ↔ uX8_digest R 94 [x0, x1, x2, zkeep x3, some (.inl (a + (1)))] st M := Iff.trans (zU_step dX8_digest_91 (Or.inl rfl)) ⟨fun h => h.2, fun h => ⟨show 4 < 5 by decide, h⟩⟩
theorem dX8_digest_94 : decode cX8_digest 94 = .ok (.goto (-24), 3) := by decide +kernel
theorem rX8_digest_94 {R : zP} {x0 x1 x2 x3 x4 : Option zV} {st : List zV} {M : zM} : uX8_digest R 94 [x0, x1, x2, x3, x4] st M ↔ uX8_digest R 70 [x0, x1, x2, x3, x4] st M := Iff.trans (zU_step dX8_digest_94 (Or.inl rfl)) ⟨fun h => h.2, fun h => ⟨by decide, h⟩⟩
theorem dX8_digest_97 : decode cX8_digest 97 = .ok (.iinc 3 1, 3) := by decide +kernel
theorem rX8_digest_97 {R : zP} {x0 x1 x2 x4 : Option zV} {st : List zV} {M : zM} {a : Int} : uX8_digest R 97 [x0, x1, x2, some (.inl a), x4] st M ↔ uX8_digest R 100 [x0, x1, zkeep x2, some (.inl (a + (1))), x4] st M := Iff.trans (zU_step dX8_digest_97 (Or.inl rfl)) ⟨fun h => h.2, fun h => ⟨show 3 < 5 by decide, h⟩⟩
theorem dX8_digest_100 : decode cX8_digest 100 = .ok (.goto (-41), 3) := by decide +kernel
theorem rX8_digest_100 {R : zP} {x0 x1 x2 x3 x4 : Option zV} {st : List zV} {M : zM} : uX8_digest R 100 [x0, x1, x2, x3, x4] st M ↔ uX8_digest R 59 [x0, x1, x2, x3, x4] st M := Iff.trans (zU_step dX8_digest_100 (Or.inl rfl)) ⟨fun h => h.2, fun h => ⟨by decide, h⟩⟩
theorem dX8_digest_103 : decode cX8_digest 103 = .ok (.iconst 0, 1) := by decide +kernel
theorem rX8_digest_103 {R : zP} {x0 x1 x2 x3 x4 : Option zV} {st : List zV} {M : zM} : uX8_digest R 103 [x0, x1, x2, x3, x4] st M ↔ uX8_digest R 104 [x0, x1, x2, x3, x4] (.inl (0) :: st) M := zU_step dX8_digest_103 (Or.inl rfl)
theorem dX8_digest_104 : decode cX8_digest 104 = .ok (.istore_n 3, 1) := by decide +kernel
theorem rX8_digest_104 {R : zP} {x0 x1 x2 x3 x4 : Option zV} {st : List zV} {M : zM} {a : Int} : uX8_digest R 104 [x0, x1, x2, x3, x4] (.inl a :: st) M ↔ uX8_digest R 105 [x0, x1, zkeep x2, some (.inl a), x4] st M := Iff.trans (zU_step dX8_digest_104 (Or.inl rfl)) ⟨fun h => h.2, fun h => ⟨show 3 < 5 by decide, h⟩⟩
theorem dX8_digest_105 : decode cX8_digest 105 = .ok (.iload_n 3, 1) := by decide +kernel
theorem rX8_digest_105 {R : zP} {x0 x1 x2 x4 : Option zV} {st : List zV} {M : zM} {a : Int} : uX8_digest R 105 [x0, x1, x2, some (.inl a), x4] st M ↔ uX8_digest R 106 [x0, x1, x2, some (.inl a), x4] (.inl a :: st) M := zU_step dX8_digest_105 (Or.inl rfl)
theorem dX8_digest_106 : decode cX8_digest 106 = .ok (.aload_n 0, 1) := by decide +kernel
theorem rX8_digest_106 {R : zP} {x1 x2 x3 x4 : Option zV} {st : List zV} {M : zM} {a : Nat} : uX8_digest R 106 [some (.inr (.inr a)), x1, x2, x3, x4] st M ↔ uX8_digest R 107 [some (.inr (.inr a)), x1, x2, x3, x4] (.inr (.inr a) :: st) M := zU_step dX8_digest_106 (Or.inl rfl)
theorem dX8_digest_107 : decode cX8_digest 107 = .ok (.getfield 127, 3) := by decide +kernel
theorem rX8_digest_107 {R : zP} {x0 x1 x2 x3 x4 : Option zV} {st : List zV} {M : zM} {r : Nat} : uX8_digest R 107 [x0, x1, x2, x3, x4] (.inr (.inr r) :: st) M ↔ zgetx fX8 127 r M (fun v => uX8_digest R 110 [x0, x1, x2, x3, x4] (v :: st) M) := zU_step dX8_digest_107 (Or.inl rfl)
theorem dX8_digest_110 : decode cX8_digest 110 = .ok (.if_icmp .ge 16, 3) := by decide +kernel
theorem rX8_digest_110 {R : zP} {x0 x1 x2 x3 x4 : Option zV} {st : List zV} {M : zM} {a b : Int} : uX8_digest R 110 [x0, x1, x2, x3, x4] (.inl b :: .inl a :: st) M ↔ ((zIR a ∧ zIR b) ∧ (b ≤ a → uX8_digest R 126 [x0, x1, x2, x3, x4] st M) ∧ (¬ b ≤ a → uX8_digest R 113 [x0, x1, x2, x3, x4] st M)) := Iff.trans (zU_step dX8_digest_110 (Or.inl rfl)) ⟨fun h => ⟨⟨h.1.1, h.1.2.1⟩, h.2⟩, fun h => ⟨⟨h.1.1, h.1.2, by decide⟩, h.2⟩⟩
theorem dX8_digest_113 : decode cX8_digest 113 = .ok (.aload_n 0, 1) := by decide +kernel
theorem rX8_digest_113 {R : zP} {x1 x2 x3 x4 : Option zV} {st : List zV} {M : zM} {a : Nat} : uX8_digest R 113 [some (.inr (.inr a)), x1, x2, x3, x4] st M ↔ uX8_digest R 114 [some (.inr (.inr a)), x1, x2, x3, x4] (.inr (.inr a) :: st) M := zU_step dX8_digest_113 (Or.inl rfl)
theorem dX8_digest_114 : decode cX8_digest 114 = .ok (.lload_n 1, 1) := by decide +kernel
theorem rX8_digest_114 {R : zP} {x0 x2 x3 x4 : Option zV} {st : List zV} {M : zM} {a : Int} : uX8_digest R 114 [x0, some (.inr (.inl a)), x2, x3, x4] st M ↔ uX8_digest R 115 [x0, some (.inr (.inl a)), x2, x3, x4] (.inr (.inl a) :: st) M := zU_step dX8_digest_114 (Or.inl rfl)
theorem dX8_digest_115 : decode cX8_digest 115 = .ok (.iload_n 3, 1) := by decide +kernel
theorem rX8_digest_115 {R : zP} {x0 x1 x2 x4 : Option zV} {st : List zV} {M : zM} {a : Int} : uX8_digest R 115 [x0, x1, x2, some (.inl a), x4] st M ↔ uX8_digest R 116 [x0, x1, x2, some (.inl a), x4] (.inl a :: st) M := zU_step dX8_digest_115 (Or.inl rfl)
theorem dX8_digest_116 : decode cX8_digest 116 = .ok (.invokevirtual 351, 3) := by decide +kernel
theorem rX8_digest_116 {R : zP} {x0 x1 x2 x3 x4 : Option zV} {st : List zV} {M : zM} {a0 a1 a2 : zV} : uX8_digest R 116 [x0, x1, x2, x3, x4] (a2 :: a1 :: a0 :: st) M ↔ (st.length ≤ 4 ∧ zcv (zv 8 tX8_memberDigest) [a0, a1, a2] M (fun v M => uX8_digest R 119 [x0, x1, x2, x3, x4] (v :: st) M)) := Iff.trans (zU_step dX8_digest_116 (Or.inl rfl)) ⟨fun h => ⟨h.2.1, zcv_of h.2.2⟩, fun h => ⟨rfl, h.1, zcv_to h.2⟩⟩
theorem dX8_digest_119 : decode cX8_digest 119 = .ok (.lstore_n 1, 1) := by decide +kernel
theorem rX8_digest_119 {R : zP} {x0 x1 x2 x3 x4 : Option zV} {st : List zV} {M : zM} {a : Int} : uX8_digest R 119 [x0, x1, x2, x3, x4] (.inr (.inl a) :: st) M ↔ uX8_digest R 120 [zkeep x0, some (.inr (.inl a)), none, x3, x4] st M := Iff.trans (zU_step dX8_digest_119 (Or.inl rfl)) ⟨fun h => h.2, fun h => ⟨show 1 + 1 < 5 by decide, h⟩⟩
theorem dX8_digest_120 : decode cX8_digest 120 = .ok (.iinc 3 1, 3) := by decide +kernel
theorem rX8_digest_120 {R : zP} {x0 x1 x2 x4 : Option zV} {st : List zV} {M : zM} {a : Int} : uX8_digest R 120 [x0, x1, x2, some (.inl a), x4] st M ↔ uX8_digest R 123 [x0, x1, zkeep x2, some (.inl (a + (1))), x4] st M := Iff.trans (zU_step dX8_digest_120 (Or.inl rfl)) ⟨fun h => h.2, fun h => ⟨show 3 < 5 by decide, h⟩⟩
theorem dX8_digest_123 : decode cX8_digest 123 = .ok (.goto (-18), 3) := by decide +kernel
theorem rX8_digest_123 {R : zP} {x0 x1 x2 x3 x4 : Option zV} {st : List zV} {M : zM} : uX8_digest R 123 [x0, x1, x2, x3, x4] st M ↔ uX8_digest R 105 [x0, x1, x2, x3, x4] st M := Iff.trans (zU_step dX8_digest_123 (Or.inl rfl)) ⟨fun h => h.2, fun h => ⟨by decide, h⟩⟩
theorem dX8_digest_126 : decode cX8_digest 126 = .ok (.iconst 0, 1) := by decide +kernel
theorem rX8_digest_126 {R : zP} {x0 x1 x2 x3 x4 : Option zV} {st : List zV} {M : zM} : uX8_digest R 126 [x0, x1, x2, x3, x4] st M ↔ uX8_digest R 127 [x0, x1, x2, x3, x4] (.inl (0) :: st) M := zU_step dX8_digest_126 (Or.inl rfl)
theorem dX8_digest_127 : decode cX8_digest 127 = .ok (.istore_n 3, 1) := by decide +kernel
theorem rX8_digest_127 {R : zP} {x0 x1 x2 x3 x4 : Option zV} {st : List zV} {M : zM} {a : Int} : uX8_digest R 127 [x0, x1, x2, x3, x4] (.inl a :: st) M ↔ uX8_digest R 128 [x0, x1, zkeep x2, some (.inl a), x4] st M := Iff.trans (zU_step dX8_digest_127 (Or.inl rfl)) ⟨fun h => h.2, fun h => ⟨show 3 < 5 by decide, h⟩⟩
theorem dX8_digest_128 : decode cX8_digest 128 = .ok (.iload_n 3, 1) := by decide +kernel
theorem rX8_digest_128 {R : zP} {x0 x1 x2 x4 : Option zV} {st : List zV} {M : zM} {a : Int} : uX8_digest R 128 [x0, x1, x2, some (.inl a), x4] st M ↔ uX8_digest R 129 [x0, x1, x2, some (.inl a), x4] (.inl a :: st) M := zU_step dX8_digest_128 (Or.inl rfl)
theorem dX8_digest_129 : decode cX8_digest 129 = .ok (.iconst 4, 1) := by decide +kernel
theorem rX8_digest_129 {R : zP} {x0 x1 x2 x3 x4 : Option zV} {st : List zV} {M : zM} : uX8_digest R 129 [x0, x1, x2, x3, x4] st M ↔ uX8_digest R 130 [x0, x1, x2, x3, x4] (.inl (4) :: st) M := zU_step dX8_digest_129 (Or.inl rfl)
theorem dX8_digest_130 : decode cX8_digest 130 = .ok (.if_icmp .ge 16, 3) := by decide +kernel
theorem rX8_digest_130 {R : zP} {x0 x1 x2 x3 x4 : Option zV} {st : List zV} {M : zM} {a b : Int} : uX8_digest R 130 [x0, x1, x2, x3, x4] (.inl b :: .inl a :: st) M ↔ ((zIR a ∧ zIR b) ∧ (b ≤ a → uX8_digest R 146 [x0, x1, x2, x3, x4] st M) ∧ (¬ b ≤ a → uX8_digest R 133 [x0, x1, x2, x3, x4] st M)) := Iff.trans (zU_step dX8_digest_130 (Or.inl rfl)) ⟨fun h => ⟨⟨h.1.1, h.1.2.1⟩, h.2⟩, fun h => ⟨⟨h.1.1, h.1.2, by decide⟩, h.2⟩⟩
theorem dX8_digest_133 : decode cX8_digest 133 = .ok (.aload_n 0, 1) := by decide +kernel
theorem rX8_digest_133 {R : zP} {x1 x2 x3 x4 : Option zV} {st : List zV} {M : zM} {a : Nat} : uX8_digest R 133 [some (.inr (.inr a)), x1, x2, x3, x4] st M ↔ uX8_digest R 134 [some (.inr (.inr a)), x1, x2, x3, x4] (.inr (.inr a) :: st) M := zU_step dX8_digest_133 (Or.inl rfl)
theorem dX8_digest_134 : decode cX8_digest 134 = .ok (.lload_n 1, 1) := by decide +kernel
theorem rX8_digest_134 {R : zP} {x0 x2 x3 x4 : Option zV} {st : List zV} {M : zM} {a : Int} : uX8_digest R 134 [x0, some (.inr (.inl a)), x2, x3, x4] st M ↔ uX8_digest R 135 [x0, some (.inr (.inl a)), x2, x3, x4] (.inr (.inl a) :: st) M := zU_step dX8_digest_134 (Or.inl rfl)
theorem dX8_digest_135 : decode cX8_digest 135 = .ok (.iload_n 3, 1) := by decide +kernel
theorem rX8_digest_135 {R : zP} {x0 x1 x2 x4 : Option zV} {st : List zV} {M : zM} {a : Int} : uX8_digest R 135 [x0, x1, x2, some (.inl a), x4] st M ↔ uX8_digest R 136 [x0, x1, x2, some (.inl a), x4] (.inl a :: st) M := zU_step dX8_digest_135 (Or.inl rfl)
theorem dX8_digest_136 : decode cX8_digest 136 = .ok (.invokevirtual 355, 3) := by decide +kernel
theorem rX8_digest_136 {R : zP} {x0 x1 x2 x3 x4 : Option zV} {st : List zV} {M : zM} {a0 a1 a2 : zV} : uX8_digest R 136 [x0, x1, x2, x3, x4] (a2 :: a1 :: a0 :: st) M ↔ (st.length ≤ 4 ∧ zcv (zv 8 tX8_questionDigest) [a0, a1, a2] M (fun v M => uX8_digest R 139 [x0, x1, x2, x3, x4] (v :: st) M)) := Iff.trans (zU_step dX8_digest_136 (Or.inl rfl)) ⟨fun h => ⟨h.2.1, zcv_of h.2.2⟩, fun h => ⟨rfl, h.1, zcv_to h.2⟩⟩
theorem dX8_digest_139 : decode cX8_digest 139 = .ok (.lstore_n 1, 1) := by decide +kernel
theorem rX8_digest_139 {R : zP} {x0 x1 x2 x3 x4 : Option zV} {st : List zV} {M : zM} {a : Int} : uX8_digest R 139 [x0, x1, x2, x3, x4] (.inr (.inl a) :: st) M ↔ uX8_digest R 140 [zkeep x0, some (.inr (.inl a)), none, x3, x4] st M := Iff.trans (zU_step dX8_digest_139 (Or.inl rfl)) ⟨fun h => h.2, fun h => ⟨show 1 + 1 < 5 by decide, h⟩⟩
theorem dX8_digest_140 : decode cX8_digest 140 = .ok (.iinc 3 1, 3) := by decide +kernel
theorem rX8_digest_140 {R : zP} {x0 x1 x2 x4 : Option zV} {st : List zV} {M : zM} {a : Int} : uX8_digest R 140 [x0, x1, x2, some (.inl a), x4] st M ↔ uX8_digest R 143 [x0, x1, zkeep x2, some (.inl (a + (1))), x4] st M := Iff.trans (zU_step dX8_digest_140 (Or.inl rfl)) ⟨fun h => h.2, fun h => ⟨show 3 < 5 by decide, h⟩⟩
theorem dX8_digest_143 : decode cX8_digest 143 = .ok (.goto (-15), 3) := by decide +kernel
theorem rX8_digest_143 {R : zP} {x0 x1 x2 x3 x4 : Option zV} {st : List zV} {M : zM} : uX8_digest R 143 [x0, x1, x2, x3, x4] st M ↔ uX8_digest R 128 [x0, x1, x2, x3, x4] st M := Iff.trans (zU_step dX8_digest_143 (Or.inl rfl)) ⟨fun h => h.2, fun h => ⟨by decide, h⟩⟩
theorem dX8_digest_146 : decode cX8_digest 146 = .ok (.iconst 0, 1) := by decide +kernel
theorem rX8_digest_146 {R : zP} {x0 x1 x2 x3 x4 : Option zV} {st : List zV} {M : zM} : uX8_digest R 146 [x0, x1, x2, x3, x4] st M ↔ uX8_digest R 147 [x0, x1, x2, x3, x4] (.inl (0) :: st) M := zU_step dX8_digest_146 (Or.inl rfl)
theorem dX8_digest_147 : decode cX8_digest 147 = .ok (.istore_n 3, 1) := by decide +kernel
theorem rX8_digest_147 {R : zP} {x0 x1 x2 x3 x4 : Option zV} {st : List zV} {M : zM} {a : Int} : uX8_digest R 147 [x0, x1, x2, x3, x4] (.inl a :: st) M ↔ uX8_digest R 148 [x0, x1, zkeep x2, some (.inl a), x4] st M := Iff.trans (zU_step dX8_digest_147 (Or.inl rfl)) ⟨fun h => h.2, fun h => ⟨show 3 < 5 by decide, h⟩⟩
theorem dX8_digest_148 : decode cX8_digest 148 = .ok (.iload_n 3, 1) := by decide +kernel
theorem rX8_digest_148 {R : zP} {x0 x1 x2 x4 : Option zV} {st : List zV} {M : zM} {a : Int} : uX8_digest R 148 [x0, x1, x2, some (.inl a), x4] st M ↔ uX8_digest R 149 [x0, x1, x2, some (.inl a), x4] (.inl a :: st) M := zU_step dX8_digest_148 (Or.inl rfl)
theorem dX8_digest_149 : decode cX8_digest 149 = .ok (.iconst 3, 1) := by decide +kernel
theorem rX8_digest_149 {R : zP} {x0 x1 x2 x3 x4 : Option zV} {st : List zV} {M : zM} : uX8_digest R 149 [x0, x1, x2, x3, x4] st M ↔ uX8_digest R 150 [x0, x1, x2, x3, x4] (.inl (3) :: st) M := zU_step dX8_digest_149 (Or.inl rfl)
theorem dX8_digest_150 : decode cX8_digest 150 = .ok (.if_icmp .ge 22, 3) := by decide +kernel
theorem rX8_digest_150 {R : zP} {x0 x1 x2 x3 x4 : Option zV} {st : List zV} {M : zM} {a b : Int} : uX8_digest R 150 [x0, x1, x2, x3, x4] (.inl b :: .inl a :: st) M ↔ ((zIR a ∧ zIR b) ∧ (b ≤ a → uX8_digest R 172 [x0, x1, x2, x3, x4] st M) ∧ (¬ b ≤ a → uX8_digest R 153 [x0, x1, x2, x3, x4] st M)) := Iff.trans (zU_step dX8_digest_150 (Or.inl rfl)) ⟨fun h => ⟨⟨h.1.1, h.1.2.1⟩, h.2⟩, fun h => ⟨⟨h.1.1, h.1.2, by decide⟩, h.2⟩⟩
theorem dX8_digest_153 : decode cX8_digest 153 = .ok (.ldc2_w 337, 3) := by decide +kernel
theorem rX8_digest_153 {R : zP} {x0 x1 x2 x3 x4 : Option zV} {st : List zV} {M : zM} : uX8_digest R 153 [x0, x1, x2, x3, x4] st M ↔ uX8_digest R 156 [x0, x1, x2, x3, x4] (.inr (.inl (31)) :: st) M := zU_step dX8_digest_153 (Or.inl rfl)
theorem dX8_digest_156 : decode cX8_digest 156 = .ok (.lload_n 1, 1) := by decide +kernel
theorem rX8_digest_156 {R : zP} {x0 x2 x3 x4 : Option zV} {st : List zV} {M : zM} {a : Int} : uX8_digest R 156 [x0, some (.inr (.inl a)), x2, x3, x4] st M ↔ uX8_digest R 157 [x0, some (.inr (.inl a)), x2, x3, x4] (.inr (.inl a) :: st) M := zU_step dX8_digest_156 (Or.inl rfl)
theorem dX8_digest_157 : decode cX8_digest 157 = .ok (.lmul, 1) := by decide +kernel
theorem rX8_digest_157 {R : zP} {x0 x1 x2 x3 x4 : Option zV} {st : List zV} {M : zM} {a b : Int} : uX8_digest R 157 [x0, x1, x2, x3, x4] (.inr (.inl b) :: .inr (.inl a) :: st) M ↔ uX8_digest R 158 [x0, x1, x2, x3, x4] (.inr (.inl (a * b)) :: st) M := zU_step dX8_digest_157 (Or.inl rfl)
theorem dX8_digest_158 : decode cX8_digest 158 = .ok (.aload_n 0, 1) := by decide +kernel
theorem rX8_digest_158 {R : zP} {x1 x2 x3 x4 : Option zV} {st : List zV} {M : zM} {a : Nat} : uX8_digest R 158 [some (.inr (.inr a)), x1, x2, x3, x4] st M ↔ uX8_digest R 159 [some (.inr (.inr a)), x1, x2, x3, x4] (.inr (.inr a) :: st) M := zU_step dX8_digest_158 (Or.inl rfl)
theorem dX8_digest_159 : decode cX8_digest 159 = .ok (.iload_n 3, 1) := by decide +kernel
theorem rX8_digest_159 {R : zP} {x0 x1 x2 x4 : Option zV} {st : List zV} {M : zM} {a : Int} : uX8_digest R 159 [x0, x1, x2, some (.inl a), x4] st M ↔ uX8_digest R 160 [x0, x1, x2, some (.inl a), x4] (.inl a :: st) M := zU_step dX8_digest_159 (Or.inl rfl)
theorem dX8_digest_160 : decode cX8_digest 160 = .ok (.invokevirtual 236, 3) := by decide +kernel
theorem rX8_digest_160 {R : zP} {x0 x1 x2 x3 x4 : Option zV} {st : List zV} {M : zM} {a0 a1 : zV} : uX8_digest R 160 [x0, x1, x2, x3, x4] (a1 :: a0 :: st) M ↔ (st.length ≤ 4 ∧ zcv (zv 8 tX8_puseyOf) [a0, a1] M (fun v M => uX8_digest R 163 [x0, x1, x2, x3, x4] (v :: st) M)) := Iff.trans (zU_step dX8_digest_160 (Or.inl rfl)) ⟨fun h => ⟨h.2.1, zcv_of h.2.2⟩, fun h => ⟨rfl, h.1, zcv_to h.2⟩⟩
theorem dX8_digest_163 : decode cX8_digest 163 = .ok (.i2l, 1) := by decide +kernel
theorem rX8_digest_163 {R : zP} {x0 x1 x2 x3 x4 : Option zV} {st : List zV} {M : zM} {a : Int} : uX8_digest R 163 [x0, x1, x2, x3, x4] (.inl a :: st) M ↔ (zIR a ∧ uX8_digest R 164 [x0, x1, x2, x3, x4] (.inr (.inl a) :: st) M) := zU_step dX8_digest_163 (Or.inl rfl)
theorem dX8_digest_164 : decode cX8_digest 164 = .ok (.ladd, 1) := by decide +kernel
theorem rX8_digest_164 {R : zP} {x0 x1 x2 x3 x4 : Option zV} {st : List zV} {M : zM} {a b : Int} : uX8_digest R 164 [x0, x1, x2, x3, x4] (.inr (.inl b) :: .inr (.inl a) :: st) M ↔ uX8_digest R 165 [x0, x1, x2, x3, x4] (.inr (.inl (a + b)) :: st) M := zU_step dX8_digest_164 (Or.inl rfl)
theorem dX8_digest_165 : decode cX8_digest 165 = .ok (.lstore_n 1, 1) := by decide +kernel
theorem rX8_digest_165 {R : zP} {x0 x1 x2 x3 x4 : Option zV} {st : List zV} {M : zM} {a : Int} : uX8_digest R 165 [x0, x1, x2, x3, x4] (.inr (.inl a) :: st) M ↔ uX8_digest R 166 [zkeep x0, some (.inr (.inl a)), none, x3, x4] st M := Iff.trans (zU_step dX8_digest_165 (Or.inl rfl)) ⟨fun h => h.2, fun h => ⟨show 1 + 1 < 5 by decide, h⟩⟩
theorem dX8_digest_166 : decode cX8_digest 166 = .ok (.iinc 3 1, 3) := by decide +kernel
theorem rX8_digest_166 {R : zP} {x0 x1 x2 x4 : Option zV} {st : List zV} {M : zM} {a : Int} : uX8_digest R 166 [x0, x1, x2, some (.inl a), x4] st M ↔ uX8_digest R 169 [x0, x1, zkeep x2, some (.inl (a + (1))), x4] st M := Iff.trans (zU_step dX8_digest_166 (Or.inl rfl)) ⟨fun h => h.2, fun h => ⟨show 3 < 5 by decide, h⟩⟩
theorem dX8_digest_169 : decode cX8_digest 169 = .ok (.goto (-21), 3) := by decide +kernel
theorem rX8_digest_169 {R : zP} {x0 x1 x2 x3 x4 : Option zV} {st : List zV} {M : zM} : uX8_digest R 169 [x0, x1, x2, x3, x4] st M ↔ uX8_digest R 148 [x0, x1, x2, x3, x4] st M := Iff.trans (zU_step dX8_digest_169 (Or.inl rfl)) ⟨fun h => h.2, fun h => ⟨by decide, h⟩⟩
theorem dX8_digest_172 : decode cX8_digest 172 = .ok (.ldc2_w 337, 3) := by decide +kernel
theorem rX8_digest_172 {R : zP} {x0 x1 x2 x3 x4 : Option zV} {st : List zV} {M : zM} : uX8_digest R 172 [x0, x1, x2, x3, x4] st M ↔ uX8_digest R 175 [x0, x1, x2, x3, x4] (.inr (.inl (31)) :: st) M := zU_step dX8_digest_172 (Or.inl rfl)
theorem dX8_digest_175 : decode cX8_digest 175 = .ok (.lload_n 1, 1) := by decide +kernel
theorem rX8_digest_175 {R : zP} {x0 x2 x3 x4 : Option zV} {st : List zV} {M : zM} {a : Int} : uX8_digest R 175 [x0, some (.inr (.inl a)), x2, x3, x4] st M ↔ uX8_digest R 176 [x0, some (.inr (.inl a)), x2, x3, x4] (.inr (.inl a) :: st) M := zU_step dX8_digest_175 (Or.inl rfl)
theorem dX8_digest_176 : decode cX8_digest 176 = .ok (.lmul, 1) := by decide +kernel
theorem rX8_digest_176 {R : zP} {x0 x1 x2 x3 x4 : Option zV} {st : List zV} {M : zM} {a b : Int} : uX8_digest R 176 [x0, x1, x2, x3, x4] (.inr (.inl b) :: .inr (.inl a) :: st) M ↔ uX8_digest R 177 [x0, x1, x2, x3, x4] (.inr (.inl (a * b)) :: st) M := zU_step dX8_digest_176 (Or.inl rfl)
theorem dX8_digest_177 : decode cX8_digest 177 = .ok (.aload_n 0, 1) := by decide +kernel
theorem rX8_digest_177 {R : zP} {x1 x2 x3 x4 : Option zV} {st : List zV} {M : zM} {a : Nat} : uX8_digest R 177 [some (.inr (.inr a)), x1, x2, x3, x4] st M ↔ uX8_digest R 178 [some (.inr (.inr a)), x1, x2, x3, x4] (.inr (.inr a) :: st) M := zU_step dX8_digest_177 (Or.inl rfl)
theorem dX8_digest_178 : decode cX8_digest 178 = .ok (.invokevirtual 243, 3) := by decide +kernel
theorem rX8_digest_178 {R : zP} {x0 x1 x2 x3 x4 : Option zV} {st : List zV} {M : zM} {a0 : zV} : uX8_digest R 178 [x0, x1, x2, x3, x4] (a0 :: st) M ↔ (st.length ≤ 4 ∧ zcv (zv 8 tX8_weanedOf) [a0] M (fun v M => uX8_digest R 181 [x0, x1, x2, x3, x4] (v :: st) M)) := Iff.trans (zU_step dX8_digest_178 (Or.inl rfl)) ⟨fun h => ⟨h.2.1, zcv_of h.2.2⟩, fun h => ⟨rfl, h.1, zcv_to h.2⟩⟩
theorem dX8_digest_181 : decode cX8_digest 181 = .ok (.i2l, 1) := by decide +kernel
theorem rX8_digest_181 {R : zP} {x0 x1 x2 x3 x4 : Option zV} {st : List zV} {M : zM} {a : Int} : uX8_digest R 181 [x0, x1, x2, x3, x4] (.inl a :: st) M ↔ (zIR a ∧ uX8_digest R 182 [x0, x1, x2, x3, x4] (.inr (.inl a) :: st) M) := zU_step dX8_digest_181 (Or.inl rfl)
theorem dX8_digest_182 : decode cX8_digest 182 = .ok (.ladd, 1) := by decide +kernel
theorem rX8_digest_182 {R : zP} {x0 x1 x2 x3 x4 : Option zV} {st : List zV} {M : zM} {a b : Int} : uX8_digest R 182 [x0, x1, x2, x3, x4] (.inr (.inl b) :: .inr (.inl a) :: st) M ↔ uX8_digest R 183 [x0, x1, x2, x3, x4] (.inr (.inl (a + b)) :: st) M := zU_step dX8_digest_182 (Or.inl rfl)
theorem dX8_digest_183 : decode cX8_digest 183 = .ok (.lstore_n 1, 1) := by decide +kernel
theorem rX8_digest_183 {R : zP} {x0 x1 x2 x3 x4 : Option zV} {st : List zV} {M : zM} {a : Int} : uX8_digest R 183 [x0, x1, x2, x3, x4] (.inr (.inl a) :: st) M ↔ uX8_digest R 184 [zkeep x0, some (.inr (.inl a)), none, x3, x4] st M := Iff.trans (zU_step dX8_digest_183 (Or.inl rfl)) ⟨fun h => h.2, fun h => ⟨show 1 + 1 < 5 by decide, h⟩⟩
theorem dX8_digest_184 : decode cX8_digest 184 = .ok (.aload_n 0, 1) := by decide +kernel
theorem rX8_digest_184 {R : zP} {x1 x2 x3 x4 : Option zV} {st : List zV} {M : zM} {a : Nat} : uX8_digest R 184 [some (.inr (.inr a)), x1, x2, x3, x4] st M ↔ uX8_digest R 185 [some (.inr (.inr a)), x1, x2, x3, x4] (.inr (.inr a) :: st) M := zU_step dX8_digest_184 (Or.inl rfl)
theorem dX8_digest_185 : decode cX8_digest 185 = .ok (.invokevirtual 287, 3) := by decide +kernel
theorem rX8_digest_185 {R : zP} {x0 x1 x2 x3 x4 : Option zV} {st : List zV} {M : zM} {a0 : zV} : uX8_digest R 185 [x0, x1, x2, x3, x4] (a0 :: st) M ↔ (st.length ≤ 4 ∧ zcv (zv 8 tX8_spareBy) [a0] M (fun v M => uX8_digest R 188 [x0, x1, x2, x3, x4] (v :: st) M)) := Iff.trans (zU_step dX8_digest_185 (Or.inl rfl)) ⟨fun h => ⟨h.2.1, zcv_of h.2.2⟩, fun h => ⟨rfl, h.1, zcv_to h.2⟩⟩
theorem dX8_digest_188 : decode cX8_digest 188 = .ok (.istore_n 3, 1) := by decide +kernel
theorem rX8_digest_188 {R : zP} {x0 x1 x2 x3 x4 : Option zV} {st : List zV} {M : zM} {a : Int} : uX8_digest R 188 [x0, x1, x2, x3, x4] (.inl a :: st) M ↔ uX8_digest R 189 [x0, x1, zkeep x2, some (.inl a), x4] st M := Iff.trans (zU_step dX8_digest_188 (Or.inl rfl)) ⟨fun h => h.2, fun h => ⟨show 3 < 5 by decide, h⟩⟩
theorem dX8_digest_189 : decode cX8_digest 189 = .ok (.ldc2_w 337, 3) := by decide +kernel
theorem rX8_digest_189 {R : zP} {x0 x1 x2 x3 x4 : Option zV} {st : List zV} {M : zM} : uX8_digest R 189 [x0, x1, x2, x3, x4] st M ↔ uX8_digest R 192 [x0, x1, x2, x3, x4] (.inr (.inl (31)) :: st) M := zU_step dX8_digest_189 (Or.inl rfl)
theorem dX8_digest_192 : decode cX8_digest 192 = .ok (.lload_n 1, 1) := by decide +kernel
theorem rX8_digest_192 {R : zP} {x0 x2 x3 x4 : Option zV} {st : List zV} {M : zM} {a : Int} : uX8_digest R 192 [x0, some (.inr (.inl a)), x2, x3, x4] st M ↔ uX8_digest R 193 [x0, some (.inr (.inl a)), x2, x3, x4] (.inr (.inl a) :: st) M := zU_step dX8_digest_192 (Or.inl rfl)
theorem dX8_digest_193 : decode cX8_digest 193 = .ok (.lmul, 1) := by decide +kernel
theorem rX8_digest_193 {R : zP} {x0 x1 x2 x3 x4 : Option zV} {st : List zV} {M : zM} {a b : Int} : uX8_digest R 193 [x0, x1, x2, x3, x4] (.inr (.inl b) :: .inr (.inl a) :: st) M ↔ uX8_digest R 194 [x0, x1, x2, x3, x4] (.inr (.inl (a * b)) :: st) M := zU_step dX8_digest_193 (Or.inl rfl)
theorem dX8_digest_194 : decode cX8_digest 194 = .ok (.iload_n 3, 1) := by decide +kernel
theorem rX8_digest_194 {R : zP} {x0 x1 x2 x4 : Option zV} {st : List zV} {M : zM} {a : Int} : uX8_digest R 194 [x0, x1, x2, some (.inl a), x4] st M ↔ uX8_digest R 195 [x0, x1, x2, some (.inl a), x4] (.inl a :: st) M := zU_step dX8_digest_194 (Or.inl rfl)
theorem dX8_digest_195 : decode cX8_digest 195 = .ok (.i2l, 1) := by decide +kernel
theorem rX8_digest_195 {R : zP} {x0 x1 x2 x3 x4 : Option zV} {st : List zV} {M : zM} {a : Int} : uX8_digest R 195 [x0, x1, x2, x3, x4] (.inl a :: st) M ↔ (zIR a ∧ uX8_digest R 196 [x0, x1, x2, x3, x4] (.inr (.inl a) :: st) M) := zU_step dX8_digest_195 (Or.inl rfl)
theorem dX8_digest_196 : decode cX8_digest 196 = .ok (.ladd, 1) := by decide +kernel
theorem rX8_digest_196 {R : zP} {x0 x1 x2 x3 x4 : Option zV} {st : List zV} {M : zM} {a b : Int} : uX8_digest R 196 [x0, x1, x2, x3, x4] (.inr (.inl b) :: .inr (.inl a) :: st) M ↔ uX8_digest R 197 [x0, x1, x2, x3, x4] (.inr (.inl (a + b)) :: st) M := zU_step dX8_digest_196 (Or.inl rfl)
theorem dX8_digest_197 : decode cX8_digest 197 = .ok (.lstore_n 1, 1) := by decide +kernel
theorem rX8_digest_197 {R : zP} {x0 x1 x2 x3 x4 : Option zV} {st : List zV} {M : zM} {a : Int} : uX8_digest R 197 [x0, x1, x2, x3, x4] (.inr (.inl a) :: st) M ↔ uX8_digest R 198 [zkeep x0, some (.inr (.inl a)), none, x3, x4] st M := Iff.trans (zU_step dX8_digest_197 (Or.inl rfl)) ⟨fun h => h.2, fun h => ⟨show 1 + 1 < 5 by decide, h⟩⟩
theorem dX8_digest_198 : decode cX8_digest 198 = .ok (.ldc2_w 337, 3) := by decide +kernel
theorem rX8_digest_198 {R : zP} {x0 x1 x2 x3 x4 : Option zV} {st : List zV} {M : zM} : uX8_digest R 198 [x0, x1, x2, x3, x4] st M ↔ uX8_digest R 201 [x0, x1, x2, x3, x4] (.inr (.inl (31)) :: st) M := zU_step dX8_digest_198 (Or.inl rfl)
theorem dX8_digest_201 : decode cX8_digest 201 = .ok (.lload_n 1, 1) := by decide +kernel
theorem rX8_digest_201 {R : zP} {x0 x2 x3 x4 : Option zV} {st : List zV} {M : zM} {a : Int} : uX8_digest R 201 [x0, some (.inr (.inl a)), x2, x3, x4] st M ↔ uX8_digest R 202 [x0, some (.inr (.inl a)), x2, x3, x4] (.inr (.inl a) :: st) M := zU_step dX8_digest_201 (Or.inl rfl)
theorem dX8_digest_202 : decode cX8_digest 202 = .ok (.lmul, 1) := by decide +kernel
theorem rX8_digest_202 {R : zP} {x0 x1 x2 x3 x4 : Option zV} {st : List zV} {M : zM} {a b : Int} : uX8_digest R 202 [x0, x1, x2, x3, x4] (.inr (.inl b) :: .inr (.inl a) :: st) M ↔ uX8_digest R 203 [x0, x1, x2, x3, x4] (.inr (.inl (a * b)) :: st) M := zU_step dX8_digest_202 (Or.inl rfl)
theorem dX8_digest_203 : decode cX8_digest 203 = .ok (.aload_n 0, 1) := by decide +kernel
theorem rX8_digest_203 {R : zP} {x1 x2 x3 x4 : Option zV} {st : List zV} {M : zM} {a : Nat} : uX8_digest R 203 [some (.inr (.inr a)), x1, x2, x3, x4] st M ↔ uX8_digest R 204 [some (.inr (.inr a)), x1, x2, x3, x4] (.inr (.inr a) :: st) M := zU_step dX8_digest_203 (Or.inl rfl)
theorem dX8_digest_204 : decode cX8_digest 204 = .ok (.iload_n 3, 1) := by decide +kernel
theorem rX8_digest_204 {R : zP} {x0 x1 x2 x4 : Option zV} {st : List zV} {M : zM} {a : Int} : uX8_digest R 204 [x0, x1, x2, some (.inl a), x4] st M ↔ uX8_digest R 205 [x0, x1, x2, some (.inl a), x4] (.inl a :: st) M := zU_step dX8_digest_204 (Or.inl rfl)
theorem dX8_digest_205 : decode cX8_digest 205 = .ok (.iconst 0, 1) := by decide +kernel
theorem rX8_digest_205 {R : zP} {x0 x1 x2 x3 x4 : Option zV} {st : List zV} {M : zM} : uX8_digest R 205 [x0, x1, x2, x3, x4] st M ↔ uX8_digest R 206 [x0, x1, x2, x3, x4] (.inl (0) :: st) M := zU_step dX8_digest_205 (Or.inl rfl)
theorem dX8_digest_206 : decode cX8_digest 206 = .ok (.invokevirtual 278, 3) := by decide +kernel
theorem rX8_digest_206 {R : zP} {x0 x1 x2 x3 x4 : Option zV} {st : List zV} {M : zM} {a0 a1 a2 : zV} : uX8_digest R 206 [x0, x1, x2, x3, x4] (a2 :: a1 :: a0 :: st) M ↔ (st.length ≤ 4 ∧ zcv (zv 8 tX8_ofRow) [a0, a1, a2] M (fun v M => uX8_digest R 209 [x0, x1, x2, x3, x4] (v :: st) M)) := Iff.trans (zU_step dX8_digest_206 (Or.inl rfl)) ⟨fun h => ⟨h.2.1, zcv_of h.2.2⟩, fun h => ⟨rfl, h.1, zcv_to h.2⟩⟩
theorem dX8_digest_209 : decode cX8_digest 209 = .ok (.i2l, 1) := by decide +kernel
theorem rX8_digest_209 {R : zP} {x0 x1 x2 x3 x4 : Option zV} {st : List zV} {M : zM} {a : Int} : uX8_digest R 209 [x0, x1, x2, x3, x4] (.inl a :: st) M ↔ (zIR a ∧ uX8_digest R 210 [x0, x1, x2, x3, x4] (.inr (.inl a) :: st) M) := zU_step dX8_digest_209 (Or.inl rfl)
theorem dX8_digest_210 : decode cX8_digest 210 = .ok (.ladd, 1) := by decide +kernel
theorem rX8_digest_210 {R : zP} {x0 x1 x2 x3 x4 : Option zV} {st : List zV} {M : zM} {a b : Int} : uX8_digest R 210 [x0, x1, x2, x3, x4] (.inr (.inl b) :: .inr (.inl a) :: st) M ↔ uX8_digest R 211 [x0, x1, x2, x3, x4] (.inr (.inl (a + b)) :: st) M := zU_step dX8_digest_210 (Or.inl rfl)
theorem dX8_digest_211 : decode cX8_digest 211 = .ok (.lstore_n 1, 1) := by decide +kernel
theorem rX8_digest_211 {R : zP} {x0 x1 x2 x3 x4 : Option zV} {st : List zV} {M : zM} {a : Int} : uX8_digest R 211 [x0, x1, x2, x3, x4] (.inr (.inl a) :: st) M ↔ uX8_digest R 212 [zkeep x0, some (.inr (.inl a)), none, x3, x4] st M := Iff.trans (zU_step dX8_digest_211 (Or.inl rfl)) ⟨fun h => h.2, fun h => ⟨show 1 + 1 < 5 by decide, h⟩⟩
theorem dX8_digest_212 : decode cX8_digest 212 = .ok (.ldc2_w 337, 3) := by decide +kernel
theorem rX8_digest_212 {R : zP} {x0 x1 x2 x3 x4 : Option zV} {st : List zV} {M : zM} : uX8_digest R 212 [x0, x1, x2, x3, x4] st M ↔ uX8_digest R 215 [x0, x1, x2, x3, x4] (.inr (.inl (31)) :: st) M := zU_step dX8_digest_212 (Or.inl rfl)
theorem dX8_digest_215 : decode cX8_digest 215 = .ok (.lload_n 1, 1) := by decide +kernel
theorem rX8_digest_215 {R : zP} {x0 x2 x3 x4 : Option zV} {st : List zV} {M : zM} {a : Int} : uX8_digest R 215 [x0, some (.inr (.inl a)), x2, x3, x4] st M ↔ uX8_digest R 216 [x0, some (.inr (.inl a)), x2, x3, x4] (.inr (.inl a) :: st) M := zU_step dX8_digest_215 (Or.inl rfl)
theorem dX8_digest_216 : decode cX8_digest 216 = .ok (.lmul, 1) := by decide +kernel
theorem rX8_digest_216 {R : zP} {x0 x1 x2 x3 x4 : Option zV} {st : List zV} {M : zM} {a b : Int} : uX8_digest R 216 [x0, x1, x2, x3, x4] (.inr (.inl b) :: .inr (.inl a) :: st) M ↔ uX8_digest R 217 [x0, x1, x2, x3, x4] (.inr (.inl (a * b)) :: st) M := zU_step dX8_digest_216 (Or.inl rfl)
theorem dX8_digest_217 : decode cX8_digest 217 = .ok (.aload_n 0, 1) := by decide +kernel
theorem rX8_digest_217 {R : zP} {x1 x2 x3 x4 : Option zV} {st : List zV} {M : zM} {a : Nat} : uX8_digest R 217 [some (.inr (.inr a)), x1, x2, x3, x4] st M ↔ uX8_digest R 218 [some (.inr (.inr a)), x1, x2, x3, x4] (.inr (.inr a) :: st) M := zU_step dX8_digest_217 (Or.inl rfl)
theorem dX8_digest_218 : decode cX8_digest 218 = .ok (.invokevirtual 297, 3) := by decide +kernel
theorem rX8_digest_218 {R : zP} {x0 x1 x2 x3 x4 : Option zV} {st : List zV} {M : zM} {a0 : zV} : uX8_digest R 218 [x0, x1, x2, x3, x4] (a0 :: st) M ↔ (st.length ≤ 4 ∧ zcv (zv 8 tX8_neverNow) [a0] M (fun v M => uX8_digest R 221 [x0, x1, x2, x3, x4] (v :: st) M)) := Iff.trans (zU_step dX8_digest_218 (Or.inl rfl)) ⟨fun h => ⟨h.2.1, zcv_of h.2.2⟩, fun h => ⟨rfl, h.1, zcv_to h.2⟩⟩
theorem dX8_digest_221 : decode cX8_digest 221 = .ok (.i2l, 1) := by decide +kernel
theorem rX8_digest_221 {R : zP} {x0 x1 x2 x3 x4 : Option zV} {st : List zV} {M : zM} {a : Int} : uX8_digest R 221 [x0, x1, x2, x3, x4] (.inl a :: st) M ↔ (zIR a ∧ uX8_digest R 222 [x0, x1, x2, x3, x4] (.inr (.inl a) :: st) M) := zU_step dX8_digest_221 (Or.inl rfl)
theorem dX8_digest_222 : decode cX8_digest 222 = .ok (.ladd, 1) := by decide +kernel
theorem rX8_digest_222 {R : zP} {x0 x1 x2 x3 x4 : Option zV} {st : List zV} {M : zM} {a b : Int} : uX8_digest R 222 [x0, x1, x2, x3, x4] (.inr (.inl b) :: .inr (.inl a) :: st) M ↔ uX8_digest R 223 [x0, x1, x2, x3, x4] (.inr (.inl (a + b)) :: st) M := zU_step dX8_digest_222 (Or.inl rfl)
theorem dX8_digest_223 : decode cX8_digest 223 = .ok (.lstore_n 1, 1) := by decide +kernel
theorem rX8_digest_223 {R : zP} {x0 x1 x2 x3 x4 : Option zV} {st : List zV} {M : zM} {a : Int} : uX8_digest R 223 [x0, x1, x2, x3, x4] (.inr (.inl a) :: st) M ↔ uX8_digest R 224 [zkeep x0, some (.inr (.inl a)), none, x3, x4] st M := Iff.trans (zU_step dX8_digest_223 (Or.inl rfl)) ⟨fun h => h.2, fun h => ⟨show 1 + 1 < 5 by decide, h⟩⟩
theorem dX8_digest_224 : decode cX8_digest 224 = .ok (.ldc2_w 337, 3) := by decide +kernel
theorem rX8_digest_224 {R : zP} {x0 x1 x2 x3 x4 : Option zV} {st : List zV} {M : zM} : uX8_digest R 224 [x0, x1, x2, x3, x4] st M ↔ uX8_digest R 227 [x0, x1, x2, x3, x4] (.inr (.inl (31)) :: st) M := zU_step dX8_digest_224 (Or.inl rfl)
theorem dX8_digest_227 : decode cX8_digest 227 = .ok (.lload_n 1, 1) := by decide +kernel
theorem rX8_digest_227 {R : zP} {x0 x2 x3 x4 : Option zV} {st : List zV} {M : zM} {a : Int} : uX8_digest R 227 [x0, some (.inr (.inl a)), x2, x3, x4] st M ↔ uX8_digest R 228 [x0, some (.inr (.inl a)), x2, x3, x4] (.inr (.inl a) :: st) M := zU_step dX8_digest_227 (Or.inl rfl)
theorem dX8_digest_228 : decode cX8_digest 228 = .ok (.lmul, 1) := by decide +kernel
theorem rX8_digest_228 {R : zP} {x0 x1 x2 x3 x4 : Option zV} {st : List zV} {M : zM} {a b : Int} : uX8_digest R 228 [x0, x1, x2, x3, x4] (.inr (.inl b) :: .inr (.inl a) :: st) M ↔ uX8_digest R 229 [x0, x1, x2, x3, x4] (.inr (.inl (a * b)) :: st) M := zU_step dX8_digest_228 (Or.inl rfl)
theorem dX8_digest_229 : decode cX8_digest 229 = .ok (.aload_n 0, 1) := by decide +kernel
theorem rX8_digest_229 {R : zP} {x1 x2 x3 x4 : Option zV} {st : List zV} {M : zM} {a : Nat} : uX8_digest R 229 [some (.inr (.inr a)), x1, x2, x3, x4] st M ↔ uX8_digest R 230 [some (.inr (.inr a)), x1, x2, x3, x4] (.inr (.inr a) :: st) M := zU_step dX8_digest_229 (Or.inl rfl)
theorem dX8_digest_230 : decode cX8_digest 230 = .ok (.bipush 7, 2) := by decide +kernel
theorem rX8_digest_230 {R : zP} {x0 x1 x2 x3 x4 : Option zV} {st : List zV} {M : zM} : uX8_digest R 230 [x0, x1, x2, x3, x4] st M ↔ uX8_digest R 232 [x0, x1, x2, x3, x4] (.inl (7) :: st) M := Iff.trans (zU_step dX8_digest_230 (Or.inl rfl)) ⟨fun h => h.2, fun h => ⟨by decide, h⟩⟩
theorem dX8_digest_232 : decode cX8_digest 232 = .ok (.bipush 6, 2) := by decide +kernel
theorem rX8_digest_232 {R : zP} {x0 x1 x2 x3 x4 : Option zV} {st : List zV} {M : zM} : uX8_digest R 232 [x0, x1, x2, x3, x4] st M ↔ uX8_digest R 234 [x0, x1, x2, x3, x4] (.inl (6) :: st) M := Iff.trans (zU_step dX8_digest_232 (Or.inl rfl)) ⟨fun h => h.2, fun h => ⟨by decide, h⟩⟩
theorem dX8_digest_234 : decode cX8_digest 234 = .ok (.iconst 0, 1) := by decide +kernel
theorem rX8_digest_234 {R : zP} {x0 x1 x2 x3 x4 : Option zV} {st : List zV} {M : zM} : uX8_digest R 234 [x0, x1, x2, x3, x4] st M ↔ uX8_digest R 235 [x0, x1, x2, x3, x4] (.inl (0) :: st) M := zU_step dX8_digest_234 (Or.inl rfl)
theorem dX8_digest_235 : decode cX8_digest 235 = .ok (.invokevirtual 320, 3) := by decide +kernel
theorem rX8_digest_235 {R : zP} {x0 x1 x2 x3 x4 : Option zV} {st : List zV} {M : zM} {a0 a1 a2 a3 : zV} : uX8_digest R 235 [x0, x1, x2, x3, x4] (a3 :: a2 :: a1 :: a0 :: st) M ↔ (st.length ≤ 4 ∧ zcv (zv 8 tX8_yearsOf) [a0, a1, a2, a3] M (fun v M => uX8_digest R 238 [x0, x1, x2, x3, x4] (v :: st) M)) := Iff.trans (zU_step dX8_digest_235 (Or.inl rfl)) ⟨fun h => ⟨h.2.1, zcv_of h.2.2⟩, fun h => ⟨rfl, h.1, zcv_to h.2⟩⟩
theorem dX8_digest_238 : decode cX8_digest 238 = .ok (.i2l, 1) := by decide +kernel
theorem rX8_digest_238 {R : zP} {x0 x1 x2 x3 x4 : Option zV} {st : List zV} {M : zM} {a : Int} : uX8_digest R 238 [x0, x1, x2, x3, x4] (.inl a :: st) M ↔ (zIR a ∧ uX8_digest R 239 [x0, x1, x2, x3, x4] (.inr (.inl a) :: st) M) := zU_step dX8_digest_238 (Or.inl rfl)
theorem dX8_digest_239 : decode cX8_digest 239 = .ok (.ladd, 1) := by decide +kernel
theorem rX8_digest_239 {R : zP} {x0 x1 x2 x3 x4 : Option zV} {st : List zV} {M : zM} {a b : Int} : uX8_digest R 239 [x0, x1, x2, x3, x4] (.inr (.inl b) :: .inr (.inl a) :: st) M ↔ uX8_digest R 240 [x0, x1, x2, x3, x4] (.inr (.inl (a + b)) :: st) M := zU_step dX8_digest_239 (Or.inl rfl)
theorem dX8_digest_240 : decode cX8_digest 240 = .ok (.lstore_n 1, 1) := by decide +kernel
theorem rX8_digest_240 {R : zP} {x0 x1 x2 x3 x4 : Option zV} {st : List zV} {M : zM} {a : Int} : uX8_digest R 240 [x0, x1, x2, x3, x4] (.inr (.inl a) :: st) M ↔ uX8_digest R 241 [zkeep x0, some (.inr (.inl a)), none, x3, x4] st M := Iff.trans (zU_step dX8_digest_240 (Or.inl rfl)) ⟨fun h => h.2, fun h => ⟨show 1 + 1 < 5 by decide, h⟩⟩
theorem dX8_digest_241 : decode cX8_digest 241 = .ok (.ldc2_w 337, 3) := by decide +kernel
theorem rX8_digest_241 {R : zP} {x0 x1 x2 x3 x4 : Option zV} {st : List zV} {M : zM} : uX8_digest R 241 [x0, x1, x2, x3, x4] st M ↔ uX8_digest R 244 [x0, x1, x2, x3, x4] (.inr (.inl (31)) :: st) M := zU_step dX8_digest_241 (Or.inl rfl)
theorem dX8_digest_244 : decode cX8_digest 244 = .ok (.lload_n 1, 1) := by decide +kernel
theorem rX8_digest_244 {R : zP} {x0 x2 x3 x4 : Option zV} {st : List zV} {M : zM} {a : Int} : uX8_digest R 244 [x0, some (.inr (.inl a)), x2, x3, x4] st M ↔ uX8_digest R 245 [x0, some (.inr (.inl a)), x2, x3, x4] (.inr (.inl a) :: st) M := zU_step dX8_digest_244 (Or.inl rfl)
theorem dX8_digest_245 : decode cX8_digest 245 = .ok (.lmul, 1) := by decide +kernel
theorem rX8_digest_245 {R : zP} {x0 x1 x2 x3 x4 : Option zV} {st : List zV} {M : zM} {a b : Int} : uX8_digest R 245 [x0, x1, x2, x3, x4] (.inr (.inl b) :: .inr (.inl a) :: st) M ↔ uX8_digest R 246 [x0, x1, x2, x3, x4] (.inr (.inl (a * b)) :: st) M := zU_step dX8_digest_245 (Or.inl rfl)
theorem dX8_digest_246 : decode cX8_digest 246 = .ok (.aload_n 0, 1) := by decide +kernel
theorem rX8_digest_246 {R : zP} {x1 x2 x3 x4 : Option zV} {st : List zV} {M : zM} {a : Nat} : uX8_digest R 246 [some (.inr (.inr a)), x1, x2, x3, x4] st M ↔ uX8_digest R 247 [some (.inr (.inr a)), x1, x2, x3, x4] (.inr (.inr a) :: st) M := zU_step dX8_digest_246 (Or.inl rfl)
theorem dX8_digest_247 : decode cX8_digest 247 = .ok (.bipush 7, 2) := by decide +kernel
theorem rX8_digest_247 {R : zP} {x0 x1 x2 x3 x4 : Option zV} {st : List zV} {M : zM} : uX8_digest R 247 [x0, x1, x2, x3, x4] st M ↔ uX8_digest R 249 [x0, x1, x2, x3, x4] (.inl (7) :: st) M := Iff.trans (zU_step dX8_digest_247 (Or.inl rfl)) ⟨fun h => h.2, fun h => ⟨by decide, h⟩⟩
theorem dX8_digest_249 : decode cX8_digest 249 = .ok (.bipush 6, 2) := by decide +kernel
theorem rX8_digest_249 {R : zP} {x0 x1 x2 x3 x4 : Option zV} {st : List zV} {M : zM} : uX8_digest R 249 [x0, x1, x2, x3, x4] st M ↔ uX8_digest R 251 [x0, x1, x2, x3, x4] (.inl (6) :: st) M := Iff.trans (zU_step dX8_digest_249 (Or.inl rfl)) ⟨fun h => h.2, fun h => ⟨by decide, h⟩⟩
theorem dX8_digest_251 : decode cX8_digest 251 = .ok (.iconst 1, 1) := by decide +kernel
theorem rX8_digest_251 {R : zP} {x0 x1 x2 x3 x4 : Option zV} {st : List zV} {M : zM} : uX8_digest R 251 [x0, x1, x2, x3, x4] st M ↔ uX8_digest R 252 [x0, x1, x2, x3, x4] (.inl (1) :: st) M := zU_step dX8_digest_251 (Or.inl rfl)
theorem dX8_digest_252 : decode cX8_digest 252 = .ok (.invokevirtual 320, 3) := by decide +kernel
theorem rX8_digest_252 {R : zP} {x0 x1 x2 x3 x4 : Option zV} {st : List zV} {M : zM} {a0 a1 a2 a3 : zV} : uX8_digest R 252 [x0, x1, x2, x3, x4] (a3 :: a2 :: a1 :: a0 :: st) M ↔ (st.length ≤ 4 ∧ zcv (zv 8 tX8_yearsOf) [a0, a1, a2, a3] M (fun v M => uX8_digest R 255 [x0, x1, x2, x3, x4] (v :: st) M)) := Iff.trans (zU_step dX8_digest_252 (Or.inl rfl)) ⟨fun h => ⟨h.2.1, zcv_of h.2.2⟩, fun h => ⟨rfl, h.1, zcv_to h.2⟩⟩
theorem dX8_digest_255 : decode cX8_digest 255 = .ok (.i2l, 1) := by decide +kernel
theorem rX8_digest_255 {R : zP} {x0 x1 x2 x3 x4 : Option zV} {st : List zV} {M : zM} {a : Int} : uX8_digest R 255 [x0, x1, x2, x3, x4] (.inl a :: st) M ↔ (zIR a ∧ uX8_digest R 256 [x0, x1, x2, x3, x4] (.inr (.inl a) :: st) M) := zU_step dX8_digest_255 (Or.inl rfl)
theorem dX8_digest_256 : decode cX8_digest 256 = .ok (.ladd, 1) := by decide +kernel
theorem rX8_digest_256 {R : zP} {x0 x1 x2 x3 x4 : Option zV} {st : List zV} {M : zM} {a b : Int} : uX8_digest R 256 [x0, x1, x2, x3, x4] (.inr (.inl b) :: .inr (.inl a) :: st) M ↔ uX8_digest R 257 [x0, x1, x2, x3, x4] (.inr (.inl (a + b)) :: st) M := zU_step dX8_digest_256 (Or.inl rfl)
theorem dX8_digest_257 : decode cX8_digest 257 = .ok (.lreturn, 1) := by decide +kernel
theorem rX8_digest_257 {R : zP} {x0 x1 x2 x3 x4 : Option zV} {M : zM} {a : Int} : uX8_digest R 257 [x0, x1, x2, x3, x4] [.inr (.inl a)] M ↔ R (some (.inr (.inl a))) M := Iff.trans (zU_step dX8_digest_257 (Or.inl rfl)) ⟨fun h => h.2.2, fun h => ⟨rfl, rfl, h⟩⟩
theorem eX8_digest {R : zP} {M : zM} {a0 : Nat} : tX8_digest [.inr (.inr a0)] M R ↔ uX8_digest R 0 [some (.inr (.inr a0)), none, none, none, none] [] M := ⟨fun h => h.2, fun h => ⟨show 1 ≤ 5 by decide, h⟩⟩
