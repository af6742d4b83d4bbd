def uX7_count (R : zP) : zK := zU fX7 vX7_count cX7_count R
theorem dX7_count_0 : decode cX7_count 0 = .ok (.iload_n 1, 1) := by decide +kernel
theorem rX7_count_0 {R : zP} {x0 : Option zV} {st : List zV} {M : zM} {a : Int} : uX7_count R 0 [x0, some (.inl a)] st M ↔ uX7_count R 1 [x0, some (.inl a)] (.inl a :: st) M := zU_step dX7_count_0 (Or.inl rfl)
theorem dX7_count_1 : decode cX7_count 1 = .ok (.tableswitch 128 0 8 #[51, 59, 67, 75, 83, 91, 106, 115, 123], 51) := by decide +kernel
theorem rX7_count_1 {R : zP} {x0 x1 : Option zV} {st : List zV} {M : zM} {a : Int} : uX7_count R 1 [x0, x1] (.inl a :: st) M ↔ (zIR a ∧ (a = 0 → uX7_count R 52 [x0, x1] st M) ∧ (a = 1 → uX7_count R 60 [x0, x1] st M) ∧ (a = 2 → uX7_count R 68 [x0, x1] st M) ∧ (a = 3 → uX7_count R 76 [x0, x1] st M) ∧ (a = 4 → uX7_count R 84 [x0, x1] st M) ∧ (a = 5 → uX7_count R 92 [x0, x1] st M) ∧ (a = 6 → uX7_count R 107 [x0, x1] st M) ∧ (a = 7 → uX7_count R 116 [x0, x1] st M) ∧ (a = 8 → uX7_count R 124 [x0, x1] st M) ∧ ((a < 0 ∨ 8 < a) → uX7_count R 129 [x0, x1] st M)) := by
  refine Iff.trans (zU_step dX7_count_1 (Or.inr rfl)) ?_
  constructor
  · intro h
    refine ⟨h.1, fun e => by subst e; exact h.2.2, fun e => by subst e; exact h.2.2, fun e => by subst e; exact h.2.2, fun e => by subst e; exact h.2.2, fun e => by subst e; exact h.2.2, fun e => by subst e; exact h.2.2, fun e => by subst e; exact h.2.2, fun e => by subst e; exact h.2.2, fun e => by subst e; exact h.2.2, fun e => ?_⟩
    have h2 := h.2
    simp only [zsw, if_pos e, zopt] at h2
    exact h2.2
  · intro h
    refine ⟨h.1, ?_⟩
    by_cases e : a < 0 ∨ 8 < a
    · simp only [zsw, if_pos e, zopt]
      exact ⟨by decide, h.2.2.2.2.2.2.2.2.2.2 e⟩
    · have e2 : a = 0 ∨ a = 1 ∨ a = 2 ∨ a = 3 ∨ a = 4 ∨ a = 5 ∨ a = 6 ∨ a = 7 ∨ a = 8 := by omega
      rcases e2 with e2 | e2 | e2 | e2 | e2 | e2 | e2 | e2 | e2
      · subst e2
        exact ⟨by decide, h.2.1 rfl⟩
      · subst e2
        exact ⟨by decide, h.2.2.1 rfl⟩
      · subst e2
        exact ⟨by decide, h.2.2.2.1 rfl⟩
      · subst e2
        exact ⟨by decide, h.2.2.2.2.1 rfl⟩
      · subst e2
        exact ⟨by decide, h.2.2.2.2.2.1 rfl⟩
      · subst e2
        exact ⟨by decide, h.2.2.2.2.2.2.1 rfl⟩
      · subst e2
        exact ⟨by decide, h.2.2.2.2.2.2.2.1 rfl⟩
      · subst e2
        exact ⟨by decide, h.2.2.2.2.2.2.2.2.1 rfl⟩
      · subst e2
        exact ⟨by decide, h.2.2.2.2.2.2.2.2.2.1 rfl⟩
theorem dX7_count_52 : decode cX7_count 52 = .ok (.aload_n 0, 1) := by decide +kernel
theorem rX7_count_52 {R : zP} {x1 : Option zV} {st : List zV} {M : zM} {a : Nat} : uX7_count R 52 [some (.inr (.inr a)), x1] st M ↔ uX7_count R 53 [some (.inr (.inr a)), x1] (.inr (.inr a) :: st) M := zU_step dX7_count_52 (Or.inl rfl)
theorem dX7_count_53 : decode cX7_count 53 = .ok (.getfield 14, 3) := by decide +kernel
theorem rX7_count_53 {R : zP} {x0 x1 : Option zV} {st : List zV} {M : zM} {r : Nat} : uX7_count R 53 [x0, x1] (.inr (.inr r) :: st) M ↔ zgetx fX7 14 r M (fun v => uX7_count R 56 [x0, x1] (v :: st) M) := zU_step dX7_count_53 (Or.inl rfl)
theorem dX7_count_56 : decode cX7_count 56 = .ok (.getfield 116, 3) := by decide +kernel
theorem rX7_count_56 {R : zP} {x0 x1 : Option zV} {st : List zV} {M : zM} {r : Nat} : uX7_count R 56 [x0, x1] (.inr (.inr r) :: st) M ↔ zgetx fX7 116 r M (fun v => uX7_count R 59 [x0, x1] (v :: st) M) := zU_step dX7_count_56 (Or.inl rfl)
theorem dX7_count_59 : decode cX7_count 59 = .ok (.ireturn, 1) := by decide +kernel
theorem rX7_count_59 {R : zP} {x0 x1 : Option zV} {M : zM} {a : Int} : uX7_count R 59 [x0, x1] [.inl a] M ↔ R (some (.inl a)) M := Iff.trans (zU_step dX7_count_59 (Or.inl rfl)) ⟨fun h => h.2.2, fun h => ⟨rfl, Or.inl rfl, h⟩⟩
theorem dX7_count_60 : decode cX7_count 60 = .ok (.aload_n 0, 1) := by decide +kernel
theorem rX7_count_60 {R : zP} {x1 : Option zV} {st : List zV} {M : zM} {a : Nat} : uX7_count R 60 [some (.inr (.inr a)), x1] st M ↔ uX7_count R 61 [some (.inr (.inr a)), x1] (.inr (.inr a) :: st) M := zU_step dX7_count_60 (Or.inl rfl)
theorem dX7_count_61 : decode cX7_count 61 = .ok (.getfield 22, 3) := by decide +kernel
theorem rX7_count_61 {R : zP} {x0 x1 : Option zV} {st : List zV} {M : zM} {r : Nat} : uX7_count R 61 [x0, x1] (.inr (.inr r) :: st) M ↔ zgetx fX7 22 r M (fun v => uX7_count R 64 [x0, x1] (v :: st) M) := zU_step dX7_count_61 (Or.inl rfl)
theorem dX7_count_64 : decode cX7_count 64 = .ok (.getfield 116, 3) := by decide +kernel
theorem rX7_count_64 {R : zP} {x0 x1 : Option zV} {st : List zV} {M : zM} {r : Nat} : uX7_count R 64 [x0, x1] (.inr (.inr r) :: st) M ↔ zgetx fX7 116 r M (fun v => uX7_count R 67 [x0, x1] (v :: st) M) := zU_step dX7_count_64 (Or.inl rfl)
theorem dX7_count_67 : decode cX7_count 67 = .ok (.ireturn, 1) := by decide +kernel
theorem rX7_count_67 {R : zP} {x0 x1 : Option zV} {M : zM} {a : Int} : uX7_count R 67 [x0, x1] [.inl a] M ↔ R (some (.inl a)) M := Iff.trans (zU_step dX7_count_67 (Or.inl rfl)) ⟨fun h => h.2.2, fun h => ⟨rfl, Or.inl rfl, h⟩⟩
theorem dX7_count_68 : decode cX7_count 68 = .ok (.aload_n 0, 1) := by decide +kernel
theorem rX7_count_68 {R : zP} {x1 : Option zV} {st : List zV} {M : zM} {a : Nat} : uX7_count R 68 [some (.inr (.inr a)), x1] st M ↔ uX7_count R 69 [some (.inr (.inr a)), x1] (.inr (.inr a) :: st) M := zU_step dX7_count_68 (Or.inl rfl)
theorem dX7_count_69 : decode cX7_count 69 = .ok (.getfield 14, 3) := by decide +kernel
theorem rX7_count_69 {R : zP} {x0 x1 : Option zV} {st : List zV} {M : zM} {r : Nat} : uX7_count R 69 [x0, x1] (.inr (.inr r) :: st) M ↔ zgetx fX7 14 r M (fun v => uX7_count R 72 [x0, x1] (v :: st) M) := zU_step dX7_count_69 (Or.inl rfl)
theorem dX7_count_72 : decode cX7_count 72 = .ok (.getfield 316, 3) := by decide +kernel
theorem rX7_count_72 {R : zP} {x0 x1 : Option zV} {st : List zV} {M : zM} {r : Nat} : uX7_count R 72 [x0, x1] (.inr (.inr r) :: st) M ↔ zgetx fX7 316 r M (fun v => uX7_count R 75 [x0, x1] (v :: st) M) := zU_step dX7_count_72 (Or.inl rfl)
theorem dX7_count_75 : decode cX7_count 75 = .ok (.ireturn, 1) := by decide +kernel
theorem rX7_count_75 {R : zP} {x0 x1 : Option zV} {M : zM} {a : Int} : uX7_count R 75 [x0, x1] [.inl a] M ↔ R (some (.inl a)) M := Iff.trans (zU_step dX7_count_75 (Or.inl rfl)) ⟨fun h => h.2.2, fun h => ⟨rfl, Or.inl rfl, h⟩⟩
theorem dX7_count_76 : decode cX7_count 76 = .ok (.aload_n 0, 1) := by decide +kernel
theorem rX7_count_76 {R : zP} {x1 : Option zV} {st : List zV} {M : zM} {a : Nat} : uX7_count R 76 [some (.inr (.inr a)), x1] st M ↔ uX7_count R 77 [some (.inr (.inr a)), x1] (.inr (.inr a) :: st) M := zU_step dX7_count_76 (Or.inl rfl)
theorem dX7_count_77 : decode cX7_count 77 = .ok (.getfield 22, 3) := by decide +kernel
theorem rX7_count_77 {R : zP} {x0 x1 : Option zV} {st : List zV} {M : zM} {r : Nat} : uX7_count R 77 [x0, x1] (.inr (.inr r) :: st) M ↔ zgetx fX7 22 r M (fun v => uX7_count R 80 [x0, x1] (v :: st) M) := zU_step dX7_count_77 (Or.inl rfl)
theorem dX7_count_80 : decode cX7_count 80 = .ok (.getfield 316, 3) := by decide +kernel
theorem rX7_count_80 {R : zP} {x0 x1 : Option zV} {st : List zV} {M : zM} {r : Nat} : uX7_count R 80 [x0, x1] (.inr (.inr r) :: st) M ↔ zgetx fX7 316 r M (fun v => uX7_count R 83 [x0, x1] (v :: st) M) := zU_step dX7_count_80 (Or.inl rfl)
theorem dX7_count_83 : decode cX7_count 83 = .ok (.ireturn, 1) := by decide +kernel
theorem rX7_count_83 {R : zP} {x0 x1 : Option zV} {M : zM} {a : Int} : uX7_count R 83 [x0, x1] [.inl a] M ↔ R (some (.inl a)) M := Iff.trans (zU_step dX7_count_83 (Or.inl rfl)) ⟨fun h => h.2.2, fun h => ⟨rfl, Or.inl rfl, h⟩⟩
theorem dX7_count_84 : decode cX7_count 84 = .ok (.aload_n 0, 1) := by decide +kernel
theorem rX7_count_84 {R : zP} {x1 : Option zV} {st : List zV} {M : zM} {a : Nat} : uX7_count R 84 [some (.inr (.inr a)), x1] st M ↔ uX7_count R 85 [some (.inr (.inr a)), x1] (.inr (.inr a) :: st) M := zU_step dX7_count_84 (Or.inl rfl)
theorem dX7_count_85 : decode cX7_count 85 = .ok (.getfield 28, 3) := by decide +kernel
theorem rX7_count_85 {R : zP} {x0 x1 : Option zV} {st : List zV} {M : zM} {r : Nat} : uX7_count R 85 [x0, x1] (.inr (.inr r) :: st) M ↔ zgetx fX7 28 r M (fun v => uX7_count R 88 [x0, x1] (v :: st) M) := zU_step dX7_count_85 (Or.inl rfl)
theorem dX7_count_88 : decode cX7_count 88 = .ok (.getfield 234, 3) := by decide +kernel
theorem rX7_count_88 {R : zP} {x0 x1 : Option zV} {st : List zV} {M : zM} {r : Nat} : uX7_count R 88 [x0, x1] (.inr (.inr r) :: st) M ↔ zgetx fX7 234 r M (fun v => uX7_count R 91 [x0, x1] (v :: st) M) := zU_step dX7_count_88 (Or.inl rfl)
theorem dX7_count_91 : decode cX7_count 91 = .ok (.ireturn, 1) := by decide +kernel
theorem rX7_count_91 {R : zP} {x0 x1 : Option zV} {M : zM} {a : Int} : uX7_count R 91 [x0, x1] [.inl a] M ↔ R (some (.inl a)) M := Iff.trans (zU_step dX7_count_91 (Or.inl rfl)) ⟨fun h => h.2.2, fun h => ⟨rfl, Or.inl rfl, h⟩⟩
theorem dX7_count_92 : decode cX7_count 92 = .ok (.aload_n 0, 1) := by decide +kernel
theorem rX7_count_92 {R : zP} {x1 : Option zV} {st : List zV} {M : zM} {a : Nat} : uX7_count R 92 [some (.inr (.inr a)), x1] st M ↔ uX7_count R 93 [some (.inr (.inr a)), x1] (.inr (.inr a) :: st) M := zU_step dX7_count_92 (Or.inl rfl)
theorem dX7_count_93 : decode cX7_count 93 = .ok (.aload_n 0, 1) := by decide +kernel
theorem rX7_count_93 {R : zP} {x1 : Option zV} {st : List zV} {M : zM} {a : Nat} : uX7_count R 93 [some (.inr (.inr a)), x1] st M ↔ uX7_count R 94 [some (.inr (.inr a)), x1] (.inr (.inr a) :: st) M := zU_step dX7_count_93 (Or.inl rfl)
theorem dX7_count_94 : decode cX7_count 94 = .ok (.getfield 28, 3) := by decide +kernel
theorem rX7_count_94 {R : zP} {x0 x1 : Option zV} {st : List zV} {M : zM} {r : Nat} : uX7_count R 94 [x0, x1] (.inr (.inr r) :: st) M ↔ zgetx fX7 28 r M (fun v => uX7_count R 97 [x0, x1] (v :: st) M) := zU_step dX7_count_94 (Or.inl rfl)
theorem dX7_count_97 : decode cX7_count 97 = .ok (.sipush 255, 3) := by decide +kernel
theorem rX7_count_97 {R : zP} {x0 x1 : Option zV} {st : List zV} {M : zM} : uX7_count R 97 [x0, x1] st M ↔ uX7_count R 100 [x0, x1] (.inl (255) :: st) M := Iff.trans (zU_step dX7_count_97 (Or.inl rfl)) ⟨fun h => h.2, fun h => ⟨by decide, h⟩⟩
theorem dX7_count_100 : decode cX7_count 100 = .ok (.invokevirtual 191, 3) := by decide +kernel
theorem rX7_count_100 {R : zP} {x0 x1 : Option zV} {st : List zV} {M : zM} {a0 a1 a2 : zV} : uX7_count R 100 [x0, x1] (a2 :: a1 :: a0 :: st) M ↔ (st.length ≤ 4 ∧ zcv (zv 7 tX7_unknowing) [a0, a1, a2] M (fun v M => uX7_count R 103 [x0, x1] (v :: st) M)) := Iff.trans (zU_step dX7_count_100 (Or.inl rfl)) ⟨fun h => ⟨h.2.1, zcv_of h.2.2⟩, fun h => ⟨rfl, h.1, zcv_to h.2⟩⟩
theorem dX7_count_103 : decode cX7_count 103 = .ok (.invokestatic 173, 3) := by decide +kernel
theorem rX7_count_103 {R : zP} {x0 x1 : Option zV} {st : List zV} {M : zM} {a0 : zV} : uX7_count R 103 [x0, x1] (a0 :: st) M ↔ (st.length ≤ 4 ∧ zcv tJ6_bitCount_0f7a4 [a0] M (fun v M => uX7_count R 106 [x0, x1] (v :: st) M)) := Iff.trans (zU_step dX7_count_103 (Or.inl rfl)) ⟨fun h => ⟨h.2.1, zcv_of h.2.2⟩, fun h => ⟨rfl, h.1, zcv_to h.2⟩⟩
theorem dX7_count_106 : decode cX7_count 106 = .ok (.ireturn, 1) := by decide +kernel
theorem rX7_count_106 {R : zP} {x0 x1 : Option zV} {M : zM} {a : Int} : uX7_count R 106 [x0, x1] [.inl a] M ↔ R (some (.inl a)) M := Iff.trans (zU_step dX7_count_106 (Or.inl rfl)) ⟨fun h => h.2.2, fun h => ⟨rfl, Or.inl rfl, h⟩⟩
theorem dX7_count_107 : decode cX7_count 107 = .ok (.aload_n 0, 1) := by decide +kernel
theorem rX7_count_107 {R : zP} {x1 : Option zV} {st : List zV} {M : zM} {a : Nat} : uX7_count R 107 [some (.inr (.inr a)), x1] st M ↔ uX7_count R 108 [some (.inr (.inr a)), x1] (.inr (.inr a) :: st) M := zU_step dX7_count_107 (Or.inl rfl)
theorem dX7_count_108 : decode cX7_count 108 = .ok (.aload_n 0, 1) := by decide +kernel
theorem rX7_count_108 {R : zP} {x1 : Option zV} {st : List zV} {M : zM} {a : Nat} : uX7_count R 108 [some (.inr (.inr a)), x1] st M ↔ uX7_count R 109 [some (.inr (.inr a)), x1] (.inr (.inr a) :: st) M := zU_step dX7_count_108 (Or.inl rfl)
theorem dX7_count_109 : decode cX7_count 109 = .ok (.getfield 28, 3) := by decide +kernel
theorem rX7_count_109 {R : zP} {x0 x1 : Option zV} {st : List zV} {M : zM} {r : Nat} : uX7_count R 109 [x0, x1] (.inr (.inr r) :: st) M ↔ zgetx fX7 28 r M (fun v => uX7_count R 112 [x0, x1] (v :: st) M) := zU_step dX7_count_109 (Or.inl rfl)
theorem dX7_count_112 : decode cX7_count 112 = .ok (.invokevirtual 282, 3) := by decide +kernel
theorem rX7_count_112 {R : zP} {x0 x1 : Option zV} {st : List zV} {M : zM} {a0 a1 : zV} : uX7_count R 112 [x0, x1] (a1 :: a0 :: st) M ↔ (st.length ≤ 4 ∧ zcv (zv 7 tX7_sickness) [a0, a1] M (fun v M => uX7_count R 115 [x0, x1] (v :: st) M)) := Iff.trans (zU_step dX7_count_112 (Or.inl rfl)) ⟨fun h => ⟨h.2.1, zcv_of h.2.2⟩, fun h => ⟨rfl, h.1, zcv_to h.2⟩⟩
theorem dX7_count_115 : decode cX7_count 115 = .ok (.ireturn, 1) := by decide +kernel
theorem rX7_count_115 {R : zP} {x0 x1 : Option zV} {M : zM} {a : Int} : uX7_count R 115 [x0, x1] [.inl a] M ↔ R (some (.inl a)) M := Iff.trans (zU_step dX7_count_115 (Or.inl rfl)) ⟨fun h => h.2.2, fun h => ⟨rfl, Or.inl rfl, h⟩⟩
theorem dX7_count_116 : decode cX7_count 116 = .ok (.aload_n 0, 1) := by decide +kernel
theorem rX7_count_116 {R : zP} {x1 : Option zV} {st : List zV} {M : zM} {a : Nat} : uX7_count R 116 [some (.inr (.inr a)), x1] st M ↔ uX7_count R 117 [some (.inr (.inr a)), x1] (.inr (.inr a) :: st) M := zU_step dX7_count_116 (Or.inl rfl)
theorem dX7_count_117 : decode cX7_count 117 = .ok (.getfield 38, 3) := by decide +kernel
theorem rX7_count_117 {R : zP} {x0 x1 : Option zV} {st : List zV} {M : zM} {r : Nat} : uX7_count R 117 [x0, x1] (.inr (.inr r) :: st) M ↔ zgetx fX7 38 r M (fun v => uX7_count R 120 [x0, x1] (v :: st) M) := zU_step dX7_count_117 (Or.inl rfl)
theorem dX7_count_120 : decode cX7_count 120 = .ok (.getfield 319, 3) := by decide +kernel
theorem rX7_count_120 {R : zP} {x0 x1 : Option zV} {st : List zV} {M : zM} {r : Nat} : uX7_count R 120 [x0, x1] (.inr (.inr r) :: st) M ↔ zgetx fX7 319 r M (fun v => uX7_count R 123 [x0, x1] (v :: st) M) := zU_step dX7_count_120 (Or.inl rfl)
theorem dX7_count_123 : decode cX7_count 123 = .ok (.ireturn, 1) := by decide +kernel
theorem rX7_count_123 {R : zP} {x0 x1 : Option zV} {M : zM} {a : Int} : uX7_count R 123 [x0, x1] [.inl a] M ↔ R (some (.inl a)) M := Iff.trans (zU_step dX7_count_123 (Or.inl rfl)) ⟨fun h => h.2.2, fun h => ⟨rfl, Or.inl rfl, h⟩⟩
theorem dX7_count_124 : decode cX7_count 124 = .ok (.aload_n 0, 1) := by decide +kernel
theorem rX7_count_124 {R : zP} {x1 : Option zV} {st : List zV} {M : zM} {a : Nat} : uX7_count R 124 [some (.inr (.inr a)), x1] st M ↔ uX7_count R 125 [some (.inr (.inr a)), x1] (.inr (.inr a) :: st) M := zU_step dX7_count_124 (Or.inl rfl)
theorem dX7_count_125 : decode cX7_count 125 = .ok (.getfield 48, 3) := by decide +kernel
theorem rX7_count_125 {R : zP} {x0 x1 : Option zV} {st : List zV} {M : zM} {r : Nat} : uX7_count R 125 [x0, x1] (.inr (.inr r) :: st) M ↔ zgetx fX7 48 r M (fun v => uX7_count R 128 [x0, x1] (v :: st) M) := zU_step dX7_count_125 (Or.inl rfl)
theorem dX7_count_128 : decode cX7_count 128 = .ok (.ireturn, 1) := by decide +kernel
theorem rX7_count_128 {R : zP} {x0 x1 : Option zV} {M : zM} {a : Int} : uX7_count R 128 [x0, x1] [.inl a] M ↔ R (some (.inl a)) M := Iff.trans (zU_step dX7_count_128 (Or.inl rfl)) ⟨fun h => h.2.2, fun h => ⟨rfl, Or.inl rfl, h⟩⟩
theorem dX7_count_129 : decode cX7_count 129 = .ok (.bipush (-2), 2) := by decide +kernel
theorem rX7_count_129 {R : zP} {x0 x1 : Option zV} {st : List zV} {M : zM} : uX7_count R 129 [x0, x1] st M ↔ uX7_count R 131 [x0, x1] (.inl (-2) :: st) M := Iff.trans (zU_step dX7_count_129 (Or.inl rfl)) ⟨fun h => h.2, fun h => ⟨by decide, h⟩⟩
theorem dX7_count_131 : decode cX7_count 131 = .ok (.ireturn, 1) := by decide +kernel
theorem rX7_count_131 {R : zP} {x0 x1 : Option zV} {M : zM} {a : Int} : uX7_count R 131 [x0, x1] [.inl a] M ↔ R (some (.inl a)) M := Iff.trans (zU_step dX7_count_131 (Or.inl rfl)) ⟨fun h => h.2.2, fun h => ⟨rfl, Or.inl rfl, h⟩⟩
theorem eX7_count {R : zP} {M : zM} {a0 : Nat} {p0 : Int} : tX7_count [.inr (.inr a0), .inl p0] M R ↔ uX7_count R 0 [some (.inr (.inr a0)), some (.inl p0)] [] M := ⟨fun h => h.2, fun h => ⟨show 2 ≤ 2 by decide, h⟩⟩
def uX7_mixMember (R : zP) : zK := zU fX7 vX7_mixMember cX7_mixMember R
theorem dX7_mixMember_0 : decode cX7_mixMember 0 = .ok (.lload_n 1, 1) := by decide +kernel
theorem rX7_mixMember_0 {R : zP} {x0 x2 x3 x4 x5 x6 x7 : Option zV} {st : List zV} {M : zM} {a : Int} : uX7_mixMember R 0 [x0, some (.inr (.inl a)), x2, x3, x4, x5, x6, x7] st M ↔ uX7_mixMember R 1 [x0, some (.inr (.inl a)), x2, x3, x4, x5, x6, x7] (.inr (.inl a) :: st) M := zU_step dX7_mixMember_0 (Or.inl rfl)
theorem dX7_mixMember_1 : decode cX7_mixMember 1 = .ok (.lstore 4, 2) := by decide +kernel
theorem rX7_mixMember_1 {R : zP} {x0 x1 x2 x4 x5 x6 x7 : Option zV} {st : List zV} {M : zM} {a : Int} {y : Int} : uX7_mixMember R 1 [x0, x1, x2, some (.inl y), x4, x5, x6, x7] (.inr (.inl a) :: st) M ↔ uX7_mixMember R 3 [x0, x1, x2, some (.inl y), some (.inr (.inl a)), none, x6, x7] st M := Iff.trans (zU_step dX7_mixMember_1 (Or.inl rfl)) ⟨fun h => h.2, fun h => ⟨show 4 + 1 < 8 by decide, h⟩⟩
theorem rX7_mixMember_1z {R : zP} {x0 x1 x2 x3 x4 x5 x6 x7 : Option zV} {st : List zV} {M : zM} {a : Int} : uX7_mixMember R 1 [x0, x1, x2, x3, x4, x5, x6, x7] (.inr (.inl a) :: st) M ↔ uX7_mixMember R 3 [x0, x1, x2, zkeep x3, some (.inr (.inl a)), none, x6, x7] st M := Iff.trans (zU_step dX7_mixMember_1 (Or.inl rfl)) ⟨fun h => h.2, fun h => ⟨show 4 + 1 < 8 by decide, h⟩⟩
theorem dX7_mixMember_3 : decode cX7_mixMember 3 = .ok (.iconst 0, 1) := by decide +kernel
theorem rX7_mixMember_3 {R : zP} {x0 x1 x2 x3 x4 x5 x6 x7 : Option zV} {st : List zV} {M : zM} : uX7_mixMember R 3 [x0, x1, x2, x3, x4, x5, x6, x7] st M ↔ uX7_mixMember R 4 [x0, x1, x2, x3, x4, x5, x6, x7] (.inl (0) :: st) M := zU_step dX7_mixMember_3 (Or.inl rfl)
theorem dX7_mixMember_4 : decode cX7_mixMember 4 = .ok (.istore 6, 2) := by decide +kernel
theorem rX7_mixMember_4 {R : zP} {x0 x1 x2 x3 x4 x6 x7 : Option zV} {st : List zV} {M : zM} {a : Int} : uX7_mixMember R 4 [x0, x1, x2, x3, x4, none, x6, x7] (.inl a :: st) M ↔ uX7_mixMember R 6 [x0, x1, x2, x3, x4, none, some (.inl a), x7] st M := Iff.trans (zU_step dX7_mixMember_4 (Or.inl rfl)) ⟨fun h => h.2, fun h => ⟨show 6 < 8 by decide, h⟩⟩
theorem rX7_mixMember_4z {R : zP} {x0 x1 x2 x3 x4 x5 x6 x7 : Option zV} {st : List zV} {M : zM} {a : Int} : uX7_mixMember R 4 [x0, x1, x2, x3, x4, x5, x6, x7] (.inl a :: st) M ↔ uX7_mixMember R 6 [x0, x1, x2, x3, x4, zkeep x5, some (.inl a), x7] st M := Iff.trans (zU_step dX7_mixMember_4 (Or.inl rfl)) ⟨fun h => h.2, fun h => ⟨show 6 < 8 by decide, h⟩⟩
theorem dX7_mixMember_6 : decode cX7_mixMember 6 = .ok (.iload 6, 2) := by decide +kernel
theorem rX7_mixMember_6 {R : zP} {x0 x1 x2 x3 x4 x5 x7 : Option zV} {st : List zV} {M : zM} {a : Int} : uX7_mixMember R 6 [x0, x1, x2, x3, x4, x5, some (.inl a), x7] st M ↔ uX7_mixMember R 8 [x0, x1, x2, x3, x4, x5, some (.inl a), x7] (.inl a :: st) M := zU_step dX7_mixMember_6 (Or.inl rfl)
theorem dX7_mixMember_8 : decode cX7_mixMember 8 = .ok (.iconst 5, 1) := by decide +kernel
theorem rX7_mixMember_8 {R : zP} {x0 x1 x2 x3 x4 x5 x6 x7 : Option zV} {st : List zV} {M : zM} : uX7_mixMember R 8 [x0, x1, x2, x3, x4, x5, x6, x7] st M ↔ uX7_mixMember R 9 [x0, x1, x2, x3, x4, x5, x6, x7] (.inl (5) :: st) M := zU_step dX7_mixMember_8 (Or.inl rfl)
theorem dX7_mixMember_9 : decode cX7_mixMember 9 = .ok (.if_icmp .ge 26, 3) := by decide +kernel
theorem rX7_mixMember_9 {R : zP} {x0 x1 x2 x3 x4 x5 x6 x7 : Option zV} {st : List zV} {M : zM} {a b : Int} : uX7_mixMember R 9 [x0, x1, x2, x3, x4, x5, x6, x7] (.inl b :: .inl a :: st) M ↔ ((zIR a ∧ zIR b) ∧ if b ≤ a then uX7_mixMember R 35 [x0, x1, x2, x3, x4, x5, x6, x7] st M else uX7_mixMember R 12 [x0, x1, x2, x3, x4, x5, x6, x7] st M) := Iff.trans (zU_step dX7_mixMember_9 (Or.inl rfl)) ⟨fun h => ⟨⟨h.1.1, h.1.2.1⟩, (zite (c := b ≤ a)).mpr h.2⟩, fun h => ⟨⟨h.1.1, h.1.2, by decide⟩, (zite (c := b ≤ a)).mp h.2⟩⟩
theorem dX7_mixMember_12 : decode cX7_mixMember 12 = .ok (.ldc2_w 322, 3) := by decide +kernel
theorem rX7_mixMember_12 {R : zP} {x0 x1 x2 x3 x4 x5 x6 x7 : Option zV} {st : List zV} {M : zM} : uX7_mixMember R 12 [x0, x1, x2, x3, x4, x5, x6, x7] st M ↔ uX7_mixMember R 15 [x0, x1, x2, x3, x4, x5, x6, x7] (.inr (.inl (31)) :: st) M := zU_step dX7_mixMember_12 (Or.inl rfl)
theorem dX7_mixMember_15 : decode cX7_mixMember 15 = .ok (.lload 4, 2) := by decide +kernel
theorem rX7_mixMember_15 {R : zP} {x0 x1 x2 x3 x5 x6 x7 : Option zV} {st : List zV} {M : zM} {a : Int} : uX7_mixMember R 15 [x0, x1, x2, x3, some (.inr (.inl a)), x5, x6, x7] st M ↔ uX7_mixMember R 17 [x0, x1, x2, x3, some (.inr (.inl a)), x5, x6, x7] (.inr (.inl a) :: st) M := zU_step dX7_mixMember_15 (Or.inl rfl)
theorem dX7_mixMember_17 : decode cX7_mixMember 17 = .ok (.lmul, 1) := by decide +kernel
theorem rX7_mixMember_17 {R : zP} {x0 x1 x2 x3 x4 x5 x6 x7 : Option zV} {st : List zV} {M : zM} {a b : Int} : uX7_mixMember R 17 [x0, x1, x2, x3, x4, x5, x6, x7] (.inr (.inl b) :: .inr (.inl a) :: st) M ↔ uX7_mixMember R 18 [x0, x1, x2, x3, x4, x5, x6, x7] (.inr (.inl (a * b)) :: st) M := zU_step dX7_mixMember_17 (Or.inl rfl)
theorem dX7_mixMember_18 : decode cX7_mixMember 18 = .ok (.aload_n 0, 1) := by decide +kernel
theorem rX7_mixMember_18 {R : zP} {x1 x2 x3 x4 x5 x6 x7 : Option zV} {st : List zV} {M : zM} {a : Nat} : uX7_mixMember R 18 [some (.inr (.inr a)), x1, x2, x3, x4, x5, x6, x7] st M ↔ uX7_mixMember R 19 [some (.inr (.inr a)), x1, x2, x3, x4, x5, x6, x7] (.inr (.inr a) :: st) M := zU_step dX7_mixMember_18 (Or.inl rfl)
theorem dX7_mixMember_19 : decode cX7_mixMember 19 = .ok (.iload_n 3, 1) := by decide +kernel
theorem rX7_mixMember_19 {R : zP} {x0 x1 x2 x4 x5 x6 x7 : Option zV} {st : List zV} {M : zM} {a : Int} : uX7_mixMember R 19 [x0, x1, x2, some (.inl a), x4, x5, x6, x7] st M ↔ uX7_mixMember R 20 [x0, x1, x2, some (.inl a), x4, x5, x6, x7] (.inl a :: st) M := zU_step dX7_mixMember_19 (Or.inl rfl)
theorem dX7_mixMember_20 : decode cX7_mixMember 20 = .ok (.iload 6, 2) := by decide +kernel
theorem rX7_mixMember_20 {R : zP} {x0 x1 x2 x3 x4 x5 x7 : Option zV} {st : List zV} {M : zM} {a : Int} : uX7_mixMember R 20 [x0, x1, x2, x3, x4, x5, some (.inl a), x7] st M ↔ uX7_mixMember R 22 [x0, x1, x2, x3, x4, x5, some (.inl a), x7] (.inl a :: st) M := zU_step dX7_mixMember_20 (Or.inl rfl)
theorem dX7_mixMember_22 : decode cX7_mixMember 22 = .ok (.invokevirtual 407, 3) := by decide +kernel
theorem rX7_mixMember_22 {R : zP} {x0 x1 x2 x3 x4 x5 x6 x7 : Option zV} {st : List zV} {M : zM} {a0 a1 a2 : zV} : uX7_mixMember R 22 [x0, x1, x2, x3, x4, x5, x6, x7] (a2 :: a1 :: a0 :: st) M ↔ (st.length ≤ 4 ∧ zcv (zv 7 tX7_member) [a0, a1, a2] M (fun v M => uX7_mixMember R 25 [x0, x1, x2, x3, x4, x5, x6, x7] (v :: st) M)) := Iff.trans (zU_step dX7_mixMember_22 (Or.inl rfl)) ⟨fun h => ⟨h.2.1, zcv_of h.2.2⟩, fun h => ⟨rfl, h.1, zcv_to h.2⟩⟩
theorem dX7_mixMember_25 : decode cX7_mixMember 25 = .ok (.i2l, 1) := by decide +kernel
theorem rX7_mixMember_25 {R : zP} {x0 x1 x2 x3 x4 x5 x6 x7 : Option zV} {st : List zV} {M : zM} {a : Int} : uX7_mixMember R 25 [x0, x1, x2, x3, x4, x5, x6, x7] (.inl a :: st) M ↔ (zIR a ∧ uX7_mixMember R 26 [x0, x1, x2, x3, x4, x5, x6, x7] (.inr (.inl a) :: st) M) := zU_step dX7_mixMember_25 (Or.inl rfl)
theorem dX7_mixMember_26 : decode cX7_mixMember 26 = .ok (.ladd, 1) := by decide +kernel
theorem rX7_mixMember_26 {R : zP} {x0 x1 x2 x3 x4 x5 x6 x7 : Option zV} {st : List zV} {M : zM} {a b : Int} : uX7_mixMember R 26 [x0, x1, x2, x3, x4, x5, x6, x7] (.inr (.inl b) :: .inr (.inl a) :: st) M ↔ uX7_mixMember R 27 [x0, x1, x2, x3, x4, x5, x6, x7] (.inr (.inl (a + b)) :: st) M := zU_step dX7_mixMember_26 (Or.inl rfl)
theorem dX7_mixMember_27 : decode cX7_mixMember 27 = .ok (.lstore 4, 2) := by decide +kernel
theorem rX7_mixMember_27 {R : zP} {x0 x1 x2 x4 x5 x6 x7 : Option zV} {st : List zV} {M : zM} {a : Int} {y : Int} : uX7_mixMember R 27 [x0, x1, x2, some (.inl y), x4, x5, x6, x7] (.inr (.inl a) :: st) M ↔ uX7_mixMember R 29 [x0, x1, x2, some (.inl y), some (.inr (.inl a)), none, x6, x7] st M := Iff.trans (zU_step dX7_mixMember_27 (Or.inl rfl)) ⟨fun h => h.2, fun h => ⟨show 4 + 1 < 8 by decide, h⟩⟩
theorem rX7_mixMember_27z {R : zP} {x0 x1 x2 x3 x4 x5 x6 x7 : Option zV} {st : List zV} {M : zM} {a : Int} : uX7_mixMember R 27 [x0, x1, x2, x3, x4, x5, x6, x7] (.inr (.inl a) :: st) M ↔ uX7_mixMember R 29 [x0, x1, x2, zkeep x3, some (.inr (.inl a)), none, x6, x7] st M := Iff.trans (zU_step dX7_mixMember_27 (Or.inl rfl)) ⟨fun h => h.2, fun h => ⟨show 4 + 1 < 8 by decide, h⟩⟩
theorem dX7_mixMember_29 : decode cX7_mixMember 29 = .ok (.iinc 6 1, 3) := by decide +kernel
theorem rX7_mixMember_29 {R : zP} {x0 x1 x2 x3 x4 x7 : Option zV} {st : List zV} {M : zM} {a : Int} : uX7_mixMember R 29 [x0, x1, x2, x3, x4, none, some (.inl a), x7] st M ↔ uX7_mixMember R 32 [x0, x1, x2, x3, x4, none, some (.inl (a + (1))), x7] st M := Iff.trans (zU_step dX7_mixMember_29 (Or.inl rfl)) ⟨fun h => h.2, fun h => ⟨show 6 < 8 by decide, h⟩⟩
theorem rX7_mixMember_29z {R : zP} {x0 x1 x2 x3 x4 x5 x7 : Option zV} {st : List zV} {M : zM} {a : Int} : uX7_mixMember R 29 [x0, x1, x2, x3, x4, x5, some (.inl a), x7] st M ↔ uX7_mixMember R 32 [x0, x1, x2, x3, x4, zkeep x5, some (.inl (a + (1))), x7] st M := Iff.trans (zU_step dX7_mixMember_29 (Or.inl rfl)) ⟨fun h => h.2, fun h => ⟨show 6 < 8 by decide, h⟩⟩
theorem dX7_mixMember_32 : decode cX7_mixMember 32 = .ok (.goto (-26), 3) := by decide +kernel
theorem rX7_mixMember_32 {R : zP} {x0 x1 x2 x3 x4 x5 x6 x7 : Option zV} {st : List zV} {M : zM} : uX7_mixMember R 32 [x0, x1, x2, x3, x4, x5, x6, x7] st M ↔ uX7_mixMember R 6 [x0, x1, x2, x3, x4, x5, x6, x7] st M := Iff.trans (zU_step dX7_mixMember_32 (Or.inl rfl)) ⟨fun h => h.2, fun h => ⟨by decide, h⟩⟩
theorem dX7_mixMember_35 : decode cX7_mixMember 35 = .ok (.iconst 0, 1) := by decide +kernel
theorem rX7_mixMember_35 {R : zP} {x0 x1 x2 x3 x4 x5 x6 x7 : Option zV} {st : List zV} {M : zM} : uX7_mixMember R 35 [x0, x1, x2, x3, x4, x5, x6, x7] st M ↔ uX7_mixMember R 36 [x0, x1, x2, x3, x4, x5, x6, x7] (.inl (0) :: st) M := zU_step dX7_mixMember_35 (Or.inl rfl)
theorem dX7_mixMember_36 : decode cX7_mixMember 36 = .ok (.istore 6, 2) := by decide +kernel
theorem rX7_mixMember_36 {R : zP} {x0 x1 x2 x3 x4 x6 x7 : Option zV} {st : List zV} {M : zM} {a : Int} : uX7_mixMember R 36 [x0, x1, x2, x3, x4, none, x6, x7] (.inl a :: st) M ↔ uX7_mixMember R 38 [x0, x1, x2, x3, x4, none, some (.inl a), x7] st M := Iff.trans (zU_step dX7_mixMember_36 (Or.inl rfl)) ⟨fun h => h.2, fun h => ⟨show 6 < 8 by decide, h⟩⟩
theorem rX7_mixMember_36z {R : zP} {x0 x1 x2 x3 x4 x5 x6 x7 : Option zV} {st : List zV} {M : zM} {a : Int} : uX7_mixMember R 36 [x0, x1, x2, x3, x4, x5, x6, x7] (.inl a :: st) M ↔ uX7_mixMember R 38 [x0, x1, x2, x3, x4, zkeep x5, some (.inl a), x7] st M := Iff.trans (zU_step dX7_mixMember_36 (Or.inl rfl)) ⟨fun h => h.2, fun h => ⟨show 6 < 8 by decide, h⟩⟩
theorem dX7_mixMember_38 : decode cX7_mixMember 38 = .ok (.iload 6, 2) := by decide +kernel
theorem rX7_mixMember_38 {R : zP} {x0 x1 x2 x3 x4 x5 x7 : Option zV} {st : List zV} {M : zM} {a : Int} : uX7_mixMember R 38 [x0, x1, x2, x3, x4, x5, some (.inl a), x7] st M ↔ uX7_mixMember R 40 [x0, x1, x2, x3, x4, x5, some (.inl a), x7] (.inl a :: st) M := zU_step dX7_mixMember_38 (Or.inl rfl)
theorem dX7_mixMember_40 : decode cX7_mixMember 40 = .ok (.bipush 9, 2) := by decide +kernel
theorem rX7_mixMember_40 {R : zP} {x0 x1 x2 x3 x4 x5 x6 x7 : Option zV} {st : List zV} {M : zM} : uX7_mixMember R 40 [x0, x1, x2, x3, x4, x5, x6, x7] st M ↔ uX7_mixMember R 42 [x0, x1, x2, x3, x4, x5, x6, x7] (.inl (9) :: st) M := Iff.trans (zU_step dX7_mixMember_40 (Or.inl rfl)) ⟨fun h => h.2, fun h => ⟨by decide, h⟩⟩
theorem dX7_mixMember_42 : decode cX7_mixMember 42 = .ok (.if_icmp .ge 56, 3) := by decide +kernel
theorem rX7_mixMember_42 {R : zP} {x0 x1 x2 x3 x4 x5 x6 x7 : Option zV} {st : List zV} {M : zM} {a b : Int} : uX7_mixMember R 42 [x0, x1, x2, x3, x4, x5, x6, x7] (.inl b :: .inl a :: st) M ↔ ((zIR a ∧ zIR b) ∧ if b ≤ a then uX7_mixMember R 98 [x0, x1, x2, x3, x4, x5, x6, x7] st M else uX7_mixMember R 45 [x0, x1, x2, x3, x4, x5, x6, x7] st M) := Iff.trans (zU_step dX7_mixMember_42 (Or.inl rfl)) ⟨fun h => ⟨⟨h.1.1, h.1.2.1⟩, (zite (c := b ≤ a)).mpr h.2⟩, fun h => ⟨⟨h.1.1, h.1.2, by decide⟩, (zite (c := b ≤ a)).mp h.2⟩⟩
theorem dX7_mixMember_45 : decode cX7_mixMember 45 = .ok (.iload 6, 2) := by decide +kernel
theorem rX7_mixMember_45 {R : zP} {x0 x1 x2 x3 x4 x5 x7 : Option zV} {st : List zV} {M : zM} {a : Int} : uX7_mixMember R 45 [x0, x1, x2, x3, x4, x5, some (.inl a), x7] st M ↔ uX7_mixMember R 47 [x0, x1, x2, x3, x4, x5, some (.inl a), x7] (.inl a :: st) M := zU_step dX7_mixMember_45 (Or.inl rfl)
theorem dX7_mixMember_47 : decode cX7_mixMember 47 = .ok (.iconst 3, 1) := by decide +kernel
theorem rX7_mixMember_47 {R : zP} {x0 x1 x2 x3 x4 x5 x6 x7 : Option zV} {st : List zV} {M : zM} : uX7_mixMember R 47 [x0, x1, x2, x3, x4, x5, x6, x7] st M ↔ uX7_mixMember R 48 [x0, x1, x2, x3, x4, x5, x6, x7] (.inl (3) :: st) M := zU_step dX7_mixMember_47 (Or.inl rfl)
theorem dX7_mixMember_48 : decode cX7_mixMember 48 = .ok (.if_icmp .ge 7, 3) := by decide +kernel
theorem rX7_mixMember_48 {R : zP} {x0 x1 x2 x3 x4 x5 x6 x7 : Option zV} {st : List zV} {M : zM} {a b : Int} : uX7_mixMember R 48 [x0, x1, x2, x3, x4, x5, x6, x7] (.inl b :: .inl a :: st) M ↔ ((zIR a ∧ zIR b) ∧ if b ≤ a then uX7_mixMember R 55 [x0, x1, x2, x3, x4, x5, x6, x7] st M else uX7_mixMember R 51 [x0, x1, x2, x3, x4, x5, x6, x7] st M) := Iff.trans (zU_step dX7_mixMember_48 (Or.inl rfl)) ⟨fun h => ⟨⟨h.1.1, h.1.2.1⟩, (zite (c := b ≤ a)).mpr h.2⟩, fun h => ⟨⟨h.1.1, h.1.2, by decide⟩, (zite (c := b ≤ a)).mp h.2⟩⟩
theorem dX7_mixMember_51 : decode cX7_mixMember 51 = .ok (.iconst 0, 1) := by decide +kernel
theorem rX7_mixMember_51 {R : zP} {x0 x1 x2 x3 x4 x5 x6 x7 : Option zV} {st : List zV} {M : zM} : uX7_mixMember R 51 [x0, x1, x2, x3, x4, x5, x6, x7] st M ↔ uX7_mixMember R 52 [x0, x1, x2, x3, x4, x5, x6, x7] (.inl (0) :: st) M := zU_step dX7_mixMember_51 (Or.inl rfl)
theorem dX7_mixMember_52 : decode cX7_mixMember 52 = .ok (.goto 17, 3) := by decide +kernel
theorem rX7_mixMember_52 {R : zP} {x0 x1 x2 x3 x4 x5 x6 x7 : Option zV} {st : List zV} {M : zM} : uX7_mixMember R 52 [x0, x1, x2, x3, x4, x5, x6, x7] st M ↔ uX7_mixMember R 69 [x0, x1, x2, x3, x4, x5, x6, x7] st M := Iff.trans (zU_step dX7_mixMember_52 (Or.inl rfl)) ⟨fun h => h.2, fun h => ⟨by decide, h⟩⟩
theorem dX7_mixMember_55 : decode cX7_mixMember 55 = .ok (.iload 6, 2) := by decide +kernel
theorem rX7_mixMember_55 {R : zP} {x0 x1 x2 x3 x4 x5 x7 : Option zV} {st : List zV} {M : zM} {a : Int} : uX7_mixMember R 55 [x0, x1, x2, x3, x4, x5, some (.inl a), x7] st M ↔ uX7_mixMember R 57 [x0, x1, x2, x3, x4, x5, some (.inl a), x7] (.inl a :: st) M := zU_step dX7_mixMember_55 (Or.inl rfl)
theorem dX7_mixMember_57 : decode cX7_mixMember 57 = .ok (.bipush 6, 2) := by decide +kernel
theorem rX7_mixMember_57 {R : zP} {x0 x1 x2 x3 x4 x5 x6 x7 : Option zV} {st : List zV} {M : zM} : uX7_mixMember R 57 [x0, x1, x2, x3, x4, x5, x6, x7] st M ↔ uX7_mixMember R 59 [x0, x1, x2, x3, x4, x5, x6, x7] (.inl (6) :: st) M := Iff.trans (zU_step dX7_mixMember_57 (Or.inl rfl)) ⟨fun h => h.2, fun h => ⟨by decide, h⟩⟩
theorem dX7_mixMember_59 : decode cX7_mixMember 59 = .ok (.if_icmp .ge 8, 3) := by decide +kernel
theorem rX7_mixMember_59 {R : zP} {x0 x1 x2 x3 x4 x5 x6 x7 : Option zV} {st : List zV} {M : zM} {a b : Int} : uX7_mixMember R 59 [x0, x1, x2, x3, x4, x5, x6, x7] (.inl b :: .inl a :: st) M ↔ ((zIR a ∧ zIR b) ∧ if b ≤ a then uX7_mixMember R 67 [x0, x1, x2, x3, x4, x5, x6, x7] st M else uX7_mixMember R 62 [x0, x1, x2, x3, x4, x5, x6, x7] st M) := Iff.trans (zU_step dX7_mixMember_59 (Or.inl rfl)) ⟨fun h => ⟨⟨h.1.1, h.1.2.1⟩, (zite (c := b ≤ a)).mpr h.2⟩, fun h => ⟨⟨h.1.1, h.1.2, by decide⟩, (zite (c := b ≤ a)).mp h.2⟩⟩
theorem dX7_mixMember_62 : decode cX7_mixMember 62 = .ok (.bipush 6, 2) := by decide +kernel
theorem rX7_mixMember_62 {R : zP} {x0 x1 x2 x3 x4 x5 x6 x7 : Option zV} {st : List zV} {M : zM} : uX7_mixMember R 62 [x0, x1, x2, x3, x4, x5, x6, x7] st M ↔ uX7_mixMember R 64 [x0, x1, x2, x3, x4, x5, x6, x7] (.inl (6) :: st) M := Iff.trans (zU_step dX7_mixMember_62 (Or.inl rfl)) ⟨fun h => h.2, fun h => ⟨by decide, h⟩⟩
theorem dX7_mixMember_64 : decode cX7_mixMember 64 = .ok (.goto 5, 3) := by decide +kernel
theorem rX7_mixMember_64 {R : zP} {x0 x1 x2 x3 x4 x5 x6 x7 : Option zV} {st : List zV} {M : zM} : uX7_mixMember R 64 [x0, x1, x2, x3, x4, x5, x6, x7] st M ↔ uX7_mixMember R 69 [x0, x1, x2, x3, x4, x5, x6, x7] st M := Iff.trans (zU_step dX7_mixMember_64 (Or.inl rfl)) ⟨fun h => h.2, fun h => ⟨by decide, h⟩⟩
theorem dX7_mixMember_67 : decode cX7_mixMember 67 = .ok (.bipush 19, 2) := by decide +kernel
theorem rX7_mixMember_67 {R : zP} {x0 x1 x2 x3 x4 x5 x6 x7 : Option zV} {st : List zV} {M : zM} : uX7_mixMember R 67 [x0, x1, x2, x3, x4, x5, x6, x7] st M ↔ uX7_mixMember R 69 [x0, x1, x2, x3, x4, x5, x6, x7] (.inl (19) :: st) M := Iff.trans (zU_step dX7_mixMember_67 (Or.inl rfl)) ⟨fun h => h.2, fun h => ⟨by decide, h⟩⟩
theorem dX7_mixMember_69 : decode cX7_mixMember 69 = .ok (.istore 7, 2) := by decide +kernel
theorem rX7_mixMember_69 {R : zP} {x0 x1 x2 x3 x4 x5 x7 : Option zV} {st : List zV} {M : zM} {a : Int} {y : Int} : uX7_mixMember R 69 [x0, x1, x2, x3, x4, x5, some (.inl y), x7] (.inl a :: st) M ↔ uX7_mixMember R 71 [x0, x1, x2, x3, x4, x5, some (.inl y), some (.inl a)] st M := Iff.trans (zU_step dX7_mixMember_69 (Or.inl rfl)) ⟨fun h => h.2, fun h => ⟨show 7 < 8 by decide, h⟩⟩
theorem rX7_mixMember_69z {R : zP} {x0 x1 x2 x3 x4 x5 x6 x7 : Option zV} {st : List zV} {M : zM} {a : Int} : uX7_mixMember R 69 [x0, x1, x2, x3, x4, x5, x6, x7] (.inl a :: st) M ↔ uX7_mixMember R 71 [x0, x1, x2, x3, x4, x5, zkeep x6, some (.inl a)] st M := Iff.trans (zU_step dX7_mixMember_69 (Or.inl rfl)) ⟨fun h => h.2, fun h => ⟨show 7 < 8 by decide, h⟩⟩
theorem dX7_mixMember_71 : decode cX7_mixMember 71 = .ok (.ldc2_w 322, 3) := by decide +kernel
theorem rX7_mixMember_71 {R : zP} {x0 x1 x2 x3 x4 x5 x6 x7 : Option zV} {st : List zV} {M : zM} : uX7_mixMember R 71 [x0, x1, x2, x3, x4, x5, x6, x7] st M ↔ uX7_mixMember R 74 [x0, x1, x2, x3, x4, x5, x6, x7] (.inr (.inl (31)) :: st) M := zU_step dX7_mixMember_71 (Or.inl rfl)
theorem dX7_mixMember_74 : decode cX7_mixMember 74 = .ok (.lload 4, 2) := by decide +kernel
theorem rX7_mixMember_74 {R : zP} {x0 x1 x2 x3 x5 x6 x7 : Option zV} {st : List zV} {M : zM} {a : Int} : uX7_mixMember R 74 [x0, x1, x2, x3, some (.inr (.inl a)), x5, x6, x7] st M ↔ uX7_mixMember R 76 [x0, x1, x2, x3, some (.inr (.inl a)), x5, x6, x7] (.inr (.inl a) :: st) M := zU_step dX7_mixMember_74 (Or.inl rfl)
theorem dX7_mixMember_76 : decode cX7_mixMember 76 = .ok (.lmul, 1) := by decide +kernel
theorem rX7_mixMember_76 {R : zP} {x0 x1 x2 x3 x4 x5 x6 x7 : Option zV} {st : List zV} {M : zM} {a b : Int} : uX7_mixMember R 76 [x0, x1, x2, x3, x4, x5, x6, x7] (.inr (.inl b) :: .inr (.inl a) :: st) M ↔ uX7_mixMember R 77 [x0, x1, x2, x3, x4, x5, x6, x7] (.inr (.inl (a * b)) :: st) M := zU_step dX7_mixMember_76 (Or.inl rfl)
theorem dX7_mixMember_77 : decode cX7_mixMember 77 = .ok (.aload_n 0, 1) := by decide +kernel
theorem rX7_mixMember_77 {R : zP} {x1 x2 x3 x4 x5 x6 x7 : Option zV} {st : List zV} {M : zM} {a : Nat} : uX7_mixMember R 77 [some (.inr (.inr a)), x1, x2, x3, x4, x5, x6, x7] st M ↔ uX7_mixMember R 78 [some (.inr (.inr a)), x1, x2, x3, x4, x5, x6, x7] (.inr (.inr a) :: st) M := zU_step dX7_mixMember_77 (Or.inl rfl)
theorem dX7_mixMember_78 : decode cX7_mixMember 78 = .ok (.iload 7, 2) := by decide +kernel
theorem rX7_mixMember_78 {R : zP} {x0 x1 x2 x3 x4 x5 x6 : Option zV} {st : List zV} {M : zM} {a : Int} : uX7_mixMember R 78 [x0, x1, x2, x3, x4, x5, x6, some (.inl a)] st M ↔ uX7_mixMember R 80 [x0, x1, x2, x3, x4, x5, x6, some (.inl a)] (.inl a :: st) M := zU_step dX7_mixMember_78 (Or.inl rfl)
theorem dX7_mixMember_80 : decode cX7_mixMember 80 = .ok (.iload_n 3, 1) := by decide +kernel
theorem rX7_mixMember_80 {R : zP} {x0 x1 x2 x4 x5 x6 x7 : Option zV} {st : List zV} {M : zM} {a : Int} : uX7_mixMember R 80 [x0, x1, x2, some (.inl a), x4, x5, x6, x7] st M ↔ uX7_mixMember R 81 [x0, x1, x2, some (.inl a), x4, x5, x6, x7] (.inl a :: st) M := zU_step dX7_mixMember_80 (Or.inl rfl)
theorem dX7_mixMember_81 : decode cX7_mixMember 81 = .ok (.iload 6, 2) := by decide +kernel
theorem rX7_mixMember_81 {R : zP} {x0 x1 x2 x3 x4 x5 x7 : Option zV} {st : List zV} {M : zM} {a : Int} : uX7_mixMember R 81 [x0, x1, x2, x3, x4, x5, some (.inl a), x7] st M ↔ uX7_mixMember R 83 [x0, x1, x2, x3, x4, x5, some (.inl a), x7] (.inl a :: st) M := zU_step dX7_mixMember_81 (Or.inl rfl)
theorem dX7_mixMember_83 : decode cX7_mixMember 83 = .ok (.iconst 3, 1) := by decide +kernel
theorem rX7_mixMember_83 {R : zP} {x0 x1 x2 x3 x4 x5 x6 x7 : Option zV} {st : List zV} {M : zM} : uX7_mixMember R 83 [x0, x1, x2, x3, x4, x5, x6, x7] st M ↔ uX7_mixMember R 84 [x0, x1, x2, x3, x4, x5, x6, x7] (.inl (3) :: st) M := zU_step dX7_mixMember_83 (Or.inl rfl)
theorem dX7_mixMember_84 : decode cX7_mixMember 84 = .ok (.irem, 1) := by decide +kernel
theorem rX7_mixMember_84 {R : zP} {x0 x1 x2 x3 x4 x5 x6 x7 : Option zV} {st : List zV} {M : zM} {a b : Int} : uX7_mixMember R 84 [x0, x1, x2, x3, x4, x5, x6, x7] (.inl b :: .inl a :: st) M ↔ ((zIR a ∧ zIR b ∧ b ≠ 0) ∧ uX7_mixMember R 85 [x0, x1, x2, x3, x4, x5, x6, x7] (.inl (a.tmod b) :: st) M) := zU_step dX7_mixMember_84 (Or.inl rfl)
theorem dX7_mixMember_85 : decode cX7_mixMember 85 = .ok (.invokevirtual 410, 3) := by decide +kernel
theorem rX7_mixMember_85 {R : zP} {x0 x1 x2 x3 x4 x5 x6 x7 : Option zV} {st : List zV} {M : zM} {a0 a1 a2 a3 : zV} : uX7_mixMember R 85 [x0, x1, x2, x3, x4, x5, x6, x7] (a3 :: a2 :: a1 :: a0 :: st) M ↔ (st.length ≤ 4 ∧ zcv (zv 7 tX7_able) [a0, a1, a2, a3] M (fun v M => uX7_mixMember R 88 [x0, x1, x2, x3, x4, x5, x6, x7] (v :: st) M)) := Iff.trans (zU_step dX7_mixMember_85 (Or.inl rfl)) ⟨fun h => ⟨h.2.1, zcv_of h.2.2⟩, fun h => ⟨rfl, h.1, zcv_to h.2⟩⟩
theorem dX7_mixMember_88 : decode cX7_mixMember 88 = .ok (.i2l, 1) := by decide +kernel
theorem rX7_mixMember_88 {R : zP} {x0 x1 x2 x3 x4 x5 x6 x7 : Option zV} {st : List zV} {M : zM} {a : Int} : uX7_mixMember R 88 [x0, x1, x2, x3, x4, x5, x6, x7] (.inl a :: st) M ↔ (zIR a ∧ uX7_mixMember R 89 [x0, x1, x2, x3, x4, x5, x6, x7] (.inr (.inl a) :: st) M) := zU_step dX7_mixMember_88 (Or.inl rfl)
theorem dX7_mixMember_89 : decode cX7_mixMember 89 = .ok (.ladd, 1) := by decide +kernel
theorem rX7_mixMember_89 {R : zP} {x0 x1 x2 x3 x4 x5 x6 x7 : Option zV} {st : List zV} {M : zM} {a b : Int} : uX7_mixMember R 89 [x0, x1, x2, x3, x4, x5, x6, x7] (.inr (.inl b) :: .inr (.inl a) :: st) M ↔ uX7_mixMember R 90 [x0, x1, x2, x3, x4, x5, x6, x7] (.inr (.inl (a + b)) :: st) M := zU_step dX7_mixMember_89 (Or.inl rfl)
theorem dX7_mixMember_90 : decode cX7_mixMember 90 = .ok (.lstore 4, 2) := by decide +kernel
theorem rX7_mixMember_90 {R : zP} {x0 x1 x2 x4 x5 x6 x7 : Option zV} {st : List zV} {M : zM} {a : Int} {y : Int} : uX7_mixMember R 90 [x0, x1, x2, some (.inl y), x4, x5, x6, x7] (.inr (.inl a) :: st) M ↔ uX7_mixMember R 92 [x0, x1, x2, some (.inl y), some (.inr (.inl a)), none, x6, x7] st M := Iff.trans (zU_step dX7_mixMember_90 (Or.inl rfl)) ⟨fun h => h.2, fun h => ⟨show 4 + 1 < 8 by decide, h⟩⟩
theorem rX7_mixMember_90z {R : zP} {x0 x1 x2 x3 x4 x5 x6 x7 : Option zV} {st : List zV} {M : zM} {a : Int} : uX7_mixMember R 90 [x0, x1, x2, x3, x4, x5, x6, x7] (.inr (.inl a) :: st) M ↔ uX7_mixMember R 92 [x0, x1, x2, zkeep x3, some (.inr (.inl a)), none, x6, x7] st M := Iff.trans (zU_step dX7_mixMember_90 (Or.inl rfl)) ⟨fun h => h.2, fun h => ⟨show 4 + 1 < 8 by decide, h⟩⟩
theorem dX7_mixMember_92 : decode cX7_mixMember 92 = .ok (.iinc 6 1, 3) := by decide +kernel
theorem rX7_mixMember_92 {R : zP} {x0 x1 x2 x3 x4 x7 : Option zV} {st : List zV} {M : zM} {a : Int} : uX7_mixMember R 92 [x0, x1, x2, x3, x4, none, some (.inl a), x7] st M ↔ uX7_mixMember R 95 [x0, x1, x2, x3, x4, none, some (.inl (a + (1))), x7] st M := Iff.trans (zU_step dX7_mixMember_92 (Or.inl rfl)) ⟨fun h => h.2, fun h => ⟨show 6 < 8 by decide, h⟩⟩
theorem rX7_mixMember_92z {R : zP} {x0 x1 x2 x3 x4 x5 x7 : Option zV} {st : List zV} {M : zM} {a : Int} : uX7_mixMember R 92 [x0, x1, x2, x3, x4, x5, some (.inl a), x7] st M ↔ uX7_mixMember R 95 [x0, x1, x2, x3, x4, zkeep x5, some (.inl (a + (1))), x7] st M := Iff.trans (zU_step dX7_mixMember_92 (Or.inl rfl)) ⟨fun h => h.2, fun h => ⟨show 6 < 8 by decide, h⟩⟩
theorem dX7_mixMember_95 : decode cX7_mixMember 95 = .ok (.goto (-57), 3) := by decide +kernel
theorem rX7_mixMember_95 {R : zP} {x0 x1 x2 x3 x4 x5 x6 x7 : Option zV} {st : List zV} {M : zM} : uX7_mixMember R 95 [x0, x1, x2, x3, x4, x5, x6, x7] st M ↔ uX7_mixMember R 38 [x0, x1, x2, x3, x4, x5, x6, x7] st M := Iff.trans (zU_step dX7_mixMember_95 (Or.inl rfl)) ⟨fun h => h.2, fun h => ⟨by decide, h⟩⟩
theorem dX7_mixMember_98 : decode cX7_mixMember 98 = .ok (.iconst 0, 1) := by decide +kernel
theorem rX7_mixMember_98 {R : zP} {x0 x1 x2 x3 x4 x5 x6 x7 : Option zV} {st : List zV} {M : zM} : uX7_mixMember R 98 [x0, x1, x2, x3, x4, x5, x6, x7] st M ↔ uX7_mixMember R 99 [x0, x1, x2, x3, x4, x5, x6, x7] (.inl (0) :: st) M := zU_step dX7_mixMember_98 (Or.inl rfl)
theorem dX7_mixMember_99 : decode cX7_mixMember 99 = .ok (.istore 6, 2) := by decide +kernel
theorem rX7_mixMember_99 {R : zP} {x0 x1 x2 x3 x4 x6 x7 : Option zV} {st : List zV} {M : zM} {a : Int} : uX7_mixMember R 99 [x0, x1, x2, x3, x4, none, x6, x7] (.inl a :: st) M ↔ uX7_mixMember R 101 [x0, x1, x2, x3, x4, none, some (.inl a), x7] st M := Iff.trans (zU_step dX7_mixMember_99 (Or.inl rfl)) ⟨fun h => h.2, fun h => ⟨show 6 < 8 by decide, h⟩⟩
theorem rX7_mixMember_99z {R : zP} {x0 x1 x2 x3 x4 x5 x6 x7 : Option zV} {st : List zV} {M : zM} {a : Int} : uX7_mixMember R 99 [x0, x1, x2, x3, x4, x5, x6, x7] (.inl a :: st) M ↔ uX7_mixMember R 101 [x0, x1, x2, x3, x4, zkeep x5, some (.inl a), x7] st M := Iff.trans (zU_step dX7_mixMember_99 (Or.inl rfl)) ⟨fun h => h.2, fun h => ⟨show 6 < 8 by decide, h⟩⟩
theorem dX7_mixMember_101 : decode cX7_mixMember 101 = .ok (.iload 6, 2) := by decide +kernel
theorem rX7_mixMember_101 {R : zP} {x0 x1 x2 x3 x4 x5 x7 : Option zV} {st : List zV} {M : zM} {a : Int} : uX7_mixMember R 101 [x0, x1, x2, x3, x4, x5, some (.inl a), x7] st M ↔ uX7_mixMember R 103 [x0, x1, x2, x3, x4, x5, some (.inl a), x7] (.inl a :: st) M := zU_step dX7_mixMember_101 (Or.inl rfl)
theorem dX7_mixMember_103 : decode cX7_mixMember 103 = .ok (.iconst 4, 1) := by decide +kernel
theorem rX7_mixMember_103 {R : zP} {x0 x1 x2 x3 x4 x5 x6 x7 : Option zV} {st : List zV} {M : zM} : uX7_mixMember R 103 [x0, x1, x2, x3, x4, x5, x6, x7] st M ↔ uX7_mixMember R 104 [x0, x1, x2, x3, x4, x5, x6, x7] (.inl (4) :: st) M := zU_step dX7_mixMember_103 (Or.inl rfl)
theorem dX7_mixMember_104 : decode cX7_mixMember 104 = .ok (.if_icmp .ge 189, 3) := by decide +kernel
theorem rX7_mixMember_104 {R : zP} {x0 x1 x2 x3 x4 x5 x6 x7 : Option zV} {st : List zV} {M : zM} {a b : Int} : uX7_mixMember R 104 [x0, x1, x2, x3, x4, x5, x6, x7] (.inl b :: .inl a :: st) M ↔ ((zIR a ∧ zIR b) ∧ if b ≤ a then uX7_mixMember R 293 [x0, x1, x2, x3, x4, x5, x6, x7] st M else uX7_mixMember R 107 [x0, x1, x2, x3, x4, x5, x6, x7] st M) := Iff.trans (zU_step dX7_mixMember_104 (Or.inl rfl)) ⟨fun h => ⟨⟨h.1.1, h.1.2.1⟩, (zite (c := b ≤ a)).mpr h.2⟩, fun h => ⟨⟨h.1.1, h.1.2, by decide⟩, (zite (c := b ≤ a)).mp h.2⟩⟩
theorem dX7_mixMember_107 : decode cX7_mixMember 107 = .ok (.iconst 0, 1) := by decide +kernel
theorem rX7_mixMember_107 {R : zP} {x0 x1 x2 x3 x4 x5 x6 x7 : Option zV} {st : List zV} {M : zM} : uX7_mixMember R 107 [x0, x1, x2, x3, x4, x5, x6, x7] st M ↔ uX7_mixMember R 108 [x0, x1, x2, x3, x4, x5, x6, x7] (.inl (0) :: st) M := zU_step dX7_mixMember_107 (Or.inl rfl)
theorem dX7_mixMember_108 : decode cX7_mixMember 108 = .ok (.istore 7, 2) := by decide +kernel
theorem rX7_mixMember_108 {R : zP} {x0 x1 x2 x3 x4 x5 x7 : Option zV} {st : List zV} {M : zM} {a : Int} {y : Int} : uX7_mixMember R 108 [x0, x1, x2, x3, x4, x5, some (.inl y), x7] (.inl a :: st) M ↔ uX7_mixMember R 110 [x0, x1, x2, x3, x4, x5, some (.inl y), some (.inl a)] st M := Iff.trans (zU_step dX7_mixMember_108 (Or.inl rfl)) ⟨fun h => h.2, fun h => ⟨show 7 < 8 by decide, h⟩⟩
theorem rX7_mixMember_108z {R : zP} {x0 x1 x2 x3 x4 x5 x6 x7 : Option zV} {st : List zV} {M : zM} {a : Int} : uX7_mixMember R 108 [x0, x1, x2, x3, x4, x5, x6, x7] (.inl a :: st) M ↔ uX7_mixMember R 110 [x0, x1, x2, x3, x4, x5, zkeep x6, some (.inl a)] st M := Iff.trans (zU_step dX7_mixMember_108 (Or.inl rfl)) ⟨fun h => h.2, fun h => ⟨show 7 < 8 by decide, h⟩⟩
theorem dX7_mixMember_110 : decode cX7_mixMember 110 = .ok (.iload 7, 2) := by decide +kernel
theorem rX7_mixMember_110 {R : zP} {x0 x1 x2 x3 x4 x5 x6 : Option zV} {st : List zV} {M : zM} {a : Int} : uX7_mixMember R 110 [x0, x1, x2, x3, x4, x5, x6, some (.inl a)] st M ↔ uX7_mixMember R 112 [x0, x1, x2, x3, x4, x5, x6, some (.inl a)] (.inl a :: st) M := zU_step dX7_mixMember_110 (Or.inl rfl)
theorem dX7_mixMember_112 : decode cX7_mixMember 112 = .ok (.iconst 4, 1) := by decide +kernel
theorem rX7_mixMember_112 {R : zP} {x0 x1 x2 x3 x4 x5 x6 x7 : Option zV} {st : List zV} {M : zM} : uX7_mixMember R 112 [x0, x1, x2, x3, x4, x5, x6, x7] st M ↔ uX7_mixMember R 113 [x0, x1, x2, x3, x4, x5, x6, x7] (.inl (4) :: st) M := zU_step dX7_mixMember_112 (Or.inl rfl)
theorem dX7_mixMember_113 : decode cX7_mixMember 113 = .ok (.if_icmp .ge 30, 3) := by decide +kernel
theorem rX7_mixMember_113 {R : zP} {x0 x1 x2 x3 x4 x5 x6 x7 : Option zV} {st : List zV} {M : zM} {a b : Int} : uX7_mixMember R 113 [x0, x1, x2, x3, x4, x5, x6, x7] (.inl b :: .inl a :: st) M ↔ ((zIR a ∧ zIR b) ∧ if b ≤ a then uX7_mixMember R 143 [x0, x1, x2, x3, x4, x5, x6, x7] st M else uX7_mixMember R 116 [x0, x1, x2, x3, x4, x5, x6, x7] st M) := Iff.trans (zU_step dX7_mixMember_113 (Or.inl rfl)) ⟨fun h => ⟨⟨h.1.1, h.1.2.1⟩, (zite (c := b ≤ a)).mpr h.2⟩, fun h => ⟨⟨h.1.1, h.1.2, by decide⟩, (zite (c := b ≤ a)).mp h.2⟩⟩
theorem dX7_mixMember_116 : decode cX7_mixMember 116 = .ok (.ldc2_w 322, 3) := by decide +kernel
theorem rX7_mixMember_116 {R : zP} {x0 x1 x2 x3 x4 x5 x6 x7 : Option zV} {st : List zV} {M : zM} : uX7_mixMember R 116 [x0, x1, x2, x3, x4, x5, x6, x7] st M ↔ uX7_mixMember R 119 [x0, x1, x2, x3, x4, x5, x6, x7] (.inr (.inl (31)) :: st) M := zU_step dX7_mixMember_116 (Or.inl rfl)
theorem dX7_mixMember_119 : decode cX7_mixMember 119 = .ok (.lload 4, 2) := by decide +kernel
theorem rX7_mixMember_119 {R : zP} {x0 x1 x2 x3 x5 x6 x7 : Option zV} {st : List zV} {M : zM} {a : Int} : uX7_mixMember R 119 [x0, x1, x2, x3, some (.inr (.inl a)), x5, x6, x7] st M ↔ uX7_mixMember R 121 [x0, x1, x2, x3, some (.inr (.inl a)), x5, x6, x7] (.inr (.inl a) :: st) M := zU_step dX7_mixMember_119 (Or.inl rfl)
theorem dX7_mixMember_121 : decode cX7_mixMember 121 = .ok (.lmul, 1) := by decide +kernel
theorem rX7_mixMember_121 {R : zP} {x0 x1 x2 x3 x4 x5 x6 x7 : Option zV} {st : List zV} {M : zM} {a b : Int} : uX7_mixMember R 121 [x0, x1, x2, x3, x4, x5, x6, x7] (.inr (.inl b) :: .inr (.inl a) :: st) M ↔ uX7_mixMember R 122 [x0, x1, x2, x3, x4, x5, x6, x7] (.inr (.inl (a * b)) :: st) M := zU_step dX7_mixMember_121 (Or.inl rfl)
theorem dX7_mixMember_122 : decode cX7_mixMember 122 = .ok (.aload_n 0, 1) := by decide +kernel
theorem rX7_mixMember_122 {R : zP} {x1 x2 x3 x4 x5 x6 x7 : Option zV} {st : List zV} {M : zM} {a : Nat} : uX7_mixMember R 122 [some (.inr (.inr a)), x1, x2, x3, x4, x5, x6, x7] st M ↔ uX7_mixMember R 123 [some (.inr (.inr a)), x1, x2, x3, x4, x5, x6, x7] (.inr (.inr a) :: st) M := zU_step dX7_mixMember_122 (Or.inl rfl)
theorem dX7_mixMember_123 : decode cX7_mixMember 123 = .ok (.bipush 6, 2) := by decide +kernel
theorem rX7_mixMember_123 {R : zP} {x0 x1 x2 x3 x4 x5 x6 x7 : Option zV} {st : List zV} {M : zM} : uX7_mixMember R 123 [x0, x1, x2, x3, x4, x5, x6, x7] st M ↔ uX7_mixMember R 125 [x0, x1, x2, x3, x4, x5, x6, x7] (.inl (6) :: st) M := Iff.trans (zU_step dX7_mixMember_123 (Or.inl rfl)) ⟨fun h => h.2, fun h => ⟨by decide, h⟩⟩
theorem dX7_mixMember_125 : decode cX7_mixMember 125 = .ok (.iload_n 3, 1) := by decide +kernel
theorem rX7_mixMember_125 {R : zP} {x0 x1 x2 x4 x5 x6 x7 : Option zV} {st : List zV} {M : zM} {a : Int} : uX7_mixMember R 125 [x0, x1, x2, some (.inl a), x4, x5, x6, x7] st M ↔ uX7_mixMember R 126 [x0, x1, x2, some (.inl a), x4, x5, x6, x7] (.inl a :: st) M := zU_step dX7_mixMember_125 (Or.inl rfl)
theorem dX7_mixMember_126 : decode cX7_mixMember 126 = .ok (.iload 6, 2) := by decide +kernel
theorem rX7_mixMember_126 {R : zP} {x0 x1 x2 x3 x4 x5 x7 : Option zV} {st : List zV} {M : zM} {a : Int} : uX7_mixMember R 126 [x0, x1, x2, x3, x4, x5, some (.inl a), x7] st M ↔ uX7_mixMember R 128 [x0, x1, x2, x3, x4, x5, some (.inl a), x7] (.inl a :: st) M := zU_step dX7_mixMember_126 (Or.inl rfl)
theorem dX7_mixMember_128 : decode cX7_mixMember 128 = .ok (.iload 7, 2) := by decide +kernel
theorem rX7_mixMember_128 {R : zP} {x0 x1 x2 x3 x4 x5 x6 : Option zV} {st : List zV} {M : zM} {a : Int} : uX7_mixMember R 128 [x0, x1, x2, x3, x4, x5, x6, some (.inl a)] st M ↔ uX7_mixMember R 130 [x0, x1, x2, x3, x4, x5, x6, some (.inl a)] (.inl a :: st) M := zU_step dX7_mixMember_128 (Or.inl rfl)
theorem dX7_mixMember_130 : decode cX7_mixMember 130 = .ok (.invokevirtual 413, 3) := by decide +kernel
theorem rX7_mixMember_130 {R : zP} {x0 x1 x2 x3 x4 x5 x6 x7 : Option zV} {st : List zV} {M : zM} {a0 a1 a2 a3 a4 : zV} : uX7_mixMember R 130 [x0, x1, x2, x3, x4, x5, x6, x7] (a4 :: a3 :: a2 :: a1 :: a0 :: st) M ↔ (st.length ≤ 4 ∧ zcv (zv 7 tX7_at) [a0, a1, a2, a3, a4] M (fun v M => uX7_mixMember R 133 [x0, x1, x2, x3, x4, x5, x6, x7] (v :: st) M)) := Iff.trans (zU_step dX7_mixMember_130 (Or.inl rfl)) ⟨fun h => ⟨h.2.1, zcv_of h.2.2⟩, fun h => ⟨rfl, h.1, zcv_to h.2⟩⟩
theorem dX7_mixMember_133 : decode cX7_mixMember 133 = .ok (.i2l, 1) := by decide +kernel
theorem rX7_mixMember_133 {R : zP} {x0 x1 x2 x3 x4 x5 x6 x7 : Option zV} {st : List zV} {M : zM} {a : Int} : uX7_mixMember R 133 [x0, x1, x2, x3, x4, x5, x6, x7] (.inl a :: st) M ↔ (zIR a ∧ uX7_mixMember R 134 [x0, x1, x2, x3, x4, x5, x6, x7] (.inr (.inl a) :: st) M) := zU_step dX7_mixMember_133 (Or.inl rfl)
theorem dX7_mixMember_134 : decode cX7_mixMember 134 = .ok (.ladd, 1) := by decide +kernel
theorem rX7_mixMember_134 {R : zP} {x0 x1 x2 x3 x4 x5 x6 x7 : Option zV} {st : List zV} {M : zM} {a b : Int} : uX7_mixMember R 134 [x0, x1, x2, x3, x4, x5, x6, x7] (.inr (.inl b) :: .inr (.inl a) :: st) M ↔ uX7_mixMember R 135 [x0, x1, x2, x3, x4, x5, x6, x7] (.inr (.inl (a + b)) :: st) M := zU_step dX7_mixMember_134 (Or.inl rfl)
theorem dX7_mixMember_135 : decode cX7_mixMember 135 = .ok (.lstore 4, 2) := by decide +kernel
theorem rX7_mixMember_135 {R : zP} {x0 x1 x2 x4 x5 x6 x7 : Option zV} {st : List zV} {M : zM} {a : Int} {y : Int} : uX7_mixMember R 135 [x0, x1, x2, some (.inl y), x4, x5, x6, x7] (.inr (.inl a) :: st) M ↔ uX7_mixMember R 137 [x0, x1, x2, some (.inl y), some (.inr (.inl a)), none, x6, x7] st M := Iff.trans (zU_step dX7_mixMember_135 (Or.inl rfl)) ⟨fun h => h.2, fun h => ⟨show 4 + 1 < 8 by decide, h⟩⟩
theorem rX7_mixMember_135z {R : zP} {x0 x1 x2 x3 x4 x5 x6 x7 : Option zV} {st : List zV} {M : zM} {a : Int} : uX7_mixMember R 135 [x0, x1, x2, x3, x4, x5, x6, x7] (.inr (.inl a) :: st) M ↔ uX7_mixMember R 137 [x0, x1, x2, zkeep x3, some (.inr (.inl a)), none, x6, x7] st M := Iff.trans (zU_step dX7_mixMember_135 (Or.inl rfl)) ⟨fun h => h.2, fun h => ⟨show 4 + 1 < 8 by decide, h⟩⟩
theorem dX7_mixMember_137 : decode cX7_mixMember 137 = .ok (.iinc 7 1, 3) := by decide +kernel
theorem rX7_mixMember_137 {R : zP} {x0 x1 x2 x3 x4 x5 : Option zV} {st : List zV} {M : zM} {a : Int} {y : Int} : uX7_mixMember R 137 [x0, x1, x2, x3, x4, x5, some (.inl y), some (.inl a)] st M ↔ uX7_mixMember R 140 [x0, x1, x2, x3, x4, x5, some (.inl y), some (.inl (a + (1)))] st M := Iff.trans (zU_step dX7_mixMember_137 (Or.inl rfl)) ⟨fun h => h.2, fun h => ⟨show 7 < 8 by decide, h⟩⟩
theorem rX7_mixMember_137z {R : zP} {x0 x1 x2 x3 x4 x5 x6 : Option zV} {st : List zV} {M : zM} {a : Int} : uX7_mixMember R 137 [x0, x1, x2, x3, x4, x5, x6, some (.inl a)] st M ↔ uX7_mixMember R 140 [x0, x1, x2, x3, x4, x5, zkeep x6, some (.inl (a + (1)))] st M := Iff.trans (zU_step dX7_mixMember_137 (Or.inl rfl)) ⟨fun h => h.2, fun h => ⟨show 7 < 8 by decide, h⟩⟩
theorem dX7_mixMember_140 : decode cX7_mixMember 140 = .ok (.goto (-30), 3) := by decide +kernel
theorem rX7_mixMember_140 {R : zP} {x0 x1 x2 x3 x4 x5 x6 x7 : Option zV} {st : List zV} {M : zM} : uX7_mixMember R 140 [x0, x1, x2, x3, x4, x5, x6, x7] st M ↔ uX7_mixMember R 110 [x0, x1, x2, x3, x4, x5, x6, x7] st M := Iff.trans (zU_step dX7_mixMember_140 (Or.inl rfl)) ⟨fun h => h.2, fun h => ⟨by decide, h⟩⟩
theorem dX7_mixMember_143 : decode cX7_mixMember 143 = .ok (.iconst 0, 1) := by decide +kernel
theorem rX7_mixMember_143 {R : zP} {x0 x1 x2 x3 x4 x5 x6 x7 : Option zV} {st : List zV} {M : zM} : uX7_mixMember R 143 [x0, x1, x2, x3, x4, x5, x6, x7] st M ↔ uX7_mixMember R 144 [x0, x1, x2, x3, x4, x5, x6, x7] (.inl (0) :: st) M := zU_step dX7_mixMember_143 (Or.inl rfl)
theorem dX7_mixMember_144 : decode cX7_mixMember 144 = .ok (.istore 7, 2) := by decide +kernel
theorem rX7_mixMember_144 {R : zP} {x0 x1 x2 x3 x4 x5 x7 : Option zV} {st : List zV} {M : zM} {a : Int} {y : Int} : uX7_mixMember R 144 [x0, x1, x2, x3, x4, x5, some (.inl y), x7] (.inl a :: st) M ↔ uX7_mixMember R 146 [x0, x1, x2, x3, x4, x5, some (.inl y), some (.inl a)] st M := Iff.trans (zU_step dX7_mixMember_144 (Or.inl rfl)) ⟨fun h => h.2, fun h => ⟨show 7 < 8 by decide, h⟩⟩
theorem rX7_mixMember_144z {R : zP} {x0 x1 x2 x3 x4 x5 x6 x7 : Option zV} {st : List zV} {M : zM} {a : Int} : uX7_mixMember R 144 [x0, x1, x2, x3, x4, x5, x6, x7] (.inl a :: st) M ↔ uX7_mixMember R 146 [x0, x1, x2, x3, x4, x5, zkeep x6, some (.inl a)] st M := Iff.trans (zU_step dX7_mixMember_144 (Or.inl rfl)) ⟨fun h => h.2, fun h => ⟨show 7 < 8 by decide, h⟩⟩
theorem dX7_mixMember_146 : decode cX7_mixMember 146 = .ok (.iload 7, 2) := by decide +kernel
theorem rX7_mixMember_146 {R : zP} {x0 x1 x2 x3 x4 x5 x6 : Option zV} {st : List zV} {M : zM} {a : Int} : uX7_mixMember R 146 [x0, x1, x2, x3, x4, x5, x6, some (.inl a)] st M ↔ uX7_mixMember R 148 [x0, x1, x2, x3, x4, x5, x6, some (.inl a)] (.inl a :: st) M := zU_step dX7_mixMember_146 (Or.inl rfl)
theorem dX7_mixMember_148 : decode cX7_mixMember 148 = .ok (.iconst 4, 1) := by decide +kernel
theorem rX7_mixMember_148 {R : zP} {x0 x1 x2 x3 x4 x5 x6 x7 : Option zV} {st : List zV} {M : zM} : uX7_mixMember R 148 [x0, x1, x2, x3, x4, x5, x6, x7] st M ↔ uX7_mixMember R 149 [x0, x1, x2, x3, x4, x5, x6, x7] (.inl (4) :: st) M := zU_step dX7_mixMember_148 (Or.inl rfl)
theorem dX7_mixMember_149 : decode cX7_mixMember 149 = .ok (.if_icmp .ge 30, 3) := by decide +kernel
theorem rX7_mixMember_149 {R : zP} {x0 x1 x2 x3 x4 x5 x6 x7 : Option zV} {st : List zV} {M : zM} {a b : Int} : uX7_mixMember R 149 [x0, x1, x2, x3, x4, x5, x6, x7] (.inl b :: .inl a :: st) M ↔ ((zIR a ∧ zIR b) ∧ if b ≤ a then uX7_mixMember R 179 [x0, x1, x2, x3, x4, x5, x6, x7] st M else uX7_mixMember R 152 [x0, x1, x2, x3, x4, x5, x6, x7] st M) := Iff.trans (zU_step dX7_mixMember_149 (Or.inl rfl)) ⟨fun h => ⟨⟨h.1.1, h.1.2.1⟩, (zite (c := b ≤ a)).mpr h.2⟩, fun h => ⟨⟨h.1.1, h.1.2, by decide⟩, (zite (c := b ≤ a)).mp h.2⟩⟩
theorem dX7_mixMember_152 : decode cX7_mixMember 152 = .ok (.ldc2_w 322, 3) := by decide +kernel
theorem rX7_mixMember_152 {R : zP} {x0 x1 x2 x3 x4 x5 x6 x7 : Option zV} {st : List zV} {M : zM} : uX7_mixMember R 152 [x0, x1, x2, x3, x4, x5, x6, x7] st M ↔ uX7_mixMember R 155 [x0, x1, x2, x3, x4, x5, x6, x7] (.inr (.inl (31)) :: st) M := zU_step dX7_mixMember_152 (Or.inl rfl)
theorem dX7_mixMember_155 : decode cX7_mixMember 155 = .ok (.lload 4, 2) := by decide +kernel
theorem rX7_mixMember_155 {R : zP} {x0 x1 x2 x3 x5 x6 x7 : Option zV} {st : List zV} {M : zM} {a : Int} : uX7_mixMember R 155 [x0, x1, x2, x3, some (.inr (.inl a)), x5, x6, x7] st M ↔ uX7_mixMember R 157 [x0, x1, x2, x3, some (.inr (.inl a)), x5, x6, x7] (.inr (.inl a) :: st) M := zU_step dX7_mixMember_155 (Or.inl rfl)
theorem dX7_mixMember_157 : decode cX7_mixMember 157 = .ok (.lmul, 1) := by decide +kernel
theorem rX7_mixMember_157 {R : zP} {x0 x1 x2 x3 x4 x5 x6 x7 : Option zV} {st : List zV} {M : zM} {a b : Int} : uX7_mixMember R 157 [x0, x1, x2, x3, x4, x5, x6, x7] (.inr (.inl b) :: .inr (.inl a) :: st) M ↔ uX7_mixMember R 158 [x0, x1, x2, x3, x4, x5, x6, x7] (.inr (.inl (a * b)) :: st) M := zU_step dX7_mixMember_157 (Or.inl rfl)
theorem dX7_mixMember_158 : decode cX7_mixMember 158 = .ok (.aload_n 0, 1) := by decide +kernel
theorem rX7_mixMember_158 {R : zP} {x1 x2 x3 x4 x5 x6 x7 : Option zV} {st : List zV} {M : zM} {a : Nat} : uX7_mixMember R 158 [some (.inr (.inr a)), x1, x2, x3, x4, x5, x6, x7] st M ↔ uX7_mixMember R 159 [some (.inr (.inr a)), x1, x2, x3, x4, x5, x6, x7] (.inr (.inr a) :: st) M := zU_step dX7_mixMember_158 (Or.inl rfl)
theorem dX7_mixMember_159 : decode cX7_mixMember 159 = .ok (.bipush 19, 2) := by decide +kernel
theorem rX7_mixMember_159 {R : zP} {x0 x1 x2 x3 x4 x5 x6 x7 : Option zV} {st : List zV} {M : zM} : uX7_mixMember R 159 [x0, x1, x2, x3, x4, x5, x6, x7] st M ↔ uX7_mixMember R 161 [x0, x1, x2, x3, x4, x5, x6, x7] (.inl (19) :: st) M := Iff.trans (zU_step dX7_mixMember_159 (Or.inl rfl)) ⟨fun h => h.2, fun h => ⟨by decide, h⟩⟩
theorem dX7_mixMember_161 : decode cX7_mixMember 161 = .ok (.iload_n 3, 1) := by decide +kernel
theorem rX7_mixMember_161 {R : zP} {x0 x1 x2 x4 x5 x6 x7 : Option zV} {st : List zV} {M : zM} {a : Int} : uX7_mixMember R 161 [x0, x1, x2, some (.inl a), x4, x5, x6, x7] st M ↔ uX7_mixMember R 162 [x0, x1, x2, some (.inl a), x4, x5, x6, x7] (.inl a :: st) M := zU_step dX7_mixMember_161 (Or.inl rfl)
theorem dX7_mixMember_162 : decode cX7_mixMember 162 = .ok (.iload 6, 2) := by decide +kernel
theorem rX7_mixMember_162 {R : zP} {x0 x1 x2 x3 x4 x5 x7 : Option zV} {st : List zV} {M : zM} {a : Int} : uX7_mixMember R 162 [x0, x1, x2, x3, x4, x5, some (.inl a), x7] st M ↔ uX7_mixMember R 164 [x0, x1, x2, x3, x4, x5, some (.inl a), x7] (.inl a :: st) M := zU_step dX7_mixMember_162 (Or.inl rfl)
theorem dX7_mixMember_164 : decode cX7_mixMember 164 = .ok (.iload 7, 2) := by decide +kernel
theorem rX7_mixMember_164 {R : zP} {x0 x1 x2 x3 x4 x5 x6 : Option zV} {st : List zV} {M : zM} {a : Int} : uX7_mixMember R 164 [x0, x1, x2, x3, x4, x5, x6, some (.inl a)] st M ↔ uX7_mixMember R 166 [x0, x1, x2, x3, x4, x5, x6, some (.inl a)] (.inl a :: st) M := zU_step dX7_mixMember_164 (Or.inl rfl)
theorem dX7_mixMember_166 : decode cX7_mixMember 166 = .ok (.invokevirtual 413, 3) := by decide +kernel
theorem rX7_mixMember_166 {R : zP} {x0 x1 x2 x3 x4 x5 x6 x7 : Option zV} {st : List zV} {M : zM} {a0 a1 a2 a3 a4 : zV} : uX7_mixMember R 166 [x0, x1, x2, x3, x4, x5, x6, x7] (a4 :: a3 :: a2 :: a1 :: a0 :: st) M ↔ (st.length ≤ 4 ∧ zcv (zv 7 tX7_at) [a0, a1, a2, a3, a4] M (fun v M => uX7_mixMember R 169 [x0, x1, x2, x3, x4, x5, x6, x7] (v :: st) M)) := Iff.trans (zU_step dX7_mixMember_166 (Or.inl rfl)) ⟨fun h => ⟨h.2.1, zcv_of h.2.2⟩, fun h => ⟨rfl, h.1, zcv_to h.2⟩⟩
theorem dX7_mixMember_169 : decode cX7_mixMember 169 = .ok (.i2l, 1) := by decide +kernel
theorem rX7_mixMember_169 {R : zP} {x0 x1 x2 x3 x4 x5 x6 x7 : Option zV} {st : List zV} {M : zM} {a : Int} : uX7_mixMember R 169 [x0, x1, x2, x3, x4, x5, x6, x7] (.inl a :: st) M ↔ (zIR a ∧ uX7_mixMember R 170 [x0, x1, x2, x3, x4, x5, x6, x7] (.inr (.inl a) :: st) M) := zU_step dX7_mixMember_169 (Or.inl rfl)
theorem dX7_mixMember_170 : decode cX7_mixMember 170 = .ok (.ladd, 1) := by decide +kernel
theorem rX7_mixMember_170 {R : zP} {x0 x1 x2 x3 x4 x5 x6 x7 : Option zV} {st : List zV} {M : zM} {a b : Int} : uX7_mixMember R 170 [x0, x1, x2, x3, x4, x5, x6, x7] (.inr (.inl b) :: .inr (.inl a) :: st) M ↔ uX7_mixMember R 171 [x0, x1, x2, x3, x4, x5, x6, x7] (.inr (.inl (a + b)) :: st) M := zU_step dX7_mixMember_170 (Or.inl rfl)
theorem dX7_mixMember_171 : decode cX7_mixMember 171 = .ok (.lstore 4, 2) := by decide +kernel
theorem rX7_mixMember_171 {R : zP} {x0 x1 x2 x4 x5 x6 x7 : Option zV} {st : List zV} {M : zM} {a : Int} {y : Int} : uX7_mixMember R 171 [x0, x1, x2, some (.inl y), x4, x5, x6, x7] (.inr (.inl a) :: st) M ↔ uX7_mixMember R 173 [x0, x1, x2, some (.inl y), some (.inr (.inl a)), none, x6, x7] st M := Iff.trans (zU_step dX7_mixMember_171 (Or.inl rfl)) ⟨fun h => h.2, fun h => ⟨show 4 + 1 < 8 by decide, h⟩⟩
theorem rX7_mixMember_171z {R : zP} {x0 x1 x2 x3 x4 x5 x6 x7 : Option zV} {st : List zV} {M : zM} {a : Int} : uX7_mixMember R 171 [x0, x1, x2, x3, x4, x5, x6, x7] (.inr (.inl a) :: st) M ↔ uX7_mixMember R 173 [x0, x1, x2, zkeep x3, some (.inr (.inl a)), none, x6, x7] st M := Iff.trans (zU_step dX7_mixMember_171 (Or.inl rfl)) ⟨fun h => h.2, fun h => ⟨show 4 + 1 < 8 by decide, h⟩⟩
theorem dX7_mixMember_173 : decode cX7_mixMember 173 = .ok (.iinc 7 1, 3) := by decide +kernel
theorem rX7_mixMember_173 {R : zP} {x0 x1 x2 x3 x4 x5 : Option zV} {st : List zV} {M : zM} {a : Int} {y : Int} : uX7_mixMember R 173 [x0, x1, x2, x3, x4, x5, some (.inl y), some (.inl a)] st M ↔ uX7_mixMember R 176 [x0, x1, x2, x3, x4, x5, some (.inl y), some (.inl (a + (1)))] st M := Iff.trans (zU_step dX7_mixMember_173 (Or.inl rfl)) ⟨fun h => h.2, fun h => ⟨show 7 < 8 by decide, h⟩⟩
theorem rX7_mixMember_173z {R : zP} {x0 x1 x2 x3 x4 x5 x6 : Option zV} {st : List zV} {M : zM} {a : Int} : uX7_mixMember R 173 [x0, x1, x2, x3, x4, x5, x6, some (.inl a)] st M ↔ uX7_mixMember R 176 [x0, x1, x2, x3, x4, x5, zkeep x6, some (.inl (a + (1)))] st M := Iff.trans (zU_step dX7_mixMember_173 (Or.inl rfl)) ⟨fun h => h.2, fun h => ⟨show 7 < 8 by decide, h⟩⟩
theorem dX7_mixMember_176 : decode cX7_mixMember 176 = .ok (.goto (-30), 3) := by decide +kernel
theorem rX7_mixMember_176 {R : zP} {x0 x1 x2 x3 x4 x5 x6 x7 : Option zV} {st : List zV} {M : zM} : uX7_mixMember R 176 [x0, x1, x2, x3, x4, x5, x6, x7] st M ↔ uX7_mixMember R 146 [x0, x1, x2, x3, x4, x5, x6, x7] st M := Iff.trans (zU_step dX7_mixMember_176 (Or.inl rfl)) ⟨fun h => h.2, fun h => ⟨by decide, h⟩⟩
theorem dX7_mixMember_179 : decode cX7_mixMember 179 = .ok (.ldc2_w 322, 3) := by decide +kernel
theorem rX7_mixMember_179 {R : zP} {x0 x1 x2 x3 x4 x5 x6 x7 : Option zV} {st : List zV} {M : zM} : uX7_mixMember R 179 [x0, x1, x2, x3, x4, x5, x6, x7] st M ↔ uX7_mixMember R 182 [x0, x1, x2, x3, x4, x5, x6, x7] (.inr (.inl (31)) :: st) M := zU_step dX7_mixMember_179 (Or.inl rfl)
theorem dX7_mixMember_182 : decode cX7_mixMember 182 = .ok (.lload 4, 2) := by decide +kernel
theorem rX7_mixMember_182 {R : zP} {x0 x1 x2 x3 x5 x6 x7 : Option zV} {st : List zV} {M : zM} {a : Int} : uX7_mixMember R 182 [x0, x1, x2, x3, some (.inr (.inl a)), x5, x6, x7] st M ↔ uX7_mixMember R 184 [x0, x1, x2, x3, some (.inr (.inl a)), x5, x6, x7] (.inr (.inl a) :: st) M := zU_step dX7_mixMember_182 (Or.inl rfl)
theorem dX7_mixMember_184 : decode cX7_mixMember 184 = .ok (.lmul, 1) := by decide +kernel
theorem rX7_mixMember_184 {R : zP} {x0 x1 x2 x3 x4 x5 x6 x7 : Option zV} {st : List zV} {M : zM} {a b : Int} : uX7_mixMember R 184 [x0, x1, x2, x3, x4, x5, x6, x7] (.inr (.inl b) :: .inr (.inl a) :: st) M ↔ uX7_mixMember R 185 [x0, x1, x2, x3, x4, x5, x6, x7] (.inr (.inl (a * b)) :: st) M := zU_step dX7_mixMember_184 (Or.inl rfl)
theorem dX7_mixMember_185 : decode cX7_mixMember 185 = .ok (.aload_n 0, 1) := by decide +kernel
theorem rX7_mixMember_185 {R : zP} {x1 x2 x3 x4 x5 x6 x7 : Option zV} {st : List zV} {M : zM} {a : Nat} : uX7_mixMember R 185 [some (.inr (.inr a)), x1, x2, x3, x4, x5, x6, x7] st M ↔ uX7_mixMember R 186 [some (.inr (.inr a)), x1, x2, x3, x4, x5, x6, x7] (.inr (.inr a) :: st) M := zU_step dX7_mixMember_185 (Or.inl rfl)
theorem dX7_mixMember_186 : decode cX7_mixMember 186 = .ok (.iload_n 3, 1) := by decide +kernel
theorem rX7_mixMember_186 {R : zP} {x0 x1 x2 x4 x5 x6 x7 : Option zV} {st : List zV} {M : zM} {a : Int} : uX7_mixMember R 186 [x0, x1, x2, some (.inl a), x4, x5, x6, x7] st M ↔ uX7_mixMember R 187 [x0, x1, x2, some (.inl a), x4, x5, x6, x7] (.inl a :: st) M := zU_step dX7_mixMember_186 (Or.inl rfl)
theorem dX7_mixMember_187 : decode cX7_mixMember 187 = .ok (.iload 6, 2) := by decide +kernel
theorem rX7_mixMember_187 {R : zP} {x0 x1 x2 x3 x4 x5 x7 : Option zV} {st : List zV} {M : zM} {a : Int} : uX7_mixMember R 187 [x0, x1, x2, x3, x4, x5, some (.inl a), x7] st M ↔ uX7_mixMember R 189 [x0, x1, x2, x3, x4, x5, some (.inl a), x7] (.inl a :: st) M := zU_step dX7_mixMember_187 (Or.inl rfl)
theorem dX7_mixMember_189 : decode cX7_mixMember 189 = .ok (.iconst 0, 1) := by decide +kernel
theorem rX7_mixMember_189 {R : zP} {x0 x1 x2 x3 x4 x5 x6 x7 : Option zV} {st : List zV} {M : zM} : uX7_mixMember R 189 [x0, x1, x2, x3, x4, x5, x6, x7] st M ↔ uX7_mixMember R 190 [x0, x1, x2, x3, x4, x5, x6, x7] (.inl (0) :: st) M := zU_step dX7_mixMember_189 (Or.inl rfl)
theorem dX7_mixMember_190 : decode cX7_mixMember 190 = .ok (.invokevirtual 416, 3) := by decide +kernel
theorem rX7_mixMember_190 {R : zP} {x0 x1 x2 x3 x4 x5 x6 x7 : Option zV} {st : List zV} {M : zM} {a0 a1 a2 a3 : zV} : uX7_mixMember R 190 [x0, x1, x2, x3, x4, x5, x6, x7] (a3 :: a2 :: a1 :: a0 :: st) M ↔ (st.length ≤ 4 ∧ zcv (zv 7 tX7_power) [a0, a1, a2, a3] M (fun v M => uX7_mixMember R 193 [x0, x1, x2, x3, x4, x5, x6, x7] (v :: st) M)) := Iff.trans (zU_step dX7_mixMember_190 (Or.inl rfl)) ⟨fun h => ⟨h.2.1, zcv_of h.2.2⟩, fun h => ⟨rfl, h.1, zcv_to h.2⟩⟩
theorem dX7_mixMember_193 : decode cX7_mixMember 193 = .ok (.ladd, 1) := by decide +kernel
theorem rX7_mixMember_193 {R : zP} {x0 x1 x2 x3 x4 x5 x6 x7 : Option zV} {st : List zV} {M : zM} {a b : Int} : uX7_mixMember R 193 [x0, x1, x2, x3, x4, x5, x6, x7] (.inr (.inl b) :: .inr (.inl a) :: st) M ↔ uX7_mixMember R 194 [x0, x1, x2, x3, x4, x5, x6, x7] (.inr (.inl (a + b)) :: st) M := zU_step dX7_mixMember_193 (Or.inl rfl)
theorem dX7_mixMember_194 : decode cX7_mixMember 194 = .ok (.lstore 4, 2) := by decide +kernel
theorem rX7_mixMember_194 {R : zP} {x0 x1 x2 x4 x5 x6 x7 : Option zV} {st : List zV} {M : zM} {a : Int} {y : Int} : uX7_mixMember R 194 [x0, x1, x2, some (.inl y), x4, x5, x6, x7] (.inr (.inl a) :: st) M ↔ uX7_mixMember R 196 [x0, x1, x2, some (.inl y), some (.inr (.inl a)), none, x6, x7] st M := Iff.trans (zU_step dX7_mixMember_194 (Or.inl rfl)) ⟨fun h => h.2, fun h => ⟨show 4 + 1 < 8 by decide, h⟩⟩
theorem rX7_mixMember_194z {R : zP} {x0 x1 x2 x3 x4 x5 x6 x7 : Option zV} {st : List zV} {M : zM} {a : Int} : uX7_mixMember R 194 [x0, x1, x2, x3, x4, x5, x6, x7] (.inr (.inl a) :: st) M ↔ uX7_mixMember R 196 [x0, x1, x2, zkeep x3, some (.inr (.inl a)), none, x6, x7] st M := Iff.trans (zU_step dX7_mixMember_194 (Or.inl rfl)) ⟨fun h => h.2, fun h => ⟨show 4 + 1 < 8 by decide, h⟩⟩
theorem dX7_mixMember_196 : decode cX7_mixMember 196 = .ok (.ldc2_w 322, 3) := by decide +kernel
theorem rX7_mixMember_196 {R : zP} {x0 x1 x2 x3 x4 x5 x6 x7 : Option zV} {st : List zV} {M : zM} : uX7_mixMember R 196 [x0, x1, x2, x3, x4, x5, x6, x7] st M ↔ uX7_mixMember R 199 [x0, x1, x2, x3, x4, x5, x6, x7] (.inr (.inl (31)) :: st) M := zU_step dX7_mixMember_196 (Or.inl rfl)
theorem dX7_mixMember_199 : decode cX7_mixMember 199 = .ok (.lload 4, 2) := by decide +kernel
theorem rX7_mixMember_199 {R : zP} {x0 x1 x2 x3 x5 x6 x7 : Option zV} {st : List zV} {M : zM} {a : Int} : uX7_mixMember R 199 [x0, x1, x2, x3, some (.inr (.inl a)), x5, x6, x7] st M ↔ uX7_mixMember R 201 [x0, x1, x2, x3, some (.inr (.inl a)), x5, x6, x7] (.inr (.inl a) :: st) M := zU_step dX7_mixMember_199 (Or.inl rfl)
theorem dX7_mixMember_201 : decode cX7_mixMember 201 = .ok (.lmul, 1) := by decide +kernel
theorem rX7_mixMember_201 {R : zP} {x0 x1 x2 x3 x4 x5 x6 x7 : Option zV} {st : List zV} {M : zM} {a b : Int} : uX7_mixMember R 201 [x0, x1, x2, x3, x4, x5, x6, x7] (.inr (.inl b) :: .inr (.inl a) :: st) M ↔ uX7_mixMember R 202 [x0, x1, x2, x3, x4, x5, x6, x7] (.inr (.inl (a * b)) :: st) M := zU_step dX7_mixMember_201 (Or.inl rfl)
theorem dX7_mixMember_202 : decode cX7_mixMember 202 = .ok (.aload_n 0, 1) := by decide +kernel
theorem rX7_mixMember_202 {R : zP} {x1 x2 x3 x4 x5 x6 x7 : Option zV} {st : List zV} {M : zM} {a : Nat} : uX7_mixMember R 202 [some (.inr (.inr a)), x1, x2, x3, x4, x5, x6, x7] st M ↔ uX7_mixMember R 203 [some (.inr (.inr a)), x1, x2, x3, x4, x5, x6, x7] (.inr (.inr a) :: st) M := zU_step dX7_mixMember_202 (Or.inl rfl)
theorem dX7_mixMember_203 : decode cX7_mixMember 203 = .ok (.iload_n 3, 1) := by decide +kernel
theorem rX7_mixMember_203 {R : zP} {x0 x1 x2 x4 x5 x6 x7 : Option zV} {st : List zV} {M : zM} {a : Int} : uX7_mixMember R 203 [x0, x1, x2, some (.inl a), x4, x5, x6, x7] st M ↔ uX7_mixMember R 204 [x0, x1, x2, some (.inl a), x4, x5, x6, x7] (.inl a :: st) M := zU_step dX7_mixMember_203 (Or.inl rfl)
theorem dX7_mixMember_204 : decode cX7_mixMember 204 = .ok (.iload 6, 2) := by decide +kernel
theorem rX7_mixMember_204 {R : zP} {x0 x1 x2 x3 x4 x5 x7 : Option zV} {st : List zV} {M : zM} {a : Int} : uX7_mixMember R 204 [x0, x1, x2, x3, x4, x5, some (.inl a), x7] st M ↔ uX7_mixMember R 206 [x0, x1, x2, x3, x4, x5, some (.inl a), x7] (.inl a :: st) M := zU_step dX7_mixMember_204 (Or.inl rfl)
theorem dX7_mixMember_206 : decode cX7_mixMember 206 = .ok (.iconst 1, 1) := by decide +kernel
theorem rX7_mixMember_206 {R : zP} {x0 x1 x2 x3 x4 x5 x6 x7 : Option zV} {st : List zV} {M : zM} : uX7_mixMember R 206 [x0, x1, x2, x3, x4, x5, x6, x7] st M ↔ uX7_mixMember R 207 [x0, x1, x2, x3, x4, x5, x6, x7] (.inl (1) :: st) M := zU_step dX7_mixMember_206 (Or.inl rfl)
theorem dX7_mixMember_207 : decode cX7_mixMember 207 = .ok (.invokevirtual 416, 3) := by decide +kernel
theorem rX7_mixMember_207 {R : zP} {x0 x1 x2 x3 x4 x5 x6 x7 : Option zV} {st : List zV} {M : zM} {a0 a1 a2 a3 : zV} : uX7_mixMember R 207 [x0, x1, x2, x3, x4, x5, x6, x7] (a3 :: a2 :: a1 :: a0 :: st) M ↔ (st.length ≤ 4 ∧ zcv (zv 7 tX7_power) [a0, a1, a2, a3] M (fun v M => uX7_mixMember R 210 [x0, x1, x2, x3, x4, x5, x6, x7] (v :: st) M)) := Iff.trans (zU_step dX7_mixMember_207 (Or.inl rfl)) ⟨fun h => ⟨h.2.1, zcv_of h.2.2⟩, fun h => ⟨rfl, h.1, zcv_to h.2⟩⟩
theorem dX7_mixMember_210 : decode cX7_mixMember 210 = .ok (.ladd, 1) := by decide +kernel
theorem rX7_mixMember_210 {R : zP} {x0 x1 x2 x3 x4 x5 x6 x7 : Option zV} {st : List zV} {M : zM} {a b : Int} : uX7_mixMember R 210 [x0, x1, x2, x3, x4, x5, x6, x7] (.inr (.inl b) :: .inr (.inl a) :: st) M ↔ uX7_mixMember R 211 [x0, x1, x2, x3, x4, x5, x6, x7] (.inr (.inl (a + b)) :: st) M := zU_step dX7_mixMember_210 (Or.inl rfl)
theorem dX7_mixMember_211 : decode cX7_mixMember 211 = .ok (.lstore 4, 2) := by decide +kernel
theorem rX7_mixMember_211 {R : zP} {x0 x1 x2 x4 x5 x6 x7 : Option zV} {st : List zV} {M : zM} {a : Int} {y : Int} : uX7_mixMember R 211 [x0, x1, x2, some (.inl y), x4, x5, x6, x7] (.inr (.inl a) :: st) M ↔ uX7_mixMember R 213 [x0, x1, x2, some (.inl y), some (.inr (.inl a)), none, x6, x7] st M := Iff.trans (zU_step dX7_mixMember_211 (Or.inl rfl)) ⟨fun h => h.2, fun h => ⟨show 4 + 1 < 8 by decide, h⟩⟩
theorem rX7_mixMember_211z {R : zP} {x0 x1 x2 x3 x4 x5 x6 x7 : Option zV} {st : List zV} {M : zM} {a : Int} : uX7_mixMember R 211 [x0, x1, x2, x3, x4, x5, x6, x7] (.inr (.inl a) :: st) M ↔ uX7_mixMember R 213 [x0, x1, x2, zkeep x3, some (.inr (.inl a)), none, x6, x7] st M := Iff.trans (zU_step dX7_mixMember_211 (Or.inl rfl)) ⟨fun h => h.2, fun h => ⟨show 4 + 1 < 8 by decide, h⟩⟩
theorem dX7_mixMember_213 : decode cX7_mixMember 213 = .ok (.ldc2_w 322, 3) := by decide +kernel
theorem rX7_mixMember_213 {R : zP} {x0 x1 x2 x3 x4 x5 x6 x7 : Option zV} {st : List zV} {M : zM} : uX7_mixMember R 213 [x0, x1, x2, x3, x4, x5, x6, x7] st M ↔ uX7_mixMember R 216 [x0, x1, x2, x3, x4, x5, x6, x7] (.inr (.inl (31)) :: st) M := zU_step dX7_mixMember_213 (Or.inl rfl)
theorem dX7_mixMember_216 : decode cX7_mixMember 216 = .ok (.lload 4, 2) := by decide +kernel
theorem rX7_mixMember_216 {R : zP} {x0 x1 x2 x3 x5 x6 x7 : Option zV} {st : List zV} {M : zM} {a : Int} : uX7_mixMember R 216 [x0, x1, x2, x3, some (.inr (.inl a)), x5, x6, x7] st M ↔ uX7_mixMember R 218 [x0, x1, x2, x3, some (.inr (.inl a)), x5, x6, x7] (.inr (.inl a) :: st) M := zU_step dX7_mixMember_216 (Or.inl rfl)
theorem dX7_mixMember_218 : decode cX7_mixMember 218 = .ok (.lmul, 1) := by decide +kernel
theorem rX7_mixMember_218 {R : zP} {x0 x1 x2 x3 x4 x5 x6 x7 : Option zV} {st : List zV} {M : zM} {a b : Int} : uX7_mixMember R 218 [x0, x1, x2, x3, x4, x5, x6, x7] (.inr (.inl b) :: .inr (.inl a) :: st) M ↔ uX7_mixMember R 219 [x0, x1, x2, x3, x4, x5, x6, x7] (.inr (.inl (a * b)) :: st) M := zU_step dX7_mixMember_218 (Or.inl rfl)
theorem dX7_mixMember_219 : decode cX7_mixMember 219 = .ok (.aload_n 0, 1) := by decide +kernel
theorem rX7_mixMember_219 {R : zP} {x1 x2 x3 x4 x5 x6 x7 : Option zV} {st : List zV} {M : zM} {a : Nat} : uX7_mixMember R 219 [some (.inr (.inr a)), x1, x2, x3, x4, x5, x6, x7] st M ↔ uX7_mixMember R 220 [some (.inr (.inr a)), x1, x2, x3, x4, x5, x6, x7] (.inr (.inr a) :: st) M := zU_step dX7_mixMember_219 (Or.inl rfl)
theorem dX7_mixMember_220 : decode cX7_mixMember 220 = .ok (.iload_n 3, 1) := by decide +kernel
theorem rX7_mixMember_220 {R : zP} {x0 x1 x2 x4 x5 x6 x7 : Option zV} {st : List zV} {M : zM} {a : Int} : uX7_mixMember R 220 [x0, x1, x2, some (.inl a), x4, x5, x6, x7] st M ↔ uX7_mixMember R 221 [x0, x1, x2, some (.inl a), x4, x5, x6, x7] (.inl a :: st) M := zU_step dX7_mixMember_220 (Or.inl rfl)
theorem dX7_mixMember_221 : decode cX7_mixMember 221 = .ok (.iload 6, 2) := by decide +kernel
theorem rX7_mixMember_221 {R : zP} {x0 x1 x2 x3 x4 x5 x7 : Option zV} {st : List zV} {M : zM} {a : Int} : uX7_mixMember R 221 [x0, x1, x2, x3, x4, x5, some (.inl a), x7] st M ↔ uX7_mixMember R 223 [x0, x1, x2, x3, x4, x5, some (.inl a), x7] (.inl a :: st) M := zU_step dX7_mixMember_221 (Or.inl rfl)
theorem dX7_mixMember_223 : decode cX7_mixMember 223 = .ok (.bipush 9, 2) := by decide +kernel
theorem rX7_mixMember_223 {R : zP} {x0 x1 x2 x3 x4 x5 x6 x7 : Option zV} {st : List zV} {M : zM} : uX7_mixMember R 223 [x0, x1, x2, x3, x4, x5, x6, x7] st M ↔ uX7_mixMember R 225 [x0, x1, x2, x3, x4, x5, x6, x7] (.inl (9) :: st) M := Iff.trans (zU_step dX7_mixMember_223 (Or.inl rfl)) ⟨fun h => h.2, fun h => ⟨by decide, h⟩⟩
theorem dX7_mixMember_225 : decode cX7_mixMember 225 = .ok (.iconst (-1), 1) := by decide +kernel
theorem rX7_mixMember_225 {R : zP} {x0 x1 x2 x3 x4 x5 x6 x7 : Option zV} {st : List zV} {M : zM} : uX7_mixMember R 225 [x0, x1, x2, x3, x4, x5, x6, x7] st M ↔ uX7_mixMember R 226 [x0, x1, x2, x3, x4, x5, x6, x7] (.inl (-1) :: st) M := zU_step dX7_mixMember_225 (Or.inl rfl)
theorem dX7_mixMember_226 : decode cX7_mixMember 226 = .ok (.invokevirtual 419, 3) := by decide +kernel
theorem rX7_mixMember_226 {R : zP} {x0 x1 x2 x3 x4 x5 x6 x7 : Option zV} {st : List zV} {M : zM} {a0 a1 a2 a3 a4 : zV} : uX7_mixMember R 226 [x0, x1, x2, x3, x4, x5, x6, x7] (a4 :: a3 :: a2 :: a1 :: a0 :: st) M ↔ (st.length ≤ 4 ∧ zcv (zv 7 tX7_rear) [a0, a1, a2, a3, a4] M (fun v M => uX7_mixMember R 229 [x0, x1, x2, x3, x4, x5, x6, x7] (v :: st) M)) := Iff.trans (zU_step dX7_mixMember_226 (Or.inl rfl)) ⟨fun h => ⟨h.2.1, zcv_of h.2.2⟩, fun h => ⟨rfl, h.1, zcv_to h.2⟩⟩
theorem dX7_mixMember_229 : decode cX7_mixMember 229 = .ok (.i2l, 1) := by decide +kernel
theorem rX7_mixMember_229 {R : zP} {x0 x1 x2 x3 x4 x5 x6 x7 : Option zV} {st : List zV} {M : zM} {a : Int} : uX7_mixMember R 229 [x0, x1, x2, x3, x4, x5, x6, x7] (.inl a :: st) M ↔ (zIR a ∧ uX7_mixMember R 230 [x0, x1, x2, x3, x4, x5, x6, x7] (.inr (.inl a) :: st) M) := zU_step dX7_mixMember_229 (Or.inl rfl)
theorem dX7_mixMember_230 : decode cX7_mixMember 230 = .ok (.ladd, 1) := by decide +kernel
theorem rX7_mixMember_230 {R : zP} {x0 x1 x2 x3 x4 x5 x6 x7 : Option zV} {st : List zV} {M : zM} {a b : Int} : uX7_mixMember R 230 [x0, x1, x2, x3, x4, x5, x6, x7] (.inr (.inl b) :: .inr (.inl a) :: st) M ↔ uX7_mixMember R 231 [x0, x1, x2, x3, x4, x5, x6, x7] (.inr (.inl (a + b)) :: st) M := zU_step dX7_mixMember_230 (Or.inl rfl)
theorem dX7_mixMember_231 : decode cX7_mixMember 231 = .ok (.lstore 4, 2) := by decide +kernel
theorem rX7_mixMember_231 {R : zP} {x0 x1 x2 x4 x5 x6 x7 : Option zV} {st : List zV} {M : zM} {a : Int} {y : Int} : uX7_mixMember R 231 [x0, x1, x2, some (.inl y), x4, x5, x6, x7] (.inr (.inl a) :: st) M ↔ uX7_mixMember R 233 [x0, x1, x2, some (.inl y), some (.inr (.inl a)), none, x6, x7] st M := Iff.trans (zU_step dX7_mixMember_231 (Or.inl rfl)) ⟨fun h => h.2, fun h => ⟨show 4 + 1 < 8 by decide, h⟩⟩
theorem rX7_mixMember_231z {R : zP} {x0 x1 x2 x3 x4 x5 x6 x7 : Option zV} {st : List zV} {M : zM} {a : Int} : uX7_mixMember R 231 [x0, x1, x2, x3, x4, x5, x6, x7] (.inr (.inl a) :: st) M ↔ uX7_mixMember R 233 [x0, x1, x2, zkeep x3, some (.inr (.inl a)), none, x6, x7] st M := Iff.trans (zU_step dX7_mixMember_231 (Or.inl rfl)) ⟨fun h => h.2, fun h => ⟨show 4 + 1 < 8 by decide, h⟩⟩
theorem dX7_mixMember_233 : decode cX7_mixMember 233 = .ok (.ldc2_w 322, 3) := by decide +kernel
theorem rX7_mixMember_233 {R : zP} {x0 x1 x2 x3 x4 x5 x6 x7 : Option zV} {st : List zV} {M : zM} : uX7_mixMember R 233 [x0, x1, x2, x3, x4, x5, x6, x7] st M ↔ uX7_mixMember R 236 [x0, x1, x2, x3, x4, x5, x6, x7] (.inr (.inl (31)) :: st) M := zU_step dX7_mixMember_233 (Or.inl rfl)
theorem dX7_mixMember_236 : decode cX7_mixMember 236 = .ok (.lload 4, 2) := by decide +kernel
theorem rX7_mixMember_236 {R : zP} {x0 x1 x2 x3 x5 x6 x7 : Option zV} {st : List zV} {M : zM} {a : Int} : uX7_mixMember R 236 [x0, x1, x2, x3, some (.inr (.inl a)), x5, x6, x7] st M ↔ uX7_mixMember R 238 [x0, x1, x2, x3, some (.inr (.inl a)), x5, x6, x7] (.inr (.inl a) :: st) M := zU_step dX7_mixMember_236 (Or.inl rfl)
theorem dX7_mixMember_238 : decode cX7_mixMember 238 = .ok (.lmul, 1) := by decide +kernel
theorem rX7_mixMember_238 {R : zP} {x0 x1 x2 x3 x4 x5 x6 x7 : Option zV} {st : List zV} {M : zM} {a b : Int} : uX7_mixMember R 238 [x0, x1, x2, x3, x4, x5, x6, x7] (.inr (.inl b) :: .inr (.inl a) :: st) M ↔ uX7_mixMember R 239 [x0, x1, x2, x3, x4, x5, x6, x7] (.inr (.inl (a * b)) :: st) M := zU_step dX7_mixMember_238 (Or.inl rfl)
theorem dX7_mixMember_239 : decode cX7_mixMember 239 = .ok (.aload_n 0, 1) := by decide +kernel
theorem rX7_mixMember_239 {R : zP} {x1 x2 x3 x4 x5 x6 x7 : Option zV} {st : List zV} {M : zM} {a : Nat} : uX7_mixMember R 239 [some (.inr (.inr a)), x1, x2, x3, x4, x5, x6, x7] st M ↔ uX7_mixMember R 240 [some (.inr (.inr a)), x1, x2, x3, x4, x5, x6, x7] (.inr (.inr a) :: st) M := zU_step dX7_mixMember_239 (Or.inl rfl)
theorem dX7_mixMember_240 : decode cX7_mixMember 240 = .ok (.iload_n 3, 1) := by decide +kernel
theorem rX7_mixMember_240 {R : zP} {x0 x1 x2 x4 x5 x6 x7 : Option zV} {st : List zV} {M : zM} {a : Int} : uX7_mixMember R 240 [x0, x1, x2, some (.inl a), x4, x5, x6, x7] st M ↔ uX7_mixMember R 241 [x0, x1, x2, some (.inl a), x4, x5, x6, x7] (.inl a :: st) M := zU_step dX7_mixMember_240 (Or.inl rfl)
theorem dX7_mixMember_241 : decode cX7_mixMember 241 = .ok (.iload 6, 2) := by decide +kernel
theorem rX7_mixMember_241 {R : zP} {x0 x1 x2 x3 x4 x5 x7 : Option zV} {st : List zV} {M : zM} {a : Int} : uX7_mixMember R 241 [x0, x1, x2, x3, x4, x5, some (.inl a), x7] st M ↔ uX7_mixMember R 243 [x0, x1, x2, x3, x4, x5, some (.inl a), x7] (.inl a :: st) M := zU_step dX7_mixMember_241 (Or.inl rfl)
theorem dX7_mixMember_243 : decode cX7_mixMember 243 = .ok (.bipush 9, 2) := by decide +kernel
theorem rX7_mixMember_243 {R : zP} {x0 x1 x2 x3 x4 x5 x6 x7 : Option zV} {st : List zV} {M : zM} : uX7_mixMember R 243 [x0, x1, x2, x3, x4, x5, x6, x7] st M ↔ uX7_mixMember R 245 [x0, x1, x2, x3, x4, x5, x6, x7] (.inl (9) :: st) M := Iff.trans (zU_step dX7_mixMember_243 (Or.inl rfl)) ⟨fun h => h.2, fun h => ⟨by decide, h⟩⟩
theorem dX7_mixMember_245 : decode cX7_mixMember 245 = .ok (.iconst 0, 1) := by decide +kernel
theorem rX7_mixMember_245 {R : zP} {x0 x1 x2 x3 x4 x5 x6 x7 : Option zV} {st : List zV} {M : zM} : uX7_mixMember R 245 [x0, x1, x2, x3, x4, x5, x6, x7] st M ↔ uX7_mixMember R 246 [x0, x1, x2, x3, x4, x5, x6, x7] (.inl (0) :: st) M := zU_step dX7_mixMember_245 (Or.inl rfl)
theorem dX7_mixMember_246 : decode cX7_mixMember 246 = .ok (.invokevirtual 419, 3) := by decide +kernel
theorem rX7_mixMember_246 {R : zP} {x0 x1 x2 x3 x4 x5 x6 x7 : Option zV} {st : List zV} {M : zM} {a0 a1 a2 a3 a4 : zV} : uX7_mixMember R 246 [x0, x1, x2, x3, x4, x5, x6, x7] (a4 :: a3 :: a2 :: a1 :: a0 :: st) M ↔ (st.length ≤ 4 ∧ zcv (zv 7 tX7_rear) [a0, a1, a2, a3, a4] M (fun v M => uX7_mixMember R 249 [x0, x1, x2, x3, x4, x5, x6, x7] (v :: st) M)) := Iff.trans (zU_step dX7_mixMember_246 (Or.inl rfl)) ⟨fun h => ⟨h.2.1, zcv_of h.2.2⟩, fun h => ⟨rfl, h.1, zcv_to h.2⟩⟩
theorem dX7_mixMember_249 : decode cX7_mixMember 249 = .ok (.i2l, 1) := by decide +kernel
theorem rX7_mixMember_249 {R : zP} {x0 x1 x2 x3 x4 x5 x6 x7 : Option zV} {st : List zV} {M : zM} {a : Int} : uX7_mixMember R 249 [x0, x1, x2, x3, x4, x5, x6, x7] (.inl a :: st) M ↔ (zIR a ∧ uX7_mixMember R 250 [x0, x1, x2, x3, x4, x5, x6, x7] (.inr (.inl a) :: st) M) := zU_step dX7_mixMember_249 (Or.inl rfl)
theorem dX7_mixMember_250 : decode cX7_mixMember 250 = .ok (.ladd, 1) := by decide +kernel
theorem rX7_mixMember_250 {R : zP} {x0 x1 x2 x3 x4 x5 x6 x7 : Option zV} {st : List zV} {M : zM} {a b : Int} : uX7_mixMember R 250 [x0, x1, x2, x3, x4, x5, x6, x7] (.inr (.inl b) :: .inr (.inl a) :: st) M ↔ uX7_mixMember R 251 [x0, x1, x2, x3, x4, x5, x6, x7] (.inr (.inl (a + b)) :: st) M := zU_step dX7_mixMember_250 (Or.inl rfl)
theorem dX7_mixMember_251 : decode cX7_mixMember 251 = .ok (.lstore 4, 2) := by decide +kernel
theorem rX7_mixMember_251 {R : zP} {x0 x1 x2 x4 x5 x6 x7 : Option zV} {st : List zV} {M : zM} {a : Int} {y : Int} : uX7_mixMember R 251 [x0, x1, x2, some (.inl y), x4, x5, x6, x7] (.inr (.inl a) :: st) M ↔ uX7_mixMember R 253 [x0, x1, x2, some (.inl y), some (.inr (.inl a)), none, x6, x7] st M := Iff.trans (zU_step dX7_mixMember_251 (Or.inl rfl)) ⟨fun h => h.2, fun h => ⟨show 4 + 1 < 8 by decide, h⟩⟩
theorem rX7_mixMember_251z {R : zP} {x0 x1 x2 x3 x4 x5 x6 x7 : Option zV} {st : List zV} {M : zM} {a : Int} : uX7_mixMember R 251 [x0, x1, x2, x3, x4, x5, x6, x7] (.inr (.inl a) :: st) M ↔ uX7_mixMember R 253 [x0, x1, x2, zkeep x3, some (.inr (.inl a)), none, x6, x7] st M := Iff.trans (zU_step dX7_mixMember_251 (Or.inl rfl)) ⟨fun h => h.2, fun h => ⟨show 4 + 1 < 8 by decide, h⟩⟩
theorem dX7_mixMember_253 : decode cX7_mixMember 253 = .ok (.ldc2_w 322, 3) := by decide +kernel
theorem rX7_mixMember_253 {R : zP} {x0 x1 x2 x3 x4 x5 x6 x7 : Option zV} {st : List zV} {M : zM} : uX7_mixMember R 253 [x0, x1, x2, x3, x4, x5, x6, x7] st M ↔ uX7_mixMember R 256 [x0, x1, x2, x3, x4, x5, x6, x7] (.inr (.inl (31)) :: st) M := zU_step dX7_mixMember_253 (Or.inl rfl)
theorem dX7_mixMember_256 : decode cX7_mixMember 256 = .ok (.lload 4, 2) := by decide +kernel
theorem rX7_mixMember_256 {R : zP} {x0 x1 x2 x3 x5 x6 x7 : Option zV} {st : List zV} {M : zM} {a : Int} : uX7_mixMember R 256 [x0, x1, x2, x3, some (.inr (.inl a)), x5, x6, x7] st M ↔ uX7_mixMember R 258 [x0, x1, x2, x3, some (.inr (.inl a)), x5, x6, x7] (.inr (.inl a) :: st) M := zU_step dX7_mixMember_256 (Or.inl rfl)
theorem dX7_mixMember_258 : decode cX7_mixMember 258 = .ok (.lmul, 1) := by decide +kernel
theorem rX7_mixMember_258 {R : zP} {x0 x1 x2 x3 x4 x5 x6 x7 : Option zV} {st : List zV} {M : zM} {a b : Int} : uX7_mixMember R 258 [x0, x1, x2, x3, x4, x5, x6, x7] (.inr (.inl b) :: .inr (.inl a) :: st) M ↔ uX7_mixMember R 259 [x0, x1, x2, x3, x4, x5, x6, x7] (.inr (.inl (a * b)) :: st) M := zU_step dX7_mixMember_258 (Or.inl rfl)
theorem dX7_mixMember_259 : decode cX7_mixMember 259 = .ok (.aload_n 0, 1) := by decide +kernel
theorem rX7_mixMember_259 {R : zP} {x1 x2 x3 x4 x5 x6 x7 : Option zV} {st : List zV} {M : zM} {a : Nat} : uX7_mixMember R 259 [some (.inr (.inr a)), x1, x2, x3, x4, x5, x6, x7] st M ↔ uX7_mixMember R 260 [some (.inr (.inr a)), x1, x2, x3, x4, x5, x6, x7] (.inr (.inr a) :: st) M := zU_step dX7_mixMember_259 (Or.inl rfl)
theorem dX7_mixMember_260 : decode cX7_mixMember 260 = .ok (.iload_n 3, 1) := by decide +kernel
theorem rX7_mixMember_260 {R : zP} {x0 x1 x2 x4 x5 x6 x7 : Option zV} {st : List zV} {M : zM} {a : Int} : uX7_mixMember R 260 [x0, x1, x2, some (.inl a), x4, x5, x6, x7] st M ↔ uX7_mixMember R 261 [x0, x1, x2, some (.inl a), x4, x5, x6, x7] (.inl a :: st) M := zU_step dX7_mixMember_260 (Or.inl rfl)
theorem dX7_mixMember_261 : decode cX7_mixMember 261 = .ok (.iload 6, 2) := by decide +kernel
theorem rX7_mixMember_261 {R : zP} {x0 x1 x2 x3 x4 x5 x7 : Option zV} {st : List zV} {M : zM} {a : Int} : uX7_mixMember R 261 [x0, x1, x2, x3, x4, x5, some (.inl a), x7] st M ↔ uX7_mixMember R 263 [x0, x1, x2, x3, x4, x5, some (.inl a), x7] (.inl a :: st) M := zU_step dX7_mixMember_261 (Or.inl rfl)
theorem dX7_mixMember_263 : decode cX7_mixMember 263 = .ok (.invokevirtual 422, 3) := by decide +kernel
theorem rX7_mixMember_263 {R : zP} {x0 x1 x2 x3 x4 x5 x6 x7 : Option zV} {st : List zV} {M : zM} {a0 a1 a2 : zV} : uX7_mixMember R 263 [x0, x1, x2, x3, x4, x5, x6, x7] (a2 :: a1 :: a0 :: st) M ↔ (st.length ≤ 4 ∧ zcv (zv 7 tX7_first) [a0, a1, a2] M (fun v M => uX7_mixMember R 266 [x0, x1, x2, x3, x4, x5, x6, x7] (v :: st) M)) := Iff.trans (zU_step dX7_mixMember_263 (Or.inl rfl)) ⟨fun h => ⟨h.2.1, zcv_of h.2.2⟩, fun h => ⟨rfl, h.1, zcv_to h.2⟩⟩
theorem dX7_mixMember_266 : decode cX7_mixMember 266 = .ok (.i2l, 1) := by decide +kernel
theorem rX7_mixMember_266 {R : zP} {x0 x1 x2 x3 x4 x5 x6 x7 : Option zV} {st : List zV} {M : zM} {a : Int} : uX7_mixMember R 266 [x0, x1, x2, x3, x4, x5, x6, x7] (.inl a :: st) M ↔ (zIR a ∧ uX7_mixMember R 267 [x0, x1, x2, x3, x4, x5, x6, x7] (.inr (.inl a) :: st) M) := zU_step dX7_mixMember_266 (Or.inl rfl)
theorem dX7_mixMember_267 : decode cX7_mixMember 267 = .ok (.ladd, 1) := by decide +kernel
theorem rX7_mixMember_267 {R : zP} {x0 x1 x2 x3 x4 x5 x6 x7 : Option zV} {st : List zV} {M : zM} {a b : Int} : uX7_mixMember R 267 [x0, x1, x2, x3, x4, x5, x6, x7] (.inr (.inl b) :: .inr (.inl a) :: st) M ↔ uX7_mixMember R 268 [x0, x1, x2, x3, x4, x5, x6, x7] (.inr (.inl (a + b)) :: st) M := zU_step dX7_mixMember_267 (Or.inl rfl)
theorem dX7_mixMember_268 : decode cX7_mixMember 268 = .ok (.lstore 4, 2) := by decide +kernel
theorem rX7_mixMember_268 {R : zP} {x0 x1 x2 x4 x5 x6 x7 : Option zV} {st : List zV} {M : zM} {a : Int} {y : Int} : uX7_mixMember R 268 [x0, x1, x2, some (.inl y), x4, x5, x6, x7] (.inr (.inl a) :: st) M ↔ uX7_mixMember R 270 [x0, x1, x2, some (.inl y), some (.inr (.inl a)), none, x6, x7] st M := Iff.trans (zU_step dX7_mixMember_268 (Or.inl rfl)) ⟨fun h => h.2, fun h => ⟨show 4 + 1 < 8 by decide, h⟩⟩
theorem rX7_mixMember_268z {R : zP} {x0 x1 x2 x3 x4 x5 x6 x7 : Option zV} {st : List zV} {M : zM} {a : Int} : uX7_mixMember R 268 [x0, x1, x2, x3, x4, x5, x6, x7] (.inr (.inl a) :: st) M ↔ uX7_mixMember R 270 [x0, x1, x2, zkeep x3, some (.inr (.inl a)), none, x6, x7] st M := Iff.trans (zU_step dX7_mixMember_268 (Or.inl rfl)) ⟨fun h => h.2, fun h => ⟨show 4 + 1 < 8 by decide, h⟩⟩
theorem dX7_mixMember_270 : decode cX7_mixMember 270 = .ok (.ldc2_w 322, 3) := by decide +kernel
theorem rX7_mixMember_270 {R : zP} {x0 x1 x2 x3 x4 x5 x6 x7 : Option zV} {st : List zV} {M : zM} : uX7_mixMember R 270 [x0, x1, x2, x3, x4, x5, x6, x7] st M ↔ uX7_mixMember R 273 [x0, x1, x2, x3, x4, x5, x6, x7] (.inr (.inl (31)) :: st) M := zU_step dX7_mixMember_270 (Or.inl rfl)
theorem dX7_mixMember_273 : decode cX7_mixMember 273 = .ok (.lload 4, 2) := by decide +kernel
theorem rX7_mixMember_273 {R : zP} {x0 x1 x2 x3 x5 x6 x7 : Option zV} {st : List zV} {M : zM} {a : Int} : uX7_mixMember R 273 [x0, x1, x2, x3, some (.inr (.inl a)), x5, x6, x7] st M ↔ uX7_mixMember R 275 [x0, x1, x2, x3, some (.inr (.inl a)), x5, x6, x7] (.inr (.inl a) :: st) M := zU_step dX7_mixMember_273 (Or.inl rfl)
theorem dX7_mixMember_275 : decode cX7_mixMember 275 = .ok (.lmul, 1) := by decide +kernel
theorem rX7_mixMember_275 {R : zP} {x0 x1 x2 x3 x4 x5 x6 x7 : Option zV} {st : List zV} {M : zM} {a b : Int} : uX7_mixMember R 275 [x0, x1, x2, x3, x4, x5, x6, x7] (.inr (.inl b) :: .inr (.inl a) :: st) M ↔ uX7_mixMember R 276 [x0, x1, x2, x3, x4, x5, x6, x7] (.inr (.inl (a * b)) :: st) M := zU_step dX7_mixMember_275 (Or.inl rfl)
theorem dX7_mixMember_276 : decode cX7_mixMember 276 = .ok (.aload_n 0, 1) := by decide +kernel
theorem rX7_mixMember_276 {R : zP} {x1 x2 x3 x4 x5 x6 x7 : Option zV} {st : List zV} {M : zM} {a : Nat} : uX7_mixMember R 276 [some (.inr (.inr a)), x1, x2, x3, x4, x5, x6, x7] st M ↔ uX7_mixMember R 277 [some (.inr (.inr a)), x1, x2, x3, x4, x5, x6, x7] (.inr (.inr a) :: st) M := zU_step dX7_mixMember_276 (Or.inl rfl)
theorem dX7_mixMember_277 : decode cX7_mixMember 277 = .ok (.iload_n 3, 1) := by decide +kernel
theorem rX7_mixMember_277 {R : zP} {x0 x1 x2 x4 x5 x6 x7 : Option zV} {st : List zV} {M : zM} {a : Int} : uX7_mixMember R 277 [x0, x1, x2, some (.inl a), x4, x5, x6, x7] st M ↔ uX7_mixMember R 278 [x0, x1, x2, some (.inl a), x4, x5, x6, x7] (.inl a :: st) M := zU_step dX7_mixMember_277 (Or.inl rfl)
theorem dX7_mixMember_278 : decode cX7_mixMember 278 = .ok (.iload 6, 2) := by decide +kernel
theorem rX7_mixMember_278 {R : zP} {x0 x1 x2 x3 x4 x5 x7 : Option zV} {st : List zV} {M : zM} {a : Int} : uX7_mixMember R 278 [x0, x1, x2, x3, x4, x5, some (.inl a), x7] st M ↔ uX7_mixMember R 280 [x0, x1, x2, x3, x4, x5, some (.inl a), x7] (.inl a :: st) M := zU_step dX7_mixMember_278 (Or.inl rfl)
theorem dX7_mixMember_280 : decode cX7_mixMember 280 = .ok (.invokevirtual 425, 3) := by decide +kernel
theorem rX7_mixMember_280 {R : zP} {x0 x1 x2 x3 x4 x5 x6 x7 : Option zV} {st : List zV} {M : zM} {a0 a1 a2 : zV} : uX7_mixMember R 280 [x0, x1, x2, x3, x4, x5, x6, x7] (a2 :: a1 :: a0 :: st) M ↔ (st.length ≤ 4 ∧ zcv (zv 7 tX7_ask) [a0, a1, a2] M (fun v M => uX7_mixMember R 283 [x0, x1, x2, x3, x4, x5, x6, x7] (v :: st) M)) := Iff.trans (zU_step dX7_mixMember_280 (Or.inl rfl)) ⟨fun h => ⟨h.2.1, zcv_of h.2.2⟩, fun h => ⟨rfl, h.1, zcv_to h.2⟩⟩
theorem dX7_mixMember_283 : decode cX7_mixMember 283 = .ok (.i2l, 1) := by decide +kernel
theorem rX7_mixMember_283 {R : zP} {x0 x1 x2 x3 x4 x5 x6 x7 : Option zV} {st : List zV} {M : zM} {a : Int} : uX7_mixMember R 283 [x0, x1, x2, x3, x4, x5, x6, x7] (.inl a :: st) M ↔ (zIR a ∧ uX7_mixMember R 284 [x0, x1, x2, x3, x4, x5, x6, x7] (.inr (.inl a) :: st) M) := zU_step dX7_mixMember_283 (Or.inl rfl)
theorem dX7_mixMember_284 : decode cX7_mixMember 284 = .ok (.ladd, 1) := by decide +kernel
theorem rX7_mixMember_284 {R : zP} {x0 x1 x2 x3 x4 x5 x6 x7 : Option zV} {st : List zV} {M : zM} {a b : Int} : uX7_mixMember R 284 [x0, x1, x2, x3, x4, x5, x6, x7] (.inr (.inl b) :: .inr (.inl a) :: st) M ↔ uX7_mixMember R 285 [x0, x1, x2, x3, x4, x5, x6, x7] (.inr (.inl (a + b)) :: st) M := zU_step dX7_mixMember_284 (Or.inl rfl)
theorem dX7_mixMember_285 : decode cX7_mixMember 285 = .ok (.lstore 4, 2) := by decide +kernel
theorem rX7_mixMember_285 {R : zP} {x0 x1 x2 x4 x5 x6 x7 : Option zV} {st : List zV} {M : zM} {a : Int} {y : Int} : uX7_mixMember R 285 [x0, x1, x2, some (.inl y), x4, x5, x6, x7] (.inr (.inl a) :: st) M ↔ uX7_mixMember R 287 [x0, x1, x2, some (.inl y), some (.inr (.inl a)), none, x6, x7] st M := Iff.trans (zU_step dX7_mixMember_285 (Or.inl rfl)) ⟨fun h => h.2, fun h => ⟨show 4 + 1 < 8 by decide, h⟩⟩
theorem rX7_mixMember_285z {R : zP} {x0 x1 x2 x3 x4 x5 x6 x7 : Option zV} {st : List zV} {M : zM} {a : Int} : uX7_mixMember R 285 [x0, x1, x2, x3, x4, x5, x6, x7] (.inr (.inl a) :: st) M ↔ uX7_mixMember R 287 [x0, x1, x2, zkeep x3, some (.inr (.inl a)), none, x6, x7] st M := Iff.trans (zU_step dX7_mixMember_285 (Or.inl rfl)) ⟨fun h => h.2, fun h => ⟨show 4 + 1 < 8 by decide, h⟩⟩
theorem dX7_mixMember_287 : decode cX7_mixMember 287 = .ok (.iinc 6 1, 3) := by decide +kernel
theorem rX7_mixMember_287 {R : zP} {x0 x1 x2 x3 x4 x7 : Option zV} {st : List zV} {M : zM} {a : Int} : uX7_mixMember R 287 [x0, x1, x2, x3, x4, none, some (.inl a), x7] st M ↔ uX7_mixMember R 290 [x0, x1, x2, x3, x4, none, some (.inl (a + (1))), x7] st M := Iff.trans (zU_step dX7_mixMember_287 (Or.inl rfl)) ⟨fun h => h.2, fun h => ⟨show 6 < 8 by decide, h⟩⟩
theorem rX7_mixMember_287z {R : zP} {x0 x1 x2 x3 x4 x5 x7 : Option zV} {st : List zV} {M : zM} {a : Int} : uX7_mixMember R 287 [x0, x1, x2, x3, x4, x5, some (.inl a), x7] st M ↔ uX7_mixMember R 290 [x0, x1, x2, x3, x4, zkeep x5, some (.inl (a + (1))), x7] st M := Iff.trans (zU_step dX7_mixMember_287 (Or.inl rfl)) ⟨fun h => h.2, fun h => ⟨show 6 < 8 by decide, h⟩⟩
theorem dX7_mixMember_290 : decode cX7_mixMember 290 = .ok (.goto (-189), 3) := by decide +kernel
theorem rX7_mixMember_290 {R : zP} {x0 x1 x2 x3 x4 x5 x6 x7 : Option zV} {st : List zV} {M : zM} : uX7_mixMember R 290 [x0, x1, x2, x3, x4, x5, x6, x7] st M ↔ uX7_mixMember R 101 [x0, x1, x2, x3, x4, x5, x6, x7] st M := Iff.trans (zU_step dX7_mixMember_290 (Or.inl rfl)) ⟨fun h => h.2, fun h => ⟨by decide, h⟩⟩
theorem dX7_mixMember_293 : decode cX7_mixMember 293 = .ok (.ldc2_w 322, 3) := by decide +kernel
theorem rX7_mixMember_293 {R : zP} {x0 x1 x2 x3 x4 x5 x6 x7 : Option zV} {st : List zV} {M : zM} : uX7_mixMember R 293 [x0, x1, x2, x3, x4, x5, x6, x7] st M ↔ uX7_mixMember R 296 [x0, x1, x2, x3, x4, x5, x6, x7] (.inr (.inl (31)) :: st) M := zU_step dX7_mixMember_293 (Or.inl rfl)
theorem dX7_mixMember_296 : decode cX7_mixMember 296 = .ok (.lload 4, 2) := by decide +kernel
theorem rX7_mixMember_296 {R : zP} {x0 x1 x2 x3 x5 x6 x7 : Option zV} {st : List zV} {M : zM} {a : Int} : uX7_mixMember R 296 [x0, x1, x2, x3, some (.inr (.inl a)), x5, x6, x7] st M ↔ uX7_mixMember R 298 [x0, x1, x2, x3, some (.inr (.inl a)), x5, x6, x7] (.inr (.inl a) :: st) M := zU_step dX7_mixMember_296 (Or.inl rfl)
theorem dX7_mixMember_298 : decode cX7_mixMember 298 = .ok (.lmul, 1) := by decide +kernel
theorem rX7_mixMember_298 {R : zP} {x0 x1 x2 x3 x4 x5 x6 x7 : Option zV} {st : List zV} {M : zM} {a b : Int} : uX7_mixMember R 298 [x0, x1, x2, x3, x4, x5, x6, x7] (.inr (.inl b) :: .inr (.inl a) :: st) M ↔ uX7_mixMember R 299 [x0, x1, x2, x3, x4, x5, x6, x7] (.inr (.inl (a * b)) :: st) M := zU_step dX7_mixMember_298 (Or.inl rfl)
theorem dX7_mixMember_299 : decode cX7_mixMember 299 = .ok (.aload_n 0, 1) := by decide +kernel
theorem rX7_mixMember_299 {R : zP} {x1 x2 x3 x4 x5 x6 x7 : Option zV} {st : List zV} {M : zM} {a : Nat} : uX7_mixMember R 299 [some (.inr (.inr a)), x1, x2, x3, x4, x5, x6, x7] st M ↔ uX7_mixMember R 300 [some (.inr (.inr a)), x1, x2, x3, x4, x5, x6, x7] (.inr (.inr a) :: st) M := zU_step dX7_mixMember_299 (Or.inl rfl)
theorem dX7_mixMember_300 : decode cX7_mixMember 300 = .ok (.iload_n 3, 1) := by decide +kernel
theorem rX7_mixMember_300 {R : zP} {x0 x1 x2 x4 x5 x6 x7 : Option zV} {st : List zV} {M : zM} {a : Int} : uX7_mixMember R 300 [x0, x1, x2, some (.inl a), x4, x5, x6, x7] st M ↔ uX7_mixMember R 301 [x0, x1, x2, some (.inl a), x4, x5, x6, x7] (.inl a :: st) M := zU_step dX7_mixMember_300 (Or.inl rfl)
theorem dX7_mixMember_301 : decode cX7_mixMember 301 = .ok (.invokevirtual 428, 3) := by decide +kernel
theorem rX7_mixMember_301 {R : zP} {x0 x1 x2 x3 x4 x5 x6 x7 : Option zV} {st : List zV} {M : zM} {a0 a1 : zV} : uX7_mixMember R 301 [x0, x1, x2, x3, x4, x5, x6, x7] (a1 :: a0 :: st) M ↔ (st.length ≤ 4 ∧ zcv (zv 7 tX7_sort) [a0, a1] M (fun v M => uX7_mixMember R 304 [x0, x1, x2, x3, x4, x5, x6, x7] (v :: st) M)) := Iff.trans (zU_step dX7_mixMember_301 (Or.inl rfl)) ⟨fun h => ⟨h.2.1, zcv_of h.2.2⟩, fun h => ⟨rfl, h.1, zcv_to h.2⟩⟩
theorem dX7_mixMember_304 : decode cX7_mixMember 304 = .ok (.i2l, 1) := by decide +kernel
theorem rX7_mixMember_304 {R : zP} {x0 x1 x2 x3 x4 x5 x6 x7 : Option zV} {st : List zV} {M : zM} {a : Int} : uX7_mixMember R 304 [x0, x1, x2, x3, x4, x5, x6, x7] (.inl a :: st) M ↔ (zIR a ∧ uX7_mixMember R 305 [x0, x1, x2, x3, x4, x5, x6, x7] (.inr (.inl a) :: st) M) := zU_step dX7_mixMember_304 (Or.inl rfl)
theorem dX7_mixMember_305 : decode cX7_mixMember 305 = .ok (.ladd, 1) := by decide +kernel
theorem rX7_mixMember_305 {R : zP} {x0 x1 x2 x3 x4 x5 x6 x7 : Option zV} {st : List zV} {M : zM} {a b : Int} : uX7_mixMember R 305 [x0, x1, x2, x3, x4, x5, x6, x7] (.inr (.inl b) :: .inr (.inl a) :: st) M ↔ uX7_mixMember R 306 [x0, x1, x2, x3, x4, x5, x6, x7] (.inr (.inl (a + b)) :: st) M := zU_step dX7_mixMember_305 (Or.inl rfl)
theorem dX7_mixMember_306 : decode cX7_mixMember 306 = .ok (.lreturn, 1) := by decide +kernel
theorem rX7_mixMember_306 {R : zP} {x0 x1 x2 x3 x4 x5 x6 x7 : Option zV} {M : zM} {a : Int} : uX7_mixMember R 306 [x0, x1, x2, x3, x4, x5, x6, x7] [.inr (.inl a)] M ↔ R (some (.inr (.inl a))) M := Iff.trans (zU_step dX7_mixMember_306 (Or.inl rfl)) ⟨fun h => h.2.2, fun h => ⟨rfl, rfl, h⟩⟩
theorem eX7_mixMember {R : zP} {M : zM} {a0 : Nat} {p0 : Int} {p1 : Int} : tX7_mixMember [.inr (.inr a0), .inr (.inl p0), .inl p1] M R ↔ uX7_mixMember R 0 [some (.inr (.inr a0)), some (.inr (.inl p0)), none, some (.inl p1), none, none, none, none] [] M := ⟨fun h => h.2, fun h => ⟨show 4 ≤ 8 by decide, h⟩⟩
def uX7_mixQuestion (R : zP) : zK := zU fX7 vX7_mixQuestion cX7_mixQuestion R
theorem dX7_mixQuestion_0 : decode cX7_mixQuestion 0 = .ok (.lload_n 1, 1) := by decide +kernel
theorem rX7_mixQuestion_0 {R : zP} {x0 x2 x3 x4 x5 x6 : Option zV} {st : List zV} {M : zM} {a : Int} : uX7_mixQuestion R 0 [x0, some (.inr (.inl a)), x2, x3, x4, x5, x6] st M ↔ uX7_mixQuestion R 1 [x0, some (.inr (.inl a)), x2, x3, x4, x5, x6] (.inr (.inl a) :: st) M := zU_step dX7_mixQuestion_0 (Or.inl rfl)
theorem dX7_mixQuestion_1 : decode cX7_mixQuestion 1 = .ok (.lstore 4, 2) := by decide +kernel
theorem rX7_mixQuestion_1 {R : zP} {x0 x1 x2 x4 x5 x6 : Option zV} {st : List zV} {M : zM} {a : Int} {y : Int} : uX7_mixQuestion R 1 [x0, x1, x2, some (.inl y), x4, x5, x6] (.inr (.inl a) :: st) M ↔ uX7_mixQuestion R 3 [x0, x1, x2, some (.inl y), some (.inr (.inl a)), none, x6] st M := Iff.trans (zU_step dX7_mixQuestion_1 (Or.inl rfl)) ⟨fun h => h.2, fun h => ⟨show 4 + 1 < 7 by decide, h⟩⟩
theorem rX7_mixQuestion_1z {R : zP} {x0 x1 x2 x3 x4 x5 x6 : Option zV} {st : List zV} {M : zM} {a : Int} : uX7_mixQuestion R 1 [x0, x1, x2, x3, x4, x5, x6] (.inr (.inl a) :: st) M ↔ uX7_mixQuestion R 3 [x0, x1, x2, zkeep x3, some (.inr (.inl a)), none, x6] st M := Iff.trans (zU_step dX7_mixQuestion_1 (Or.inl rfl)) ⟨fun h => h.2, fun h => ⟨show 4 + 1 < 7 by decide, h⟩⟩
theorem dX7_mixQuestion_3 : decode cX7_mixQuestion 3 = .ok (.iconst 0, 1) := by decide +kernel
theorem rX7_mixQuestion_3 {R : zP} {x0 x1 x2 x3 x4 x5 x6 : Option zV} {st : List zV} {M : zM} : uX7_mixQuestion R 3 [x0, x1, x2, x3, x4, x5, x6] st M ↔ uX7_mixQuestion R 4 [x0, x1, x2, x3, x4, x5, x6] (.inl (0) :: st) M := zU_step dX7_mixQuestion_3 (Or.inl rfl)
theorem dX7_mixQuestion_4 : decode cX7_mixQuestion 4 = .ok (.istore 6, 2) := by decide +kernel
theorem rX7_mixQuestion_4 {R : zP} {x0 x1 x2 x3 x4 x6 : Option zV} {st : List zV} {M : zM} {a : Int} : uX7_mixQuestion R 4 [x0, x1, x2, x3, x4, none, x6] (.inl a :: st) M ↔ uX7_mixQuestion R 6 [x0, x1, x2, x3, x4, none, some (.inl a)] st M := Iff.trans (zU_step dX7_mixQuestion_4 (Or.inl rfl)) ⟨fun h => h.2, fun h => ⟨show 6 < 7 by decide, h⟩⟩
theorem rX7_mixQuestion_4z {R : zP} {x0 x1 x2 x3 x4 x5 x6 : Option zV} {st : List zV} {M : zM} {a : Int} : uX7_mixQuestion R 4 [x0, x1, x2, x3, x4, x5, x6] (.inl a :: st) M ↔ uX7_mixQuestion R 6 [x0, x1, x2, x3, x4, zkeep x5, some (.inl a)] st M := Iff.trans (zU_step dX7_mixQuestion_4 (Or.inl rfl)) ⟨fun h => h.2, fun h => ⟨show 6 < 7 by decide, h⟩⟩
theorem dX7_mixQuestion_6 : decode cX7_mixQuestion 6 = .ok (.iload 6, 2) := by decide +kernel
theorem rX7_mixQuestion_6 {R : zP} {x0 x1 x2 x3 x4 x5 : Option zV} {st : List zV} {M : zM} {a : Int} : uX7_mixQuestion R 6 [x0, x1, x2, x3, x4, x5, some (.inl a)] st M ↔ uX7_mixQuestion R 8 [x0, x1, x2, x3, x4, x5, some (.inl a)] (.inl a :: st) M := zU_step dX7_mixQuestion_6 (Or.inl rfl)
theorem dX7_mixQuestion_8 : decode cX7_mixQuestion 8 = .ok (.iconst 3, 1) := by decide +kernel
theorem rX7_mixQuestion_8 {R : zP} {x0 x1 x2 x3 x4 x5 x6 : Option zV} {st : List zV} {M : zM} : uX7_mixQuestion R 8 [x0, x1, x2, x3, x4, x5, x6] st M ↔ uX7_mixQuestion R 9 [x0, x1, x2, x3, x4, x5, x6] (.inl (3) :: st) M := zU_step dX7_mixQuestion_8 (Or.inl rfl)
theorem dX7_mixQuestion_9 : decode cX7_mixQuestion 9 = .ok (.if_icmp .ge 28, 3) := by decide +kernel
theorem rX7_mixQuestion_9 {R : zP} {x0 x1 x2 x3 x4 x5 x6 : Option zV} {st : List zV} {M : zM} {a b : Int} : uX7_mixQuestion R 9 [x0, x1, x2, x3, x4, x5, x6] (.inl b :: .inl a :: st) M ↔ ((zIR a ∧ zIR b) ∧ if b ≤ a then uX7_mixQuestion R 37 [x0, x1, x2, x3, x4, x5, x6] st M else uX7_mixQuestion R 12 [x0, x1, x2, x3, x4, x5, x6] st M) := Iff.trans (zU_step dX7_mixQuestion_9 (Or.inl rfl)) ⟨fun h => ⟨⟨h.1.1, h.1.2.1⟩, (zite (c := b ≤ a)).mpr h.2⟩, fun h => ⟨⟨h.1.1, h.1.2, by decide⟩, (zite (c := b ≤ a)).mp h.2⟩⟩
theorem dX7_mixQuestion_12 : decode cX7_mixQuestion 12 = .ok (.ldc2_w 322, 3) := by decide +kernel
theorem rX7_mixQuestion_12 {R : zP} {x0 x1 x2 x3 x4 x5 x6 : Option zV} {st : List zV} {M : zM} : uX7_mixQuestion R 12 [x0, x1, x2, x3, x4, x5, x6] st M ↔ uX7_mixQuestion R 15 [x0, x1, x2, x3, x4, x5, x6] (.inr (.inl (31)) :: st) M := zU_step dX7_mixQuestion_12 (Or.inl rfl)
theorem dX7_mixQuestion_15 : decode cX7_mixQuestion 15 = .ok (.lload 4, 2) := by decide +kernel
theorem rX7_mixQuestion_15 {R : zP} {x0 x1 x2 x3 x5 x6 : Option zV} {st : List zV} {M : zM} {a : Int} : uX7_mixQuestion R 15 [x0, x1, x2, x3, some (.inr (.inl a)), x5, x6] st M ↔ uX7_mixQuestion R 17 [x0, x1, x2, x3, some (.inr (.inl a)), x5, x6] (.inr (.inl a) :: st) M := zU_step dX7_mixQuestion_15 (Or.inl rfl)
theorem dX7_mixQuestion_17 : decode cX7_mixQuestion 17 = .ok (.lmul, 1) := by decide +kernel
theorem rX7_mixQuestion_17 {R : zP} {x0 x1 x2 x3 x4 x5 x6 : Option zV} {st : List zV} {M : zM} {a b : Int} : uX7_mixQuestion R 17 [x0, x1, x2, x3, x4, x5, x6] (.inr (.inl b) :: .inr (.inl a) :: st) M ↔ uX7_mixQuestion R 18 [x0, x1, x2, x3, x4, x5, x6] (.inr (.inl (a * b)) :: st) M := zU_step dX7_mixQuestion_17 (Or.inl rfl)
theorem dX7_mixQuestion_18 : decode cX7_mixQuestion 18 = .ok (.aload_n 0, 1) := by decide +kernel
theorem rX7_mixQuestion_18 {R : zP} {x1 x2 x3 x4 x5 x6 : Option zV} {st : List zV} {M : zM} {a : Nat} : uX7_mixQuestion R 18 [some (.inr (.inr a)), x1, x2, x3, x4, x5, x6] st M ↔ uX7_mixQuestion R 19 [some (.inr (.inr a)), x1, x2, x3, x4, x5, x6] (.inr (.inr a) :: st) M := zU_step dX7_mixQuestion_18 (Or.inl rfl)
theorem dX7_mixQuestion_19 : decode cX7_mixQuestion 19 = .ok (.bipush 6, 2) := by decide +kernel
theorem rX7_mixQuestion_19 {R : zP} {x0 x1 x2 x3 x4 x5 x6 : Option zV} {st : List zV} {M : zM} : uX7_mixQuestion R 19 [x0, x1, x2, x3, x4, x5, x6] st M ↔ uX7_mixQuestion R 21 [x0, x1, x2, x3, x4, x5, x6] (.inl (6) :: st) M := Iff.trans (zU_step dX7_mixQuestion_19 (Or.inl rfl)) ⟨fun h => h.2, fun h => ⟨by decide, h⟩⟩
theorem dX7_mixQuestion_21 : decode cX7_mixQuestion 21 = .ok (.iload_n 3, 1) := by decide +kernel
theorem rX7_mixQuestion_21 {R : zP} {x0 x1 x2 x4 x5 x6 : Option zV} {st : List zV} {M : zM} {a : Int} : uX7_mixQuestion R 21 [x0, x1, x2, some (.inl a), x4, x5, x6] st M ↔ uX7_mixQuestion R 22 [x0, x1, x2, some (.inl a), x4, x5, x6] (.inl a :: st) M := zU_step dX7_mixQuestion_21 (Or.inl rfl)
theorem dX7_mixQuestion_22 : decode cX7_mixQuestion 22 = .ok (.iload 6, 2) := by decide +kernel
theorem rX7_mixQuestion_22 {R : zP} {x0 x1 x2 x3 x4 x5 : Option zV} {st : List zV} {M : zM} {a : Int} : uX7_mixQuestion R 22 [x0, x1, x2, x3, x4, x5, some (.inl a)] st M ↔ uX7_mixQuestion R 24 [x0, x1, x2, x3, x4, x5, some (.inl a)] (.inl a :: st) M := zU_step dX7_mixQuestion_22 (Or.inl rfl)
theorem dX7_mixQuestion_24 : decode cX7_mixQuestion 24 = .ok (.invokevirtual 431, 3) := by decide +kernel
theorem rX7_mixQuestion_24 {R : zP} {x0 x1 x2 x3 x4 x5 x6 : Option zV} {st : List zV} {M : zM} {a0 a1 a2 a3 : zV} : uX7_mixQuestion R 24 [x0, x1, x2, x3, x4, x5, x6] (a3 :: a2 :: a1 :: a0 :: st) M ↔ (st.length ≤ 4 ∧ zcv (zv 7 tX7_house) [a0, a1, a2, a3] M (fun v M => uX7_mixQuestion R 27 [x0, x1, x2, x3, x4, x5, x6] (v :: st) M)) := Iff.trans (zU_step dX7_mixQuestion_24 (Or.inl rfl)) ⟨fun h => ⟨h.2.1, zcv_of h.2.2⟩, fun h => ⟨rfl, h.1, zcv_to h.2⟩⟩
theorem dX7_mixQuestion_27 : decode cX7_mixQuestion 27 = .ok (.i2l, 1) := by decide +kernel
theorem rX7_mixQuestion_27 {R : zP} {x0 x1 x2 x3 x4 x5 x6 : Option zV} {st : List zV} {M : zM} {a : Int} : uX7_mixQuestion R 27 [x0, x1, x2, x3, x4, x5, x6] (.inl a :: st) M ↔ (zIR a ∧ uX7_mixQuestion R 28 [x0, x1, x2, x3, x4, x5, x6] (.inr (.inl a) :: st) M) := zU_step dX7_mixQuestion_27 (Or.inl rfl)
theorem dX7_mixQuestion_28 : decode cX7_mixQuestion 28 = .ok (.ladd, 1) := by decide +kernel
theorem rX7_mixQuestion_28 {R : zP} {x0 x1 x2 x3 x4 x5 x6 : Option zV} {st : List zV} {M : zM} {a b : Int} : uX7_mixQuestion R 28 [x0, x1, x2, x3, x4, x5, x6] (.inr (.inl b) :: .inr (.inl a) :: st) M ↔ uX7_mixQuestion R 29 [x0, x1, x2, x3, x4, x5, x6] (.inr (.inl (a + b)) :: st) M := zU_step dX7_mixQuestion_28 (Or.inl rfl)
theorem dX7_mixQuestion_29 : decode cX7_mixQuestion 29 = .ok (.lstore 4, 2) := by decide +kernel
theorem rX7_mixQuestion_29 {R : zP} {x0 x1 x2 x4 x5 x6 : Option zV} {st : List zV} {M : zM} {a : Int} {y : Int} : uX7_mixQuestion R 29 [x0, x1, x2, some (.inl y), x4, x5, x6] (.inr (.inl a) :: st) M ↔ uX7_mixQuestion R 31 [x0, x1, x2, some (.inl y), some (.inr (.inl a)), none, x6] st M := Iff.trans (zU_step dX7_mixQuestion_29 (Or.inl rfl)) ⟨fun h => h.2, fun h => ⟨show 4 + 1 < 7 by decide, h⟩⟩
theorem rX7_mixQuestion_29z {R : zP} {x0 x1 x2 x3 x4 x5 x6 : Option zV} {st : List zV} {M : zM} {a : Int} : uX7_mixQuestion R 29 [x0, x1, x2, x3, x4, x5, x6] (.inr (.inl a) :: st) M ↔ uX7_mixQuestion R 31 [x0, x1, x2, zkeep x3, some (.inr (.inl a)), none, x6] st M := Iff.trans (zU_step dX7_mixQuestion_29 (Or.inl rfl)) ⟨fun h => h.2, fun h => ⟨show 4 + 1 < 7 by decide, h⟩⟩
theorem dX7_mixQuestion_31 : decode cX7_mixQuestion 31 = .ok (.iinc 6 1, 3) := by decide +kernel
theorem rX7_mixQuestion_31 {R : zP} {x0 x1 x2 x3 x4 : Option zV} {st : List zV} {M : zM} {a : Int} : uX7_mixQuestion R 31 [x0, x1, x2, x3, x4, none, some (.inl a)] st M ↔ uX7_mixQuestion R 34 [x0, x1, x2, x3, x4, none, some (.inl (a + (1)))] st M := Iff.trans (zU_step dX7_mixQuestion_31 (Or.inl rfl)) ⟨fun h => h.2, fun h => ⟨show 6 < 7 by decide, h⟩⟩
theorem rX7_mixQuestion_31z {R : zP} {x0 x1 x2 x3 x4 x5 : Option zV} {st : List zV} {M : zM} {a : Int} : uX7_mixQuestion R 31 [x0, x1, x2, x3, x4, x5, some (.inl a)] st M ↔ uX7_mixQuestion R 34 [x0, x1, x2, x3, x4, zkeep x5, some (.inl (a + (1)))] st M := Iff.trans (zU_step dX7_mixQuestion_31 (Or.inl rfl)) ⟨fun h => h.2, fun h => ⟨show 6 < 7 by decide, h⟩⟩
theorem dX7_mixQuestion_34 : decode cX7_mixQuestion 34 = .ok (.goto (-28), 3) := by decide +kernel
theorem rX7_mixQuestion_34 {R : zP} {x0 x1 x2 x3 x4 x5 x6 : Option zV} {st : List zV} {M : zM} : uX7_mixQuestion R 34 [x0, x1, x2, x3, x4, x5, x6] st M ↔ uX7_mixQuestion R 6 [x0, x1, x2, x3, x4, x5, x6] st M := Iff.trans (zU_step dX7_mixQuestion_34 (Or.inl rfl)) ⟨fun h => h.2, fun h => ⟨by decide, h⟩⟩
theorem dX7_mixQuestion_37 : decode cX7_mixQuestion 37 = .ok (.iconst 0, 1) := by decide +kernel
theorem rX7_mixQuestion_37 {R : zP} {x0 x1 x2 x3 x4 x5 x6 : Option zV} {st : List zV} {M : zM} : uX7_mixQuestion R 37 [x0, x1, x2, x3, x4, x5, x6] st M ↔ uX7_mixQuestion R 38 [x0, x1, x2, x3, x4, x5, x6] (.inl (0) :: st) M := zU_step dX7_mixQuestion_37 (Or.inl rfl)
theorem dX7_mixQuestion_38 : decode cX7_mixQuestion 38 = .ok (.istore 6, 2) := by decide +kernel
theorem rX7_mixQuestion_38 {R : zP} {x0 x1 x2 x3 x4 x6 : Option zV} {st : List zV} {M : zM} {a : Int} : uX7_mixQuestion R 38 [x0, x1, x2, x3, x4, none, x6] (.inl a :: st) M ↔ uX7_mixQuestion R 40 [x0, x1, x2, x3, x4, none, some (.inl a)] st M := Iff.trans (zU_step dX7_mixQuestion_38 (Or.inl rfl)) ⟨fun h => h.2, fun h => ⟨show 6 < 7 by decide, h⟩⟩
theorem rX7_mixQuestion_38z {R : zP} {x0 x1 x2 x3 x4 x5 x6 : Option zV} {st : List zV} {M : zM} {a : Int} : uX7_mixQuestion R 38 [x0, x1, x2, x3, x4, x5, x6] (.inl a :: st) M ↔ uX7_mixQuestion R 40 [x0, x1, x2, x3, x4, zkeep x5, some (.inl a)] st M := Iff.trans (zU_step dX7_mixQuestion_38 (Or.inl rfl)) ⟨fun h => h.2, fun h => ⟨show 6 < 7 by decide, h⟩⟩
theorem dX7_mixQuestion_40 : decode cX7_mixQuestion 40 = .ok (.iload 6, 2) := by decide +kernel
theorem rX7_mixQuestion_40 {R : zP} {x0 x1 x2 x3 x4 x5 : Option zV} {st : List zV} {M : zM} {a : Int} : uX7_mixQuestion R 40 [x0, x1, x2, x3, x4, x5, some (.inl a)] st M ↔ uX7_mixQuestion R 42 [x0, x1, x2, x3, x4, x5, some (.inl a)] (.inl a :: st) M := zU_step dX7_mixQuestion_40 (Or.inl rfl)
theorem dX7_mixQuestion_42 : decode cX7_mixQuestion 42 = .ok (.iconst 3, 1) := by decide +kernel
theorem rX7_mixQuestion_42 {R : zP} {x0 x1 x2 x3 x4 x5 x6 : Option zV} {st : List zV} {M : zM} : uX7_mixQuestion R 42 [x0, x1, x2, x3, x4, x5, x6] st M ↔ uX7_mixQuestion R 43 [x0, x1, x2, x3, x4, x5, x6] (.inl (3) :: st) M := zU_step dX7_mixQuestion_42 (Or.inl rfl)
theorem dX7_mixQuestion_43 : decode cX7_mixQuestion 43 = .ok (.if_icmp .ge 28, 3) := by decide +kernel
theorem rX7_mixQuestion_43 {R : zP} {x0 x1 x2 x3 x4 x5 x6 : Option zV} {st : List zV} {M : zM} {a b : Int} : uX7_mixQuestion R 43 [x0, x1, x2, x3, x4, x5, x6] (.inl b :: .inl a :: st) M ↔ ((zIR a ∧ zIR b) ∧ if b ≤ a then uX7_mixQuestion R 71 [x0, x1, x2, x3, x4, x5, x6] st M else uX7_mixQuestion R 46 [x0, x1, x2, x3, x4, x5, x6] st M) := Iff.trans (zU_step dX7_mixQuestion_43 (Or.inl rfl)) ⟨fun h => ⟨⟨h.1.1, h.1.2.1⟩, (zite (c := b ≤ a)).mpr h.2⟩, fun h => ⟨⟨h.1.1, h.1.2, by decide⟩, (zite (c := b ≤ a)).mp h.2⟩⟩
theorem dX7_mixQuestion_46 : decode cX7_mixQuestion 46 = .ok (.ldc2_w 322, 3) := by decide +kernel
theorem rX7_mixQuestion_46 {R : zP} {x0 x1 x2 x3 x4 x5 x6 : Option zV} {st : List zV} {M : zM} : uX7_mixQuestion R 46 [x0, x1, x2, x3, x4, x5, x6] st M ↔ uX7_mixQuestion R 49 [x0, x1, x2, x3, x4, x5, x6] (.inr (.inl (31)) :: st) M := zU_step dX7_mixQuestion_46 (Or.inl rfl)
theorem dX7_mixQuestion_49 : decode cX7_mixQuestion 49 = .ok (.lload 4, 2) := by decide +kernel
theorem rX7_mixQuestion_49 {R : zP} {x0 x1 x2 x3 x5 x6 : Option zV} {st : List zV} {M : zM} {a : Int} : uX7_mixQuestion R 49 [x0, x1, x2, x3, some (.inr (.inl a)), x5, x6] st M ↔ uX7_mixQuestion R 51 [x0, x1, x2, x3, some (.inr (.inl a)), x5, x6] (.inr (.inl a) :: st) M := zU_step dX7_mixQuestion_49 (Or.inl rfl)
theorem dX7_mixQuestion_51 : decode cX7_mixQuestion 51 = .ok (.lmul, 1) := by decide +kernel
theorem rX7_mixQuestion_51 {R : zP} {x0 x1 x2 x3 x4 x5 x6 : Option zV} {st : List zV} {M : zM} {a b : Int} : uX7_mixQuestion R 51 [x0, x1, x2, x3, x4, x5, x6] (.inr (.inl b) :: .inr (.inl a) :: st) M ↔ uX7_mixQuestion R 52 [x0, x1, x2, x3, x4, x5, x6] (.inr (.inl (a * b)) :: st) M := zU_step dX7_mixQuestion_51 (Or.inl rfl)
theorem dX7_mixQuestion_52 : decode cX7_mixQuestion 52 = .ok (.aload_n 0, 1) := by decide +kernel
theorem rX7_mixQuestion_52 {R : zP} {x1 x2 x3 x4 x5 x6 : Option zV} {st : List zV} {M : zM} {a : Nat} : uX7_mixQuestion R 52 [some (.inr (.inr a)), x1, x2, x3, x4, x5, x6] st M ↔ uX7_mixQuestion R 53 [some (.inr (.inr a)), x1, x2, x3, x4, x5, x6] (.inr (.inr a) :: st) M := zU_step dX7_mixQuestion_52 (Or.inl rfl)
theorem dX7_mixQuestion_53 : decode cX7_mixQuestion 53 = .ok (.bipush 19, 2) := by decide +kernel
theorem rX7_mixQuestion_53 {R : zP} {x0 x1 x2 x3 x4 x5 x6 : Option zV} {st : List zV} {M : zM} : uX7_mixQuestion R 53 [x0, x1, x2, x3, x4, x5, x6] st M ↔ uX7_mixQuestion R 55 [x0, x1, x2, x3, x4, x5, x6] (.inl (19) :: st) M := Iff.trans (zU_step dX7_mixQuestion_53 (Or.inl rfl)) ⟨fun h => h.2, fun h => ⟨by decide, h⟩⟩
theorem dX7_mixQuestion_55 : decode cX7_mixQuestion 55 = .ok (.iload_n 3, 1) := by decide +kernel
theorem rX7_mixQuestion_55 {R : zP} {x0 x1 x2 x4 x5 x6 : Option zV} {st : List zV} {M : zM} {a : Int} : uX7_mixQuestion R 55 [x0, x1, x2, some (.inl a), x4, x5, x6] st M ↔ uX7_mixQuestion R 56 [x0, x1, x2, some (.inl a), x4, x5, x6] (.inl a :: st) M := zU_step dX7_mixQuestion_55 (Or.inl rfl)
theorem dX7_mixQuestion_56 : decode cX7_mixQuestion 56 = .ok (.iload 6, 2) := by decide +kernel
theorem rX7_mixQuestion_56 {R : zP} {x0 x1 x2 x3 x4 x5 : Option zV} {st : List zV} {M : zM} {a : Int} : uX7_mixQuestion R 56 [x0, x1, x2, x3, x4, x5, some (.inl a)] st M ↔ uX7_mixQuestion R 58 [x0, x1, x2, x3, x4, x5, some (.inl a)] (.inl a :: st) M := zU_step dX7_mixQuestion_56 (Or.inl rfl)
theorem dX7_mixQuestion_58 : decode cX7_mixQuestion 58 = .ok (.invokevirtual 431, 3) := by decide +kernel
theorem rX7_mixQuestion_58 {R : zP} {x0 x1 x2 x3 x4 x5 x6 : Option zV} {st : List zV} {M : zM} {a0 a1 a2 a3 : zV} : uX7_mixQuestion R 58 [x0, x1, x2, x3, x4, x5, x6] (a3 :: a2 :: a1 :: a0 :: st) M ↔ (st.length ≤ 4 ∧ zcv (zv 7 tX7_house) [a0, a1, a2, a3] M (fun v M => uX7_mixQuestion R 61 [x0, x1, x2, x3, x4, x5, x6] (v :: st) M)) := Iff.trans (zU_step dX7_mixQuestion_58 (Or.inl rfl)) ⟨fun h => ⟨h.2.1, zcv_of h.2.2⟩, fun h => ⟨rfl, h.1, zcv_to h.2⟩⟩
theorem dX7_mixQuestion_61 : decode cX7_mixQuestion 61 = .ok (.i2l, 1) := by decide +kernel
theorem rX7_mixQuestion_61 {R : zP} {x0 x1 x2 x3 x4 x5 x6 : Option zV} {st : List zV} {M : zM} {a : Int} : uX7_mixQuestion R 61 [x0, x1, x2, x3, x4, x5, x6] (.inl a :: st) M ↔ (zIR a ∧ uX7_mixQuestion R 62 [x0, x1, x2, x3, x4, x5, x6] (.inr (.inl a) :: st) M) := zU_step dX7_mixQuestion_61 (Or.inl rfl)
theorem dX7_mixQuestion_62 : decode cX7_mixQuestion 62 = .ok (.ladd, 1) := by decide +kernel
theorem rX7_mixQuestion_62 {R : zP} {x0 x1 x2 x3 x4 x5 x6 : Option zV} {st : List zV} {M : zM} {a b : Int} : uX7_mixQuestion R 62 [x0, x1, x2, x3, x4, x5, x6] (.inr (.inl b) :: .inr (.inl a) :: st) M ↔ uX7_mixQuestion R 63 [x0, x1, x2, x3, x4, x5, x6] (.inr (.inl (a + b)) :: st) M := zU_step dX7_mixQuestion_62 (Or.inl rfl)
theorem dX7_mixQuestion_63 : decode cX7_mixQuestion 63 = .ok (.lstore 4, 2) := by decide +kernel
theorem rX7_mixQuestion_63 {R : zP} {x0 x1 x2 x4 x5 x6 : Option zV} {st : List zV} {M : zM} {a : Int} {y : Int} : uX7_mixQuestion R 63 [x0, x1, x2, some (.inl y), x4, x5, x6] (.inr (.inl a) :: st) M ↔ uX7_mixQuestion R 65 [x0, x1, x2, some (.inl y), some (.inr (.inl a)), none, x6] st M := Iff.trans (zU_step dX7_mixQuestion_63 (Or.inl rfl)) ⟨fun h => h.2, fun h => ⟨show 4 + 1 < 7 by decide, h⟩⟩
theorem rX7_mixQuestion_63z {R : zP} {x0 x1 x2 x3 x4 x5 x6 : Option zV} {st : List zV} {M : zM} {a : Int} : uX7_mixQuestion R 63 [x0, x1, x2, x3, x4, x5, x6] (.inr (.inl a) :: st) M ↔ uX7_mixQuestion R 65 [x0, x1, x2, zkeep x3, some (.inr (.inl a)), none, x6] st M := Iff.trans (zU_step dX7_mixQuestion_63 (Or.inl rfl)) ⟨fun h => h.2, fun h => ⟨show 4 + 1 < 7 by decide, h⟩⟩
theorem dX7_mixQuestion_65 : decode cX7_mixQuestion 65 = .ok (.iinc 6 1, 3) := by decide +kernel
theorem rX7_mixQuestion_65 {R : zP} {x0 x1 x2 x3 x4 : Option zV} {st : List zV} {M : zM} {a : Int} : uX7_mixQuestion R 65 [x0, x1, x2, x3, x4, none, some (.inl a)] st M ↔ uX7_mixQuestion R 68 [x0, x1, x2, x3, x4, none, some (.inl (a + (1)))] st M := Iff.trans (zU_step dX7_mixQuestion_65 (Or.inl rfl)) ⟨fun h => h.2, fun h => ⟨show 6 < 7 by decide, h⟩⟩
theorem rX7_mixQuestion_65z {R : zP} {x0 x1 x2 x3 x4 x5 : Option zV} {st : List zV} {M : zM} {a : Int} : uX7_mixQuestion R 65 [x0, x1, x2, x3, x4, x5, some (.inl a)] st M ↔ uX7_mixQuestion R 68 [x0, x1, x2, x3, x4, zkeep x5, some (.inl (a + (1)))] st M := Iff.trans (zU_step dX7_mixQuestion_65 (Or.inl rfl)) ⟨fun h => h.2, fun h => ⟨show 6 < 7 by decide, h⟩⟩
theorem dX7_mixQuestion_68 : decode cX7_mixQuestion 68 = .ok (.goto (-28), 3) := by decide +kernel
theorem rX7_mixQuestion_68 {R : zP} {x0 x1 x2 x3 x4 x5 x6 : Option zV} {st : List zV} {M : zM} : uX7_mixQuestion R 68 [x0, x1, x2, x3, x4, x5, x6] st M ↔ uX7_mixQuestion R 40 [x0, x1, x2, x3, x4, x5, x6] st M := Iff.trans (zU_step dX7_mixQuestion_68 (Or.inl rfl)) ⟨fun h => h.2, fun h => ⟨by decide, h⟩⟩
theorem dX7_mixQuestion_71 : decode cX7_mixQuestion 71 = .ok (.ldc2_w 322, 3) := by decide +kernel
theorem rX7_mixQuestion_71 {R : zP} {x0 x1 x2 x3 x4 x5 x6 : Option zV} {st : List zV} {M : zM} : uX7_mixQuestion R 71 [x0, x1, x2, x3, x4, x5, x6] st M ↔ uX7_mixQuestion R 74 [x0, x1, x2, x3, x4, x5, x6] (.inr (.inl (31)) :: st) M := zU_step dX7_mixQuestion_71 (Or.inl rfl)
theorem dX7_mixQuestion_74 : decode cX7_mixQuestion 74 = .ok (.lload 4, 2) := by decide +kernel
theorem rX7_mixQuestion_74 {R : zP} {x0 x1 x2 x3 x5 x6 : Option zV} {st : List zV} {M : zM} {a : Int} : uX7_mixQuestion R 74 [x0, x1, x2, x3, some (.inr (.inl a)), x5, x6] st M ↔ uX7_mixQuestion R 76 [x0, x1, x2, x3, some (.inr (.inl a)), x5, x6] (.inr (.inl a) :: st) M := zU_step dX7_mixQuestion_74 (Or.inl rfl)
theorem dX7_mixQuestion_76 : decode cX7_mixQuestion 76 = .ok (.lmul, 1) := by decide +kernel
theorem rX7_mixQuestion_76 {R : zP} {x0 x1 x2 x3 x4 x5 x6 : Option zV} {st : List zV} {M : zM} {a b : Int} : uX7_mixQuestion R 76 [x0, x1, x2, x3, x4, x5, x6] (.inr (.inl b) :: .inr (.inl a) :: st) M ↔ uX7_mixQuestion R 77 [x0, x1, x2, x3, x4, x5, x6] (.inr (.inl (a * b)) :: st) M := zU_step dX7_mixQuestion_76 (Or.inl rfl)
theorem dX7_mixQuestion_77 : decode cX7_mixQuestion 77 = .ok (.aload_n 0, 1) := by decide +kernel
theorem rX7_mixQuestion_77 {R : zP} {x1 x2 x3 x4 x5 x6 : Option zV} {st : List zV} {M : zM} {a : Nat} : uX7_mixQuestion R 77 [some (.inr (.inr a)), x1, x2, x3, x4, x5, x6] st M ↔ uX7_mixQuestion R 78 [some (.inr (.inr a)), x1, x2, x3, x4, x5, x6] (.inr (.inr a) :: st) M := zU_step dX7_mixQuestion_77 (Or.inl rfl)
theorem dX7_mixQuestion_78 : decode cX7_mixQuestion 78 = .ok (.iload_n 3, 1) := by decide +kernel
theorem rX7_mixQuestion_78 {R : zP} {x0 x1 x2 x4 x5 x6 : Option zV} {st : List zV} {M : zM} {a : Int} : uX7_mixQuestion R 78 [x0, x1, x2, some (.inl a), x4, x5, x6] st M ↔ uX7_mixQuestion R 79 [x0, x1, x2, some (.inl a), x4, x5, x6] (.inl a :: st) M := zU_step dX7_mixQuestion_78 (Or.inl rfl)
theorem dX7_mixQuestion_79 : decode cX7_mixQuestion 79 = .ok (.invokevirtual 434, 3) := by decide +kernel
theorem rX7_mixQuestion_79 {R : zP} {x0 x1 x2 x3 x4 x5 x6 : Option zV} {st : List zV} {M : zM} {a0 a1 : zV} : uX7_mixQuestion R 79 [x0, x1, x2, x3, x4, x5, x6] (a1 :: a0 :: st) M ↔ (st.length ≤ 4 ∧ zcv (zv 7 tX7_says) [a0, a1] M (fun v M => uX7_mixQuestion R 82 [x0, x1, x2, x3, x4, x5, x6] (v :: st) M)) := Iff.trans (zU_step dX7_mixQuestion_79 (Or.inl rfl)) ⟨fun h => ⟨h.2.1, zcv_of h.2.2⟩, fun h => ⟨rfl, h.1, zcv_to h.2⟩⟩
theorem dX7_mixQuestion_82 : decode cX7_mixQuestion 82 = .ok (.i2l, 1) := by decide +kernel
theorem rX7_mixQuestion_82 {R : zP} {x0 x1 x2 x3 x4 x5 x6 : Option zV} {st : List zV} {M : zM} {a : Int} : uX7_mixQuestion R 82 [x0, x1, x2, x3, x4, x5, x6] (.inl a :: st) M ↔ (zIR a ∧ uX7_mixQuestion R 83 [x0, x1, x2, x3, x4, x5, x6] (.inr (.inl a) :: st) M) := zU_step dX7_mixQuestion_82 (Or.inl rfl)
theorem dX7_mixQuestion_83 : decode cX7_mixQuestion 83 = .ok (.ladd, 1) := by decide +kernel
theorem rX7_mixQuestion_83 {R : zP} {x0 x1 x2 x3 x4 x5 x6 : Option zV} {st : List zV} {M : zM} {a b : Int} : uX7_mixQuestion R 83 [x0, x1, x2, x3, x4, x5, x6] (.inr (.inl b) :: .inr (.inl a) :: st) M ↔ uX7_mixQuestion R 84 [x0, x1, x2, x3, x4, x5, x6] (.inr (.inl (a + b)) :: st) M := zU_step dX7_mixQuestion_83 (Or.inl rfl)
theorem dX7_mixQuestion_84 : decode cX7_mixQuestion 84 = .ok (.lstore 4, 2) := by decide +kernel
theorem rX7_mixQuestion_84 {R : zP} {x0 x1 x2 x4 x5 x6 : Option zV} {st : List zV} {M : zM} {a : Int} {y : Int} : uX7_mixQuestion R 84 [x0, x1, x2, some (.inl y), x4, x5, x6] (.inr (.inl a) :: st) M ↔ uX7_mixQuestion R 86 [x0, x1, x2, some (.inl y), some (.inr (.inl a)), none, x6] st M := Iff.trans (zU_step dX7_mixQuestion_84 (Or.inl rfl)) ⟨fun h => h.2, fun h => ⟨show 4 + 1 < 7 by decide, h⟩⟩
theorem rX7_mixQuestion_84z {R : zP} {x0 x1 x2 x3 x4 x5 x6 : Option zV} {st : List zV} {M : zM} {a : Int} : uX7_mixQuestion R 84 [x0, x1, x2, x3, x4, x5, x6] (.inr (.inl a) :: st) M ↔ uX7_mixQuestion R 86 [x0, x1, x2, zkeep x3, some (.inr (.inl a)), none, x6] st M := Iff.trans (zU_step dX7_mixQuestion_84 (Or.inl rfl)) ⟨fun h => h.2, fun h => ⟨show 4 + 1 < 7 by decide, h⟩⟩
theorem dX7_mixQuestion_86 : decode cX7_mixQuestion 86 = .ok (.iconst 0, 1) := by decide +kernel
theorem rX7_mixQuestion_86 {R : zP} {x0 x1 x2 x3 x4 x5 x6 : Option zV} {st : List zV} {M : zM} : uX7_mixQuestion R 86 [x0, x1, x2, x3, x4, x5, x6] st M ↔ uX7_mixQuestion R 87 [x0, x1, x2, x3, x4, x5, x6] (.inl (0) :: st) M := zU_step dX7_mixQuestion_86 (Or.inl rfl)
theorem dX7_mixQuestion_87 : decode cX7_mixQuestion 87 = .ok (.istore 6, 2) := by decide +kernel
theorem rX7_mixQuestion_87 {R : zP} {x0 x1 x2 x3 x4 x6 : Option zV} {st : List zV} {M : zM} {a : Int} : uX7_mixQuestion R 87 [x0, x1, x2, x3, x4, none, x6] (.inl a :: st) M ↔ uX7_mixQuestion R 89 [x0, x1, x2, x3, x4, none, some (.inl a)] st M := Iff.trans (zU_step dX7_mixQuestion_87 (Or.inl rfl)) ⟨fun h => h.2, fun h => ⟨show 6 < 7 by decide, h⟩⟩
theorem rX7_mixQuestion_87z {R : zP} {x0 x1 x2 x3 x4 x5 x6 : Option zV} {st : List zV} {M : zM} {a : Int} : uX7_mixQuestion R 87 [x0, x1, x2, x3, x4, x5, x6] (.inl a :: st) M ↔ uX7_mixQuestion R 89 [x0, x1, x2, x3, x4, zkeep x5, some (.inl a)] st M := Iff.trans (zU_step dX7_mixQuestion_87 (Or.inl rfl)) ⟨fun h => h.2, fun h => ⟨show 6 < 7 by decide, h⟩⟩
theorem dX7_mixQuestion_89 : decode cX7_mixQuestion 89 = .ok (.iload 6, 2) := by decide +kernel
theorem rX7_mixQuestion_89 {R : zP} {x0 x1 x2 x3 x4 x5 : Option zV} {st : List zV} {M : zM} {a : Int} : uX7_mixQuestion R 89 [x0, x1, x2, x3, x4, x5, some (.inl a)] st M ↔ uX7_mixQuestion R 91 [x0, x1, x2, x3, x4, x5, some (.inl a)] (.inl a :: st) M := zU_step dX7_mixQuestion_89 (Or.inl rfl)
theorem dX7_mixQuestion_91 : decode cX7_mixQuestion 91 = .ok (.iconst 3, 1) := by decide +kernel
theorem rX7_mixQuestion_91 {R : zP} {x0 x1 x2 x3 x4 x5 x6 : Option zV} {st : List zV} {M : zM} : uX7_mixQuestion R 91 [x0, x1, x2, x3, x4, x5, x6] st M ↔ uX7_mixQuestion R 92 [x0, x1, x2, x3, x4, x5, x6] (.inl (3) :: st) M := zU_step dX7_mixQuestion_91 (Or.inl rfl)
theorem dX7_mixQuestion_92 : decode cX7_mixQuestion 92 = .ok (.if_icmp .ge 28, 3) := by decide +kernel
theorem rX7_mixQuestion_92 {R : zP} {x0 x1 x2 x3 x4 x5 x6 : Option zV} {st : List zV} {M : zM} {a b : Int} : uX7_mixQuestion R 92 [x0, x1, x2, x3, x4, x5, x6] (.inl b :: .inl a :: st) M ↔ ((zIR a ∧ zIR b) ∧ if b ≤ a then uX7_mixQuestion R 120 [x0, x1, x2, x3, x4, x5, x6] st M else uX7_mixQuestion R 95 [x0, x1, x2, x3, x4, x5, x6] st M) := Iff.trans (zU_step dX7_mixQuestion_92 (Or.inl rfl)) ⟨fun h => ⟨⟨h.1.1, h.1.2.1⟩, (zite (c := b ≤ a)).mpr h.2⟩, fun h => ⟨⟨h.1.1, h.1.2, by decide⟩, (zite (c := b ≤ a)).mp h.2⟩⟩
theorem dX7_mixQuestion_95 : decode cX7_mixQuestion 95 = .ok (.ldc2_w 322, 3) := by decide +kernel
theorem rX7_mixQuestion_95 {R : zP} {x0 x1 x2 x3 x4 x5 x6 : Option zV} {st : List zV} {M : zM} : uX7_mixQuestion R 95 [x0, x1, x2, x3, x4, x5, x6] st M ↔ uX7_mixQuestion R 98 [x0, x1, x2, x3, x4, x5, x6] (.inr (.inl (31)) :: st) M := zU_step dX7_mixQuestion_95 (Or.inl rfl)
theorem dX7_mixQuestion_98 : decode cX7_mixQuestion 98 = .ok (.lload 4, 2) := by decide +kernel
theorem rX7_mixQuestion_98 {R : zP} {x0 x1 x2 x3 x5 x6 : Option zV} {st : List zV} {M : zM} {a : Int} : uX7_mixQuestion R 98 [x0, x1, x2, x3, some (.inr (.inl a)), x5, x6] st M ↔ uX7_mixQuestion R 100 [x0, x1, x2, x3, some (.inr (.inl a)), x5, x6] (.inr (.inl a) :: st) M := zU_step dX7_mixQuestion_98 (Or.inl rfl)
theorem dX7_mixQuestion_100 : decode cX7_mixQuestion 100 = .ok (.lmul, 1) := by decide +kernel
theorem rX7_mixQuestion_100 {R : zP} {x0 x1 x2 x3 x4 x5 x6 : Option zV} {st : List zV} {M : zM} {a b : Int} : uX7_mixQuestion R 100 [x0, x1, x2, x3, x4, x5, x6] (.inr (.inl b) :: .inr (.inl a) :: st) M ↔ uX7_mixQuestion R 101 [x0, x1, x2, x3, x4, x5, x6] (.inr (.inl (a * b)) :: st) M := zU_step dX7_mixQuestion_100 (Or.inl rfl)
theorem dX7_mixQuestion_101 : decode cX7_mixQuestion 101 = .ok (.aload_n 0, 1) := by decide +kernel
theorem rX7_mixQuestion_101 {R : zP} {x1 x2 x3 x4 x5 x6 : Option zV} {st : List zV} {M : zM} {a : Nat} : uX7_mixQuestion R 101 [some (.inr (.inr a)), x1, x2, x3, x4, x5, x6] st M ↔ uX7_mixQuestion R 102 [some (.inr (.inr a)), x1, x2, x3, x4, x5, x6] (.inr (.inr a) :: st) M := zU_step dX7_mixQuestion_101 (Or.inl rfl)
theorem dX7_mixQuestion_102 : decode cX7_mixQuestion 102 = .ok (.bipush 8, 2) := by decide +kernel
theorem rX7_mixQuestion_102 {R : zP} {x0 x1 x2 x3 x4 x5 x6 : Option zV} {st : List zV} {M : zM} : uX7_mixQuestion R 102 [x0, x1, x2, x3, x4, x5, x6] st M ↔ uX7_mixQuestion R 104 [x0, x1, x2, x3, x4, x5, x6] (.inl (8) :: st) M := Iff.trans (zU_step dX7_mixQuestion_102 (Or.inl rfl)) ⟨fun h => h.2, fun h => ⟨by decide, h⟩⟩
theorem dX7_mixQuestion_104 : decode cX7_mixQuestion 104 = .ok (.iload_n 3, 1) := by decide +kernel
theorem rX7_mixQuestion_104 {R : zP} {x0 x1 x2 x4 x5 x6 : Option zV} {st : List zV} {M : zM} {a : Int} : uX7_mixQuestion R 104 [x0, x1, x2, some (.inl a), x4, x5, x6] st M ↔ uX7_mixQuestion R 105 [x0, x1, x2, some (.inl a), x4, x5, x6] (.inl a :: st) M := zU_step dX7_mixQuestion_104 (Or.inl rfl)
theorem dX7_mixQuestion_105 : decode cX7_mixQuestion 105 = .ok (.iload 6, 2) := by decide +kernel
theorem rX7_mixQuestion_105 {R : zP} {x0 x1 x2 x3 x4 x5 : Option zV} {st : List zV} {M : zM} {a : Int} : uX7_mixQuestion R 105 [x0, x1, x2, x3, x4, x5, some (.inl a)] st M ↔ uX7_mixQuestion R 107 [x0, x1, x2, x3, x4, x5, some (.inl a)] (.inl a :: st) M := zU_step dX7_mixQuestion_105 (Or.inl rfl)
theorem dX7_mixQuestion_107 : decode cX7_mixQuestion 107 = .ok (.invokevirtual 437, 3) := by decide +kernel
theorem rX7_mixQuestion_107 {R : zP} {x0 x1 x2 x3 x4 x5 x6 : Option zV} {st : List zV} {M : zM} {a0 a1 a2 a3 : zV} : uX7_mixQuestion R 107 [x0, x1, x2, x3, x4, x5, x6] (a3 :: a2 :: a1 :: a0 :: st) M ↔ (st.length ≤ 4 ∧ zcv (zv 7 tX7_carry) [a0, a1, a2, a3] M (fun v M => uX7_mixQuestion R 110 [x0, x1, x2, x3, x4, x5, x6] (v :: st) M)) := Iff.trans (zU_step dX7_mixQuestion_107 (Or.inl rfl)) ⟨fun h => ⟨h.2.1, zcv_of h.2.2⟩, fun h => ⟨rfl, h.1, zcv_to h.2⟩⟩
theorem dX7_mixQuestion_110 : decode cX7_mixQuestion 110 = .ok (.i2l, 1) := by decide +kernel
theorem rX7_mixQuestion_110 {R : zP} {x0 x1 x2 x3 x4 x5 x6 : Option zV} {st : List zV} {M : zM} {a : Int} : uX7_mixQuestion R 110 [x0, x1, x2, x3, x4, x5, x6] (.inl a :: st) M ↔ (zIR a ∧ uX7_mixQuestion R 111 [x0, x1, x2, x3, x4, x5, x6] (.inr (.inl a) :: st) M) := zU_step dX7_mixQuestion_110 (Or.inl rfl)
theorem dX7_mixQuestion_111 : decode cX7_mixQuestion 111 = .ok (.ladd, 1) := by decide +kernel
theorem rX7_mixQuestion_111 {R : zP} {x0 x1 x2 x3 x4 x5 x6 : Option zV} {st : List zV} {M : zM} {a b : Int} : uX7_mixQuestion R 111 [x0, x1, x2, x3, x4, x5, x6] (.inr (.inl b) :: .inr (.inl a) :: st) M ↔ uX7_mixQuestion R 112 [x0, x1, x2, x3, x4, x5, x6] (.inr (.inl (a + b)) :: st) M := zU_step dX7_mixQuestion_111 (Or.inl rfl)
theorem dX7_mixQuestion_112 : decode cX7_mixQuestion 112 = .ok (.lstore 4, 2) := by decide +kernel
theorem rX7_mixQuestion_112 {R : zP} {x0 x1 x2 x4 x5 x6 : Option zV} {st : List zV} {M : zM} {a : Int} {y : Int} : uX7_mixQuestion R 112 [x0, x1, x2, some (.inl y), x4, x5, x6] (.inr (.inl a) :: st) M ↔ uX7_mixQuestion R 114 [x0, x1, x2, some (.inl y), some (.inr (.inl a)), none, x6] st M := Iff.trans (zU_step dX7_mixQuestion_112 (Or.inl rfl)) ⟨fun h => h.2, fun h => ⟨show 4 + 1 < 7 by decide, h⟩⟩
theorem rX7_mixQuestion_112z {R : zP} {x0 x1 x2 x3 x4 x5 x6 : Option zV} {st : List zV} {M : zM} {a : Int} : uX7_mixQuestion R 112 [x0, x1, x2, x3, x4, x5, x6] (.inr (.inl a) :: st) M ↔ uX7_mixQuestion R 114 [x0, x1, x2, zkeep x3, some (.inr (.inl a)), none, x6] st M := Iff.trans (zU_step dX7_mixQuestion_112 (Or.inl rfl)) ⟨fun h => h.2, fun h => ⟨show 4 + 1 < 7 by decide, h⟩⟩
theorem dX7_mixQuestion_114 : decode cX7_mixQuestion 114 = .ok (.iinc 6 1, 3) := by decide +kernel
theorem rX7_mixQuestion_114 {R : zP} {x0 x1 x2 x3 x4 : Option zV} {st : List zV} {M : zM} {a : Int} : uX7_mixQuestion R 114 [x0, x1, x2, x3, x4, none, some (.inl a)] st M ↔ uX7_mixQuestion R 117 [x0, x1, x2, x3, x4, none, some (.inl (a + (1)))] st M := Iff.trans (zU_step dX7_mixQuestion_114 (Or.inl rfl)) ⟨fun h => h.2, fun h => ⟨show 6 < 7 by decide, h⟩⟩
theorem rX7_mixQuestion_114z {R : zP} {x0 x1 x2 x3 x4 x5 : Option zV} {st : List zV} {M : zM} {a : Int} : uX7_mixQuestion R 114 [x0, x1, x2, x3, x4, x5, some (.inl a)] st M ↔ uX7_mixQuestion R 117 [x0, x1, x2, x3, x4, zkeep x5, some (.inl (a + (1)))] st M := Iff.trans (zU_step dX7_mixQuestion_114 (Or.inl rfl)) ⟨fun h => h.2, fun h => ⟨show 6 < 7 by decide, h⟩⟩
theorem dX7_mixQuestion_117 : decode cX7_mixQuestion 117 = .ok (.goto (-28), 3) := by decide +kernel
theorem rX7_mixQuestion_117 {R : zP} {x0 x1 x2 x3 x4 x5 x6 : Option zV} {st : List zV} {M : zM} : uX7_mixQuestion R 117 [x0, x1, x2, x3, x4, x5, x6] st M ↔ uX7_mixQuestion R 89 [x0, x1, x2, x3, x4, x5, x6] st M := Iff.trans (zU_step dX7_mixQuestion_117 (Or.inl rfl)) ⟨fun h => h.2, fun h => ⟨by decide, h⟩⟩
theorem dX7_mixQuestion_120 : decode cX7_mixQuestion 120 = .ok (.ldc2_w 322, 3) := by decide +kernel
theorem rX7_mixQuestion_120 {R : zP} {x0 x1 x2 x3 x4 x5 x6 : Option zV} {st : List zV} {M : zM} : uX7_mixQuestion R 120 [x0, x1, x2, x3, x4, x5, x6] st M ↔ uX7_mixQuestion R 123 [x0, x1, x2, x3, x4, x5, x6] (.inr (.inl (31)) :: st) M := zU_step dX7_mixQuestion_120 (Or.inl rfl)
theorem dX7_mixQuestion_123 : decode cX7_mixQuestion 123 = .ok (.lload 4, 2) := by decide +kernel
theorem rX7_mixQuestion_123 {R : zP} {x0 x1 x2 x3 x5 x6 : Option zV} {st : List zV} {M : zM} {a : Int} : uX7_mixQuestion R 123 [x0, x1, x2, x3, some (.inr (.inl a)), x5, x6] st M ↔ uX7_mixQuestion R 125 [x0, x1, x2, x3, some (.inr (.inl a)), x5, x6] (.inr (.inl a) :: st) M := zU_step dX7_mixQuestion_123 (Or.inl rfl)
theorem dX7_mixQuestion_125 : decode cX7_mixQuestion 125 = .ok (.lmul, 1) := by decide +kernel
theorem rX7_mixQuestion_125 {R : zP} {x0 x1 x2 x3 x4 x5 x6 : Option zV} {st : List zV} {M : zM} {a b : Int} : uX7_mixQuestion R 125 [x0, x1, x2, x3, x4, x5, x6] (.inr (.inl b) :: .inr (.inl a) :: st) M ↔ uX7_mixQuestion R 126 [x0, x1, x2, x3, x4, x5, x6] (.inr (.inl (a * b)) :: st) M := zU_step dX7_mixQuestion_125 (Or.inl rfl)
theorem dX7_mixQuestion_126 : decode cX7_mixQuestion 126 = .ok (.aload_n 0, 1) := by decide +kernel
theorem rX7_mixQuestion_126 {R : zP} {x1 x2 x3 x4 x5 x6 : Option zV} {st : List zV} {M : zM} {a : Nat} : uX7_mixQuestion R 126 [some (.inr (.inr a)), x1, x2, x3, x4, x5, x6] st M ↔ uX7_mixQuestion R 127 [some (.inr (.inr a)), x1, x2, x3, x4, x5, x6] (.inr (.inr a) :: st) M := zU_step dX7_mixQuestion_126 (Or.inl rfl)
theorem dX7_mixQuestion_127 : decode cX7_mixQuestion 127 = .ok (.iconst 5, 1) := by decide +kernel
theorem rX7_mixQuestion_127 {R : zP} {x0 x1 x2 x3 x4 x5 x6 : Option zV} {st : List zV} {M : zM} : uX7_mixQuestion R 127 [x0, x1, x2, x3, x4, x5, x6] st M ↔ uX7_mixQuestion R 128 [x0, x1, x2, x3, x4, x5, x6] (.inl (5) :: st) M := zU_step dX7_mixQuestion_127 (Or.inl rfl)
theorem dX7_mixQuestion_128 : decode cX7_mixQuestion 128 = .ok (.bipush 14, 2) := by decide +kernel
theorem rX7_mixQuestion_128 {R : zP} {x0 x1 x2 x3 x4 x5 x6 : Option zV} {st : List zV} {M : zM} : uX7_mixQuestion R 128 [x0, x1, x2, x3, x4, x5, x6] st M ↔ uX7_mixQuestion R 130 [x0, x1, x2, x3, x4, x5, x6] (.inl (14) :: st) M := Iff.trans (zU_step dX7_mixQuestion_128 (Or.inl rfl)) ⟨fun h => h.2, fun h => ⟨by decide, h⟩⟩
theorem dX7_mixQuestion_130 : decode cX7_mixQuestion 130 = .ok (.iload_n 3, 1) := by decide +kernel
theorem rX7_mixQuestion_130 {R : zP} {x0 x1 x2 x4 x5 x6 : Option zV} {st : List zV} {M : zM} {a : Int} : uX7_mixQuestion R 130 [x0, x1, x2, some (.inl a), x4, x5, x6] st M ↔ uX7_mixQuestion R 131 [x0, x1, x2, some (.inl a), x4, x5, x6] (.inl a :: st) M := zU_step dX7_mixQuestion_130 (Or.inl rfl)
theorem dX7_mixQuestion_131 : decode cX7_mixQuestion 131 = .ok (.iconst 0, 1) := by decide +kernel
theorem rX7_mixQuestion_131 {R : zP} {x0 x1 x2 x3 x4 x5 x6 : Option zV} {st : List zV} {M : zM} : uX7_mixQuestion R 131 [x0, x1, x2, x3, x4, x5, x6] st M ↔ uX7_mixQuestion R 132 [x0, x1, x2, x3, x4, x5, x6] (.inl (0) :: st) M := zU_step dX7_mixQuestion_131 (Or.inl rfl)
theorem dX7_mixQuestion_132 : decode cX7_mixQuestion 132 = .ok (.invokevirtual 440, 3) := by decide +kernel
theorem rX7_mixQuestion_132 {R : zP} {x0 x1 x2 x3 x4 x5 x6 : Option zV} {st : List zV} {M : zM} {a0 a1 a2 a3 a4 : zV} : uX7_mixQuestion R 132 [x0, x1, x2, x3, x4, x5, x6] (a4 :: a3 :: a2 :: a1 :: a0 :: st) M ↔ (st.length ≤ 4 ∧ zcv (zv 7 tX7_cream) [a0, a1, a2, a3, a4] M (fun v M => uX7_mixQuestion R 135 [x0, x1, x2, x3, x4, x5, x6] (v :: st) M)) := Iff.trans (zU_step dX7_mixQuestion_132 (Or.inl rfl)) ⟨fun h => ⟨h.2.1, zcv_of h.2.2⟩, fun h => ⟨rfl, h.1, zcv_to h.2⟩⟩
theorem dX7_mixQuestion_135 : decode cX7_mixQuestion 135 = .ok (.ladd, 1) := by decide +kernel
theorem rX7_mixQuestion_135 {R : zP} {x0 x1 x2 x3 x4 x5 x6 : Option zV} {st : List zV} {M : zM} {a b : Int} : uX7_mixQuestion R 135 [x0, x1, x2, x3, x4, x5, x6] (.inr (.inl b) :: .inr (.inl a) :: st) M ↔ uX7_mixQuestion R 136 [x0, x1, x2, x3, x4, x5, x6] (.inr (.inl (a + b)) :: st) M := zU_step dX7_mixQuestion_135 (Or.inl rfl)
theorem dX7_mixQuestion_136 : decode cX7_mixQuestion 136 = .ok (.lstore 4, 2) := by decide +kernel
theorem rX7_mixQuestion_136 {R : zP} {x0 x1 x2 x4 x5 x6 : Option zV} {st : List zV} {M : zM} {a : Int} {y : Int} : uX7_mixQuestion R 136 [x0, x1, x2, some (.inl y), x4, x5, x6] (.inr (.inl a) :: st) M ↔ uX7_mixQuestion R 138 [x0, x1, x2, some (.inl y), some (.inr (.inl a)), none, x6] st M := Iff.trans (zU_step dX7_mixQuestion_136 (Or.inl rfl)) ⟨fun h => h.2, fun h => ⟨show 4 + 1 < 7 by decide, h⟩⟩
theorem rX7_mixQuestion_136z {R : zP} {x0 x1 x2 x3 x4 x5 x6 : Option zV} {st : List zV} {M : zM} {a : Int} : uX7_mixQuestion R 136 [x0, x1, x2, x3, x4, x5, x6] (.inr (.inl a) :: st) M ↔ uX7_mixQuestion R 138 [x0, x1, x2, zkeep x3, some (.inr (.inl a)), none, x6] st M := Iff.trans (zU_step dX7_mixQuestion_136 (Or.inl rfl)) ⟨fun h => h.2, fun h => ⟨show 4 + 1 < 7 by decide, h⟩⟩
theorem dX7_mixQuestion_138 : decode cX7_mixQuestion 138 = .ok (.ldc2_w 322, 3) := by decide +kernel
theorem rX7_mixQuestion_138 {R : zP} {x0 x1 x2 x3 x4 x5 x6 : Option zV} {st : List zV} {M : zM} : uX7_mixQuestion R 138 [x0, x1, x2, x3, x4, x5, x6] st M ↔ uX7_mixQuestion R 141 [x0, x1, x2, x3, x4, x5, x6] (.inr (.inl (31)) :: st) M := zU_step dX7_mixQuestion_138 (Or.inl rfl)
theorem dX7_mixQuestion_141 : decode cX7_mixQuestion 141 = .ok (.lload 4, 2) := by decide +kernel
theorem rX7_mixQuestion_141 {R : zP} {x0 x1 x2 x3 x5 x6 : Option zV} {st : List zV} {M : zM} {a : Int} : uX7_mixQuestion R 141 [x0, x1, x2, x3, some (.inr (.inl a)), x5, x6] st M ↔ uX7_mixQuestion R 143 [x0, x1, x2, x3, some (.inr (.inl a)), x5, x6] (.inr (.inl a) :: st) M := zU_step dX7_mixQuestion_141 (Or.inl rfl)
theorem dX7_mixQuestion_143 : decode cX7_mixQuestion 143 = .ok (.lmul, 1) := by decide +kernel
theorem rX7_mixQuestion_143 {R : zP} {x0 x1 x2 x3 x4 x5 x6 : Option zV} {st : List zV} {M : zM} {a b : Int} : uX7_mixQuestion R 143 [x0, x1, x2, x3, x4, x5, x6] (.inr (.inl b) :: .inr (.inl a) :: st) M ↔ uX7_mixQuestion R 144 [x0, x1, x2, x3, x4, x5, x6] (.inr (.inl (a * b)) :: st) M := zU_step dX7_mixQuestion_143 (Or.inl rfl)
theorem dX7_mixQuestion_144 : decode cX7_mixQuestion 144 = .ok (.aload_n 0, 1) := by decide +kernel
theorem rX7_mixQuestion_144 {R : zP} {x1 x2 x3 x4 x5 x6 : Option zV} {st : List zV} {M : zM} {a : Nat} : uX7_mixQuestion R 144 [some (.inr (.inr a)), x1, x2, x3, x4, x5, x6] st M ↔ uX7_mixQuestion R 145 [some (.inr (.inr a)), x1, x2, x3, x4, x5, x6] (.inr (.inr a) :: st) M := zU_step dX7_mixQuestion_144 (Or.inl rfl)
theorem dX7_mixQuestion_145 : decode cX7_mixQuestion 145 = .ok (.iconst 5, 1) := by decide +kernel
theorem rX7_mixQuestion_145 {R : zP} {x0 x1 x2 x3 x4 x5 x6 : Option zV} {st : List zV} {M : zM} : uX7_mixQuestion R 145 [x0, x1, x2, x3, x4, x5, x6] st M ↔ uX7_mixQuestion R 146 [x0, x1, x2, x3, x4, x5, x6] (.inl (5) :: st) M := zU_step dX7_mixQuestion_145 (Or.inl rfl)
theorem dX7_mixQuestion_146 : decode cX7_mixQuestion 146 = .ok (.bipush 14, 2) := by decide +kernel
theorem rX7_mixQuestion_146 {R : zP} {x0 x1 x2 x3 x4 x5 x6 : Option zV} {st : List zV} {M : zM} : uX7_mixQuestion R 146 [x0, x1, x2, x3, x4, x5, x6] st M ↔ uX7_mixQuestion R 148 [x0, x1, x2, x3, x4, x5, x6] (.inl (14) :: st) M := Iff.trans (zU_step dX7_mixQuestion_146 (Or.inl rfl)) ⟨fun h => h.2, fun h => ⟨by decide, h⟩⟩
theorem dX7_mixQuestion_148 : decode cX7_mixQuestion 148 = .ok (.iload_n 3, 1) := by decide +kernel
theorem rX7_mixQuestion_148 {R : zP} {x0 x1 x2 x4 x5 x6 : Option zV} {st : List zV} {M : zM} {a : Int} : uX7_mixQuestion R 148 [x0, x1, x2, some (.inl a), x4, x5, x6] st M ↔ uX7_mixQuestion R 149 [x0, x1, x2, some (.inl a), x4, x5, x6] (.inl a :: st) M := zU_step dX7_mixQuestion_148 (Or.inl rfl)
theorem dX7_mixQuestion_149 : decode cX7_mixQuestion 149 = .ok (.iconst 1, 1) := by decide +kernel
theorem rX7_mixQuestion_149 {R : zP} {x0 x1 x2 x3 x4 x5 x6 : Option zV} {st : List zV} {M : zM} : uX7_mixQuestion R 149 [x0, x1, x2, x3, x4, x5, x6] st M ↔ uX7_mixQuestion R 150 [x0, x1, x2, x3, x4, x5, x6] (.inl (1) :: st) M := zU_step dX7_mixQuestion_149 (Or.inl rfl)
theorem dX7_mixQuestion_150 : decode cX7_mixQuestion 150 = .ok (.invokevirtual 440, 3) := by decide +kernel
theorem rX7_mixQuestion_150 {R : zP} {x0 x1 x2 x3 x4 x5 x6 : Option zV} {st : List zV} {M : zM} {a0 a1 a2 a3 a4 : zV} : uX7_mixQuestion R 150 [x0, x1, x2, x3, x4, x5, x6] (a4 :: a3 :: a2 :: a1 :: a0 :: st) M ↔ (st.length ≤ 4 ∧ zcv (zv 7 tX7_cream) [a0, a1, a2, a3, a4] M (fun v M => uX7_mixQuestion R 153 [x0, x1, x2, x3, x4, x5, x6] (v :: st) M)) := Iff.trans (zU_step dX7_mixQuestion_150 (Or.inl rfl)) ⟨fun h => ⟨h.2.1, zcv_of h.2.2⟩, fun h => ⟨rfl, h.1, zcv_to h.2⟩⟩
theorem dX7_mixQuestion_153 : decode cX7_mixQuestion 153 = .ok (.ladd, 1) := by decide +kernel
theorem rX7_mixQuestion_153 {R : zP} {x0 x1 x2 x3 x4 x5 x6 : Option zV} {st : List zV} {M : zM} {a b : Int} : uX7_mixQuestion R 153 [x0, x1, x2, x3, x4, x5, x6] (.inr (.inl b) :: .inr (.inl a) :: st) M ↔ uX7_mixQuestion R 154 [x0, x1, x2, x3, x4, x5, x6] (.inr (.inl (a + b)) :: st) M := zU_step dX7_mixQuestion_153 (Or.inl rfl)
theorem dX7_mixQuestion_154 : decode cX7_mixQuestion 154 = .ok (.lreturn, 1) := by decide +kernel
theorem rX7_mixQuestion_154 {R : zP} {x0 x1 x2 x3 x4 x5 x6 : Option zV} {M : zM} {a : Int} : uX7_mixQuestion R 154 [x0, x1, x2, x3, x4, x5, x6] [.inr (.inl a)] M ↔ R (some (.inr (.inl a))) M := Iff.trans (zU_step dX7_mixQuestion_154 (Or.inl rfl)) ⟨fun h => h.2.2, fun h => ⟨rfl, rfl, h⟩⟩
theorem eX7_mixQuestion {R : zP} {M : zM} {a0 : Nat} {p0 : Int} {p1 : Int} : tX7_mixQuestion [.inr (.inr a0), .inr (.inl p0), .inl p1] M R ↔ uX7_mixQuestion R 0 [some (.inr (.inr a0)), some (.inr (.inl p0)), none, some (.inl p1), none, none, none] [] M := ⟨fun h => h.2, fun h => ⟨show 4 ≤ 7 by decide, h⟩⟩
def uX7_digest (R : zP) : zK := zU fX7 vX7_digest cX7_digest R
theorem dX7_digest_0 : decode cX7_digest 0 = .ok (.ldc2_w 320, 3) := by decide +kernel
theorem rX7_digest_0 {R : zP} {x0 x1 x2 x3 x4 : Option zV} {st : List zV} {M : zM} : uX7_digest R 0 [x0, x1, x2, x3, x4] st M ↔ uX7_digest R 3 [x0, x1, x2, x3, x4] (.inr (.inl (17)) :: st) M := zU_step dX7_digest_0 (Or.inl rfl)
theorem dX7_digest_3 : decode cX7_digest 3 = .ok (.lstore_n 1, 1) := by decide +kernel
theorem rX7_digest_3 {R : zP} {x1 x2 x3 x4 : Option zV} {st : List zV} {M : zM} {a : Int} {y : Nat} : uX7_digest R 3 [some (.inr (.inr y)), x1, x2, x3, x4] (.inr (.inl a) :: st) M ↔ uX7_digest R 4 [some (.inr (.inr y)), some (.inr (.inl a)), none, x3, x4] st M := Iff.trans (zU_step dX7_digest_3 (Or.inl rfl)) ⟨fun h => h.2, fun h => ⟨show 1 + 1 < 5 by decide, h⟩⟩
theorem rX7_digest_3z {R : zP} {x0 x1 x2 x3 x4 : Option zV} {st : List zV} {M : zM} {a : Int} : uX7_digest R 3 [x0, x1, x2, x3, x4] (.inr (.inl a) :: st) M ↔ uX7_digest R 4 [zkeep x0, some (.inr (.inl a)), none, x3, x4] st M := Iff.trans (zU_step dX7_digest_3 (Or.inl rfl)) ⟨fun h => h.2, fun h => ⟨show 1 + 1 < 5 by decide, h⟩⟩
theorem dX7_digest_4 : decode cX7_digest 4 = .ok (.iconst 0, 1) := by decide +kernel
theorem rX7_digest_4 {R : zP} {x0 x1 x2 x3 x4 : Option zV} {st : List zV} {M : zM} : uX7_digest R 4 [x0, x1, x2, x3, x4] st M ↔ uX7_digest R 5 [x0, x1, x2, x3, x4] (.inl (0) :: st) M := zU_step dX7_digest_4 (Or.inl rfl)
theorem dX7_digest_5 : decode cX7_digest 5 = .ok (.istore_n 3, 1) := by decide +kernel
theorem rX7_digest_5 {R : zP} {x0 x1 x3 x4 : Option zV} {st : List zV} {M : zM} {a : Int} : uX7_digest R 5 [x0, x1, none, x3, x4] (.inl a :: st) M ↔ uX7_digest R 6 [x0, x1, none, some (.inl a), x4] st M := Iff.trans (zU_step dX7_digest_5 (Or.inl rfl)) ⟨fun h => h.2, fun h => ⟨show 3 < 5 by decide, h⟩⟩
theorem rX7_digest_5z {R : zP} {x0 x1 x2 x3 x4 : Option zV} {st : List zV} {M : zM} {a : Int} : uX7_digest R 5 [x0, x1, x2, x3, x4] (.inl a :: st) M ↔ uX7_digest R 6 [x0, x1, zkeep x2, some (.inl a), x4] st M := Iff.trans (zU_step dX7_digest_5 (Or.inl rfl)) ⟨fun h => h.2, fun h => ⟨show 3 < 5 by decide, h⟩⟩
theorem dX7_digest_6 : decode cX7_digest 6 = .ok (.iload_n 3, 1) := by decide +kernel
theorem rX7_digest_6 {R : zP} {x0 x1 x2 x4 : Option zV} {st : List zV} {M : zM} {a : Int} : uX7_digest R 6 [x0, x1, x2, some (.inl a), x4] st M ↔ uX7_digest R 7 [x0, x1, x2, some (.inl a), x4] (.inl a :: st) M := zU_step dX7_digest_6 (Or.inl rfl)
theorem dX7_digest_7 : decode cX7_digest 7 = .ok (.bipush 7, 2) := by decide +kernel
theorem rX7_digest_7 {R : zP} {x0 x1 x2 x3 x4 : Option zV} {st : List zV} {M : zM} : uX7_digest R 7 [x0, x1, x2, x3, x4] st M ↔ uX7_digest R 9 [x0, x1, x2, x3, x4] (.inl (7) :: st) M := Iff.trans (zU_step dX7_digest_7 (Or.inl rfl)) ⟨fun h => h.2, fun h => ⟨by decide, h⟩⟩
theorem dX7_digest_9 : decode cX7_digest 9 = .ok (.if_icmp .gt 22, 3) := by decide +kernel
theorem rX7_digest_9 {R : zP} {x0 x1 x2 x3 x4 : Option zV} {st : List zV} {M : zM} {a b : Int} : uX7_digest R 9 [x0, x1, x2, x3, x4] (.inl b :: .inl a :: st) M ↔ ((zIR a ∧ zIR b) ∧ if b < a then uX7_digest R 31 [x0, x1, x2, x3, x4] st M else uX7_digest R 12 [x0, x1, x2, x3, x4] st M) := Iff.trans (zU_step dX7_digest_9 (Or.inl rfl)) ⟨fun h => ⟨⟨h.1.1, h.1.2.1⟩, (zite (c := b < a)).mpr h.2⟩, fun h => ⟨⟨h.1.1, h.1.2, by decide⟩, (zite (c := b < a)).mp h.2⟩⟩
theorem dX7_digest_12 : decode cX7_digest 12 = .ok (.ldc2_w 322, 3) := by decide +kernel
theorem rX7_digest_12 {R : zP} {x0 x1 x2 x3 x4 : Option zV} {st : List zV} {M : zM} : uX7_digest R 12 [x0, x1, x2, x3, x4] st M ↔ uX7_digest R 15 [x0, x1, x2, x3, x4] (.inr (.inl (31)) :: st) M := zU_step dX7_digest_12 (Or.inl rfl)
theorem dX7_digest_15 : decode cX7_digest 15 = .ok (.lload_n 1, 1) := by decide +kernel
theorem rX7_digest_15 {R : zP} {x0 x2 x3 x4 : Option zV} {st : List zV} {M : zM} {a : Int} : uX7_digest R 15 [x0, some (.inr (.inl a)), x2, x3, x4] st M ↔ uX7_digest R 16 [x0, some (.inr (.inl a)), x2, x3, x4] (.inr (.inl a) :: st) M := zU_step dX7_digest_15 (Or.inl rfl)
theorem dX7_digest_16 : decode cX7_digest 16 = .ok (.lmul, 1) := by decide +kernel
theorem rX7_digest_16 {R : zP} {x0 x1 x2 x3 x4 : Option zV} {st : List zV} {M : zM} {a b : Int} : uX7_digest R 16 [x0, x1, x2, x3, x4] (.inr (.inl b) :: .inr (.inl a) :: st) M ↔ uX7_digest R 17 [x0, x1, x2, x3, x4] (.inr (.inl (a * b)) :: st) M := zU_step dX7_digest_16 (Or.inl rfl)
theorem dX7_digest_17 : decode cX7_digest 17 = .ok (.aload_n 0, 1) := by decide +kernel
theorem rX7_digest_17 {R : zP} {x1 x2 x3 x4 : Option zV} {st : List zV} {M : zM} {a : Nat} : uX7_digest R 17 [some (.inr (.inr a)), x1, x2, x3, x4] st M ↔ uX7_digest R 18 [some (.inr (.inr a)), x1, x2, x3, x4] (.inr (.inr a) :: st) M := zU_step dX7_digest_17 (Or.inl rfl)
theorem dX7_digest_18 : decode cX7_digest 18 = .ok (.iload_n 3, 1) := by decide +kernel
theorem rX7_digest_18 {R : zP} {x0 x1 x2 x4 : Option zV} {st : List zV} {M : zM} {a : Int} : uX7_digest R 18 [x0, x1, x2, some (.inl a), x4] st M ↔ uX7_digest R 19 [x0, x1, x2, some (.inl a), x4] (.inl a :: st) M := zU_step dX7_digest_18 (Or.inl rfl)
theorem dX7_digest_19 : decode cX7_digest 19 = .ok (.invokevirtual 324, 3) := by decide +kernel
theorem rX7_digest_19 {R : zP} {x0 x1 x2 x3 x4 : Option zV} {st : List zV} {M : zM} {a0 a1 : zV} : uX7_digest R 19 [x0, x1, x2, x3, x4] (a1 :: a0 :: st) M ↔ (st.length ≤ 4 ∧ zcv (zv 7 tX7_count) [a0, a1] M (fun v M => uX7_digest R 22 [x0, x1, x2, x3, x4] (v :: st) M)) := Iff.trans (zU_step dX7_digest_19 (Or.inl rfl)) ⟨fun h => ⟨h.2.1, zcv_of h.2.2⟩, fun h => ⟨rfl, h.1, zcv_to h.2⟩⟩
theorem dX7_digest_22 : decode cX7_digest 22 = .ok (.i2l, 1) := by decide +kernel
theorem rX7_digest_22 {R : zP} {x0 x1 x2 x3 x4 : Option zV} {st : List zV} {M : zM} {a : Int} : uX7_digest R 22 [x0, x1, x2, x3, x4] (.inl a :: st) M ↔ (zIR a ∧ uX7_digest R 23 [x0, x1, x2, x3, x4] (.inr (.inl a) :: st) M) := zU_step dX7_digest_22 (Or.inl rfl)
theorem dX7_digest_23 : decode cX7_digest 23 = .ok (.ladd, 1) := by decide +kernel
theorem rX7_digest_23 {R : zP} {x0 x1 x2 x3 x4 : Option zV} {st : List zV} {M : zM} {a b : Int} : uX7_digest R 23 [x0, x1, x2, x3, x4] (.inr (.inl b) :: .inr (.inl a) :: st) M ↔ uX7_digest R 24 [x0, x1, x2, x3, x4] (.inr (.inl (a + b)) :: st) M := zU_step dX7_digest_23 (Or.inl rfl)
theorem dX7_digest_24 : decode cX7_digest 24 = .ok (.lstore_n 1, 1) := by decide +kernel
theorem rX7_digest_24 {R : zP} {x1 x2 x3 x4 : Option zV} {st : List zV} {M : zM} {a : Int} {y : Nat} : uX7_digest R 24 [some (.inr (.inr y)), x1, x2, x3, x4] (.inr (.inl a) :: st) M ↔ uX7_digest R 25 [some (.inr (.inr y)), some (.inr (.inl a)), none, x3, x4] st M := Iff.trans (zU_step dX7_digest_24 (Or.inl rfl)) ⟨fun h => h.2, fun h => ⟨show 1 + 1 < 5 by decide, h⟩⟩
theorem rX7_digest_24z {R : zP} {x0 x1 x2 x3 x4 : Option zV} {st : List zV} {M : zM} {a : Int} : uX7_digest R 24 [x0, x1, x2, x3, x4] (.inr (.inl a) :: st) M ↔ uX7_digest R 25 [zkeep x0, some (.inr (.inl a)), none, x3, x4] st M := Iff.trans (zU_step dX7_digest_24 (Or.inl rfl)) ⟨fun h => h.2, fun h => ⟨show 1 + 1 < 5 by decide, h⟩⟩
theorem dX7_digest_25 : decode cX7_digest 25 = .ok (.iinc 3 1, 3) := by decide +kernel
theorem rX7_digest_25 {R : zP} {x0 x1 x4 : Option zV} {st : List zV} {M : zM} {a : Int} : uX7_digest R 25 [x0, x1, none, some (.inl a), x4] st M ↔ uX7_digest R 28 [x0, x1, none, some (.inl (a + (1))), x4] st M := Iff.trans (zU_step dX7_digest_25 (Or.inl rfl)) ⟨fun h => h.2, fun h => ⟨show 3 < 5 by decide, h⟩⟩
theorem rX7_digest_25z {R : zP} {x0 x1 x2 x4 : Option zV} {st : List zV} {M : zM} {a : Int} : uX7_digest R 25 [x0, x1, x2, some (.inl a), x4] st M ↔ uX7_digest R 28 [x0, x1, zkeep x2, some (.inl (a + (1))), x4] st M := Iff.trans (zU_step dX7_digest_25 (Or.inl rfl)) ⟨fun h => h.2, fun h => ⟨show 3 < 5 by decide, h⟩⟩
theorem dX7_digest_28 : decode cX7_digest 28 = .ok (.goto (-22), 3) := by decide +kernel
theorem rX7_digest_28 {R : zP} {x0 x1 x2 x3 x4 : Option zV} {st : List zV} {M : zM} : uX7_digest R 28 [x0, x1, x2, x3, x4] st M ↔ uX7_digest R 6 [x0, x1, x2, x3, x4] st M := Iff.trans (zU_step dX7_digest_28 (Or.inl rfl)) ⟨fun h => h.2, fun h => ⟨by decide, h⟩⟩
theorem dX7_digest_31 : decode cX7_digest 31 = .ok (.iconst 0, 1) := by decide +kernel
theorem rX7_digest_31 {R : zP} {x0 x1 x2 x3 x4 : Option zV} {st : List zV} {M : zM} : uX7_digest R 31 [x0, x1, x2, x3, x4] st M ↔ uX7_digest R 32 [x0, x1, x2, x3, x4] (.inl (0) :: st) M := zU_step dX7_digest_31 (Or.inl rfl)
theorem dX7_digest_32 : decode cX7_digest 32 = .ok (.istore_n 3, 1) := by decide +kernel
theorem rX7_digest_32 {R : zP} {x0 x1 x3 x4 : Option zV} {st : List zV} {M : zM} {a : Int} : uX7_digest R 32 [x0, x1, none, x3, x4] (.inl a :: st) M ↔ uX7_digest R 33 [x0, x1, none, some (.inl a), x4] st M := Iff.trans (zU_step dX7_digest_32 (Or.inl rfl)) ⟨fun h => h.2, fun h => ⟨show 3 < 5 by decide, h⟩⟩
theorem rX7_digest_32z {R : zP} {x0 x1 x2 x3 x4 : Option zV} {st : List zV} {M : zM} {a : Int} : uX7_digest R 32 [x0, x1, x2, x3, x4] (.inl a :: st) M ↔ uX7_digest R 33 [x0, x1, zkeep x2, some (.inl a), x4] st M := Iff.trans (zU_step dX7_digest_32 (Or.inl rfl)) ⟨fun h => h.2, fun h => ⟨show 3 < 5 by decide, h⟩⟩
theorem dX7_digest_33 : decode cX7_digest 33 = .ok (.iload_n 3, 1) := by decide +kernel
theorem rX7_digest_33 {R : zP} {x0 x1 x2 x4 : Option zV} {st : List zV} {M : zM} {a : Int} : uX7_digest R 33 [x0, x1, x2, some (.inl a), x4] st M ↔ uX7_digest R 34 [x0, x1, x2, some (.inl a), x4] (.inl a :: st) M := zU_step dX7_digest_33 (Or.inl rfl)
theorem dX7_digest_34 : decode cX7_digest 34 = .ok (.iconst 2, 1) := by decide +kernel
theorem rX7_digest_34 {R : zP} {x0 x1 x2 x3 x4 : Option zV} {st : List zV} {M : zM} : uX7_digest R 34 [x0, x1, x2, x3, x4] st M ↔ uX7_digest R 35 [x0, x1, x2, x3, x4] (.inl (2) :: st) M := zU_step dX7_digest_34 (Or.inl rfl)
theorem dX7_digest_35 : decode cX7_digest 35 = .ok (.if_icmp .ge 22, 3) := by decide +kernel
theorem rX7_digest_35 {R : zP} {x0 x1 x2 x3 x4 : Option zV} {st : List zV} {M : zM} {a b : Int} : uX7_digest R 35 [x0, x1, x2, x3, x4] (.inl b :: .inl a :: st) M ↔ ((zIR a ∧ zIR b) ∧ if b ≤ a then uX7_digest R 57 [x0, x1, x2, x3, x4] st M else uX7_digest R 38 [x0, x1, x2, x3, x4] st M) := Iff.trans (zU_step dX7_digest_35 (Or.inl rfl)) ⟨fun h => ⟨⟨h.1.1, h.1.2.1⟩, (zite (c := b ≤ a)).mpr h.2⟩, fun h => ⟨⟨h.1.1, h.1.2, by decide⟩, (zite (c := b ≤ a)).mp h.2⟩⟩
theorem dX7_digest_38 : decode cX7_digest 38 = .ok (.ldc2_w 322, 3) := by decide +kernel
theorem rX7_digest_38 {R : zP} {x0 x1 x2 x3 x4 : Option zV} {st : List zV} {M : zM} : uX7_digest R 38 [x0, x1, x2, x3, x4] st M ↔ uX7_digest R 41 [x0, x1, x2, x3, x4] (.inr (.inl (31)) :: st) M := zU_step dX7_digest_38 (Or.inl rfl)
theorem dX7_digest_41 : decode cX7_digest 41 = .ok (.lload_n 1, 1) := by decide +kernel
theorem rX7_digest_41 {R : zP} {x0 x2 x3 x4 : Option zV} {st : List zV} {M : zM} {a : Int} : uX7_digest R 41 [x0, some (.inr (.inl a)), x2, x3, x4] st M ↔ uX7_digest R 42 [x0, some (.inr (.inl a)), x2, x3, x4] (.inr (.inl a) :: st) M := zU_step dX7_digest_41 (Or.inl rfl)
theorem dX7_digest_42 : decode cX7_digest 42 = .ok (.lmul, 1) := by decide +kernel
theorem rX7_digest_42 {R : zP} {x0 x1 x2 x3 x4 : Option zV} {st : List zV} {M : zM} {a b : Int} : uX7_digest R 42 [x0, x1, x2, x3, x4] (.inr (.inl b) :: .inr (.inl a) :: st) M ↔ uX7_digest R 43 [x0, x1, x2, x3, x4] (.inr (.inl (a * b)) :: st) M := zU_step dX7_digest_42 (Or.inl rfl)
theorem dX7_digest_43 : decode cX7_digest 43 = .ok (.aload_n 0, 1) := by decide +kernel
theorem rX7_digest_43 {R : zP} {x1 x2 x3 x4 : Option zV} {st : List zV} {M : zM} {a : Nat} : uX7_digest R 43 [some (.inr (.inr a)), x1, x2, x3, x4] st M ↔ uX7_digest R 44 [some (.inr (.inr a)), x1, x2, x3, x4] (.inr (.inr a) :: st) M := zU_step dX7_digest_43 (Or.inl rfl)
theorem dX7_digest_44 : decode cX7_digest 44 = .ok (.iload_n 3, 1) := by decide +kernel
theorem rX7_digest_44 {R : zP} {x0 x1 x2 x4 : Option zV} {st : List zV} {M : zM} {a : Int} : uX7_digest R 44 [x0, x1, x2, some (.inl a), x4] st M ↔ uX7_digest R 45 [x0, x1, x2, some (.inl a), x4] (.inl a :: st) M := zU_step dX7_digest_44 (Or.inl rfl)
theorem dX7_digest_45 : decode cX7_digest 45 = .ok (.invokevirtual 327, 3) := by decide +kernel
theorem rX7_digest_45 {R : zP} {x0 x1 x2 x3 x4 : Option zV} {st : List zV} {M : zM} {a0 a1 : zV} : uX7_digest R 45 [x0, x1, x2, x3, x4] (a1 :: a0 :: st) M ↔ (st.length ≤ 4 ∧ zcv (zv 7 tX7_fault) [a0, a1] M (fun v M => uX7_digest R 48 [x0, x1, x2, x3, x4] (v :: st) M)) := Iff.trans (zU_step dX7_digest_45 (Or.inl rfl)) ⟨fun h => ⟨h.2.1, zcv_of h.2.2⟩, fun h => ⟨rfl, h.1, zcv_to h.2⟩⟩
theorem dX7_digest_48 : decode cX7_digest 48 = .ok (.i2l, 1) := by decide +kernel
theorem rX7_digest_48 {R : zP} {x0 x1 x2 x3 x4 : Option zV} {st : List zV} {M : zM} {a : Int} : uX7_digest R 48 [x0, x1, x2, x3, x4] (.inl a :: st) M ↔ (zIR a ∧ uX7_digest R 49 [x0, x1, x2, x3, x4] (.inr (.inl a) :: st) M) := zU_step dX7_digest_48 (Or.inl rfl)
theorem dX7_digest_49 : decode cX7_digest 49 = .ok (.ladd, 1) := by decide +kernel
theorem rX7_digest_49 {R : zP} {x0 x1 x2 x3 x4 : Option zV} {st : List zV} {M : zM} {a b : Int} : uX7_digest R 49 [x0, x1, x2, x3, x4] (.inr (.inl b) :: .inr (.inl a) :: st) M ↔ uX7_digest R 50 [x0, x1, x2, x3, x4] (.inr (.inl (a + b)) :: st) M := zU_step dX7_digest_49 (Or.inl rfl)
theorem dX7_digest_50 : decode cX7_digest 50 = .ok (.lstore_n 1, 1) := by decide +kernel
theorem rX7_digest_50 {R : zP} {x1 x2 x3 x4 : Option zV} {st : List zV} {M : zM} {a : Int} {y : Nat} : uX7_digest R 50 [some (.inr (.inr y)), x1, x2, x3, x4] (.inr (.inl a) :: st) M ↔ uX7_digest R 51 [some (.inr (.inr y)), some (.inr (.inl a)), none, x3, x4] st M := Iff.trans (zU_step dX7_digest_50 (Or.inl rfl)) ⟨fun h => h.2, fun h => ⟨show 1 + 1 < 5 by decide, h⟩⟩
theorem rX7_digest_50z {R : zP} {x0 x1 x2 x3 x4 : Option zV} {st : List zV} {M : zM} {a : Int} : uX7_digest R 50 [x0, x1, x2, x3, x4] (.inr (.inl a) :: st) M ↔ uX7_digest R 51 [zkeep x0, some (.inr (.inl a)), none, x3, x4] st M := Iff.trans (zU_step dX7_digest_50 (Or.inl rfl)) ⟨fun h => h.2, fun h => ⟨show 1 + 1 < 5 by decide, h⟩⟩
theorem dX7_digest_51 : decode cX7_digest 51 = .ok (.iinc 3 1, 3) := by decide +kernel
theorem rX7_digest_51 {R : zP} {x0 x1 x4 : Option zV} {st : List zV} {M : zM} {a : Int} : uX7_digest R 51 [x0, x1, none, some (.inl a), x4] st M ↔ uX7_digest R 54 [x0, x1, none, some (.inl (a + (1))), x4] st M := Iff.trans (zU_step dX7_digest_51 (Or.inl rfl)) ⟨fun h => h.2, fun h => ⟨show 3 < 5 by decide, h⟩⟩
theorem rX7_digest_51z {R : zP} {x0 x1 x2 x4 : Option zV} {st : List zV} {M : zM} {a : Int} : uX7_digest R 51 [x0, x1, x2, some (.inl a), x4] st M ↔ uX7_digest R 54 [x0, x1, zkeep x2, some (.inl (a + (1))), x4] st M := Iff.trans (zU_step dX7_digest_51 (Or.inl rfl)) ⟨fun h => h.2, fun h => ⟨show 3 < 5 by decide, h⟩⟩
theorem dX7_digest_54 : decode cX7_digest 54 = .ok (.goto (-21), 3) := by decide +kernel
theorem rX7_digest_54 {R : zP} {x0 x1 x2 x3 x4 : Option zV} {st : List zV} {M : zM} : uX7_digest R 54 [x0, x1, x2, x3, x4] st M ↔ uX7_digest R 33 [x0, x1, x2, x3, x4] st M := Iff.trans (zU_step dX7_digest_54 (Or.inl rfl)) ⟨fun h => h.2, fun h => ⟨by decide, h⟩⟩
theorem dX7_digest_57 : decode cX7_digest 57 = .ok (.iconst 0, 1) := by decide +kernel
theorem rX7_digest_57 {R : zP} {x0 x1 x2 x3 x4 : Option zV} {st : List zV} {M : zM} : uX7_digest R 57 [x0, x1, x2, x3, x4] st M ↔ uX7_digest R 58 [x0, x1, x2, x3, x4] (.inl (0) :: st) M := zU_step dX7_digest_57 (Or.inl rfl)
theorem dX7_digest_58 : decode cX7_digest 58 = .ok (.istore_n 3, 1) := by decide +kernel
theorem rX7_digest_58 {R : zP} {x0 x1 x3 x4 : Option zV} {st : List zV} {M : zM} {a : Int} : uX7_digest R 58 [x0, x1, none, x3, x4] (.inl a :: st) M ↔ uX7_digest R 59 [x0, x1, none, some (.inl a), x4] st M := Iff.trans (zU_step dX7_digest_58 (Or.inl rfl)) ⟨fun h => h.2, fun h => ⟨show 3 < 5 by decide, h⟩⟩
theorem rX7_digest_58z {R : zP} {x0 x1 x2 x3 x4 : Option zV} {st : List zV} {M : zM} {a : Int} : uX7_digest R 58 [x0, x1, x2, x3, x4] (.inl a :: st) M ↔ uX7_digest R 59 [x0, x1, zkeep x2, some (.inl a), x4] st M := Iff.trans (zU_step dX7_digest_58 (Or.inl rfl)) ⟨fun h => h.2, fun h => ⟨show 3 < 5 by decide, h⟩⟩
theorem dX7_digest_59 : decode cX7_digest 59 = .ok (.iload_n 3, 1) := by decide +kernel
theorem rX7_digest_59 {R : zP} {x0 x1 x2 x4 : Option zV} {st : List zV} {M : zM} {a : Int} : uX7_digest R 59 [x0, x1, x2, some (.inl a), x4] st M ↔ uX7_digest R 60 [x0, x1, x2, some (.inl a), x4] (.inl a :: st) M := zU_step dX7_digest_59 (Or.inl rfl)
theorem dX7_digest_60 : decode cX7_digest 60 = .ok (.aload_n 0, 1) := by decide +kernel
theorem rX7_digest_60 {R : zP} {x1 x2 x3 x4 : Option zV} {st : List zV} {M : zM} {a : Nat} : uX7_digest R 60 [some (.inr (.inr a)), x1, x2, x3, x4] st M ↔ uX7_digest R 61 [some (.inr (.inr a)), x1, x2, x3, x4] (.inr (.inr a) :: st) M := zU_step dX7_digest_60 (Or.inl rfl)
theorem dX7_digest_61 : decode cX7_digest 61 = .ok (.getfield 22, 3) := by decide +kernel
theorem rX7_digest_61 {R : zP} {x0 x1 x2 x3 x4 : Option zV} {st : List zV} {M : zM} {r : Nat} : uX7_digest R 61 [x0, x1, x2, x3, x4] (.inr (.inr r) :: st) M ↔ zgetx fX7 22 r M (fun v => uX7_digest R 64 [x0, x1, x2, x3, x4] (v :: st) M) := zU_step dX7_digest_61 (Or.inl rfl)
theorem dX7_digest_64 : decode cX7_digest 64 = .ok (.getfield 116, 3) := by decide +kernel
theorem rX7_digest_64 {R : zP} {x0 x1 x2 x3 x4 : Option zV} {st : List zV} {M : zM} {r : Nat} : uX7_digest R 64 [x0, x1, x2, x3, x4] (.inr (.inr r) :: st) M ↔ zgetx fX7 116 r M (fun v => uX7_digest R 67 [x0, x1, x2, x3, x4] (v :: st) M) := zU_step dX7_digest_64 (Or.inl rfl)
theorem dX7_digest_67 : decode cX7_digest 67 = .ok (.if_icmp .ge 39, 3) := by decide +kernel
theorem rX7_digest_67 {R : zP} {x0 x1 x2 x3 x4 : Option zV} {st : List zV} {M : zM} {a b : Int} : uX7_digest R 67 [x0, x1, x2, x3, x4] (.inl b :: .inl a :: st) M ↔ ((zIR a ∧ zIR b) ∧ if b ≤ a then uX7_digest R 106 [x0, x1, x2, x3, x4] st M else uX7_digest R 70 [x0, x1, x2, x3, x4] st M) := Iff.trans (zU_step dX7_digest_67 (Or.inl rfl)) ⟨fun h => ⟨⟨h.1.1, h.1.2.1⟩, (zite (c := b ≤ a)).mpr h.2⟩, fun h => ⟨⟨h.1.1, h.1.2, by decide⟩, (zite (c := b ≤ a)).mp h.2⟩⟩
theorem dX7_digest_70 : decode cX7_digest 70 = .ok (.iconst 0, 1) := by decide +kernel
theorem rX7_digest_70 {R : zP} {x0 x1 x2 x3 x4 : Option zV} {st : List zV} {M : zM} : uX7_digest R 70 [x0, x1, x2, x3, x4] st M ↔ uX7_digest R 71 [x0, x1, x2, x3, x4] (.inl (0) :: st) M := zU_step dX7_digest_70 (Or.inl rfl)
theorem dX7_digest_71 : decode cX7_digest 71 = .ok (.istore 4, 2) := by decide +kernel
theorem rX7_digest_71 {R : zP} {x0 x1 x2 x4 : Option zV} {st : List zV} {M : zM} {a : Int} {y : Int} : uX7_digest R 71 [x0, x1, x2, some (.inl y), x4] (.inl a :: st) M ↔ uX7_digest R 73 [x0, x1, x2, some (.inl y), some (.inl a)] st M := Iff.trans (zU_step dX7_digest_71 (Or.inl rfl)) ⟨fun h => h.2, fun h => ⟨show 4 < 5 by decide, h⟩⟩
theorem rX7_digest_71z {R : zP} {x0 x1 x2 x3 x4 : Option zV} {st : List zV} {M : zM} {a : Int} : uX7_digest R 71 [x0, x1, x2, x3, x4] (.inl a :: st) M ↔ uX7_digest R 73 [x0, x1, x2, zkeep x3, some (.inl a)] st M := Iff.trans (zU_step dX7_digest_71 (Or.inl rfl)) ⟨fun h => h.2, fun h => ⟨show 4 < 5 by decide, h⟩⟩
theorem dX7_digest_73 : decode cX7_digest 73 = .ok (.iload 4, 2) := by decide +kernel
theorem rX7_digest_73 {R : zP} {x0 x1 x2 x3 : Option zV} {st : List zV} {M : zM} {a : Int} : uX7_digest R 73 [x0, x1, x2, x3, some (.inl a)] st M ↔ uX7_digest R 75 [x0, x1, x2, x3, some (.inl a)] (.inl a :: st) M := zU_step dX7_digest_73 (Or.inl rfl)
theorem dX7_digest_75 : decode cX7_digest 75 = .ok (.iconst 5, 1) := by decide +kernel
theorem rX7_digest_75 {R : zP} {x0 x1 x2 x3 x4 : Option zV} {st : List zV} {M : zM} : uX7_digest R 75 [x0, x1, x2, x3, x4] st M ↔ uX7_digest R 76 [x0, x1, x2, x3, x4] (.inl (5) :: st) M := zU_step dX7_digest_75 (Or.inl rfl)
theorem dX7_digest_76 : decode cX7_digest 76 = .ok (.if_icmp .ge 24, 3) := by decide +kernel
theorem rX7_digest_76 {R : zP} {x0 x1 x2 x3 x4 : Option zV} {st : List zV} {M : zM} {a b : Int} : uX7_digest R 76 [x0, x1, x2, x3, x4] (.inl b :: .inl a :: st) M ↔ ((zIR a ∧ zIR b) ∧ if b ≤ a then uX7_digest R 100 [x0, x1, x2, x3, x4] st M else uX7_digest R 79 [x0, x1, x2, x3, x4] st M) := Iff.trans (zU_step dX7_digest_76 (Or.inl rfl)) ⟨fun h => ⟨⟨h.1.1, h.1.2.1⟩, (zite (c := b ≤ a)).mpr h.2⟩, fun h => ⟨⟨h.1.1, h.1.2, by decide⟩, (zite (c := b ≤ a)).mp h.2⟩⟩
theorem dX7_digest_79 : decode cX7_digest 79 = .ok (.ldc2_w 322, 3) := by decide +kernel
theorem rX7_digest_79 {R : zP} {x0 x1 x2 x3 x4 : Option zV} {st : List zV} {M : zM} : uX7_digest R 79 [x0, x1, x2, x3, x4] st M ↔ uX7_digest R 82 [x0, x1, x2, x3, x4] (.inr (.inl (31)) :: st) M := zU_step dX7_digest_79 (Or.inl rfl)
theorem dX7_digest_82 : decode cX7_digest 82 = .ok (.lload_n 1, 1) := by decide +kernel
theorem rX7_digest_82 {R : zP} {x0 x2 x3 x4 : Option zV} {st : List zV} {M : zM} {a : Int} : uX7_digest R 82 [x0, some (.inr (.inl a)), x2, x3, x4] st M ↔ uX7_digest R 83 [x0, some (.inr (.inl a)), x2, x3, x4] (.inr (.inl a) :: st) M := zU_step dX7_digest_82 (Or.inl rfl)
theorem dX7_digest_83 : decode cX7_digest 83 = .ok (.lmul, 1) := by decide +kernel
theorem rX7_digest_83 {R : zP} {x0 x1 x2 x3 x4 : Option zV} {st : List zV} {M : zM} {a b : Int} : uX7_digest R 83 [x0, x1, x2, x3, x4] (.inr (.inl b) :: .inr (.inl a) :: st) M ↔ uX7_digest R 84 [x0, x1, x2, x3, x4] (.inr (.inl (a * b)) :: st) M := zU_step dX7_digest_83 (Or.inl rfl)
theorem dX7_digest_84 : decode cX7_digest 84 = .ok (.aload_n 0, 1) := by decide +kernel
theorem rX7_digest_84 {R : zP} {x1 x2 x3 x4 : Option zV} {st : List zV} {M : zM} {a : Nat} : uX7_digest R 84 [some (.inr (.inr a)), x1, x2, x3, x4] st M ↔ uX7_digest R 85 [some (.inr (.inr a)), x1, x2, x3, x4] (.inr (.inr a) :: st) M := zU_step dX7_digest_84 (Or.inl rfl)
theorem dX7_digest_85 : decode cX7_digest 85 = .ok (.iload_n 3, 1) := by decide +kernel
theorem rX7_digest_85 {R : zP} {x0 x1 x2 x4 : Option zV} {st : List zV} {M : zM} {a : Int} : uX7_digest R 85 [x0, x1, x2, some (.inl a), x4] st M ↔ uX7_digest R 86 [x0, x1, x2, some (.inl a), x4] (.inl a :: st) M := zU_step dX7_digest_85 (Or.inl rfl)
theorem dX7_digest_86 : decode cX7_digest 86 = .ok (.iload 4, 2) := by decide +kernel
theorem rX7_digest_86 {R : zP} {x0 x1 x2 x3 : Option zV} {st : List zV} {M : zM} {a : Int} : uX7_digest R 86 [x0, x1, x2, x3, some (.inl a)] st M ↔ uX7_digest R 88 [x0, x1, x2, x3, some (.inl a)] (.inl a :: st) M := zU_step dX7_digest_86 (Or.inl rfl)
theorem dX7_digest_88 : decode cX7_digest 88 = .ok (.invokevirtual 330, 3) := by decide +kernel
theorem rX7_digest_88 {R : zP} {x0 x1 x2 x3 x4 : Option zV} {st : List zV} {M : zM} {a0 a1 a2 : zV} : uX7_digest R 88 [x0, x1, x2, x3, x4] (a2 :: a1 :: a0 :: st) M ↔ (st.length ≤ 4 ∧ zcv (zv 7 tX7_cow) [a0, a1, a2] M (fun v M => uX7_digest R 91 [x0, x1, x2, x3, x4] (v :: st) M)) := Iff.trans (zU_step dX7_digest_88 (Or.inl rfl)) ⟨fun h => ⟨h.2.1, zcv_of h.2.2⟩, fun h => ⟨rfl, h.1, zcv_to h.2⟩⟩
theorem dX7_digest_91 : decode cX7_digest 91 = .ok (.i2l, 1) := by decide +kernel
theorem rX7_digest_91 {R : zP} {x0 x1 x2 x3 x4 : Option zV} {st : List zV} {M : zM} {a : Int} : uX7_digest R 91 [x0, x1, x2, x3, x4] (.inl a :: st) M ↔ (zIR a ∧ uX7_digest R 92 [x0, x1, x2, x3, x4] (.inr (.inl a) :: st) M) := zU_step dX7_digest_91 (Or.inl rfl)
theorem dX7_digest_92 : decode cX7_digest 92 = .ok (.ladd, 1) := by decide +kernel
theorem rX7_digest_92 {R : zP} {x0 x1 x2 x3 x4 : Option zV} {st : List zV} {M : zM} {a b : Int} : uX7_digest R 92 [x0, x1, x2, x3, x4] (.inr (.inl b) :: .inr (.inl a) :: st) M ↔ uX7_digest R 93 [x0, x1, x2, x3, x4] (.inr (.inl (a + b)) :: st) M := zU_step dX7_digest_92 (Or.inl rfl)
theorem dX7_digest_93 : decode cX7_digest 93 = .ok (.lstore_n 1, 1) := by decide +kernel
theorem rX7_digest_93 {R : zP} {x1 x2 x3 x4 : Option zV} {st : List zV} {M : zM} {a : Int} {y : Nat} : uX7_digest R 93 [some (.inr (.inr y)), x1, x2, x3, x4] (.inr (.inl a) :: st) M ↔ uX7_digest R 94 [some (.inr (.inr y)), some (.inr (.inl a)), none, x3, x4] st M := Iff.trans (zU_step dX7_digest_93 (Or.inl rfl)) ⟨fun h => h.2, fun h => ⟨show 1 + 1 < 5 by decide, h⟩⟩
theorem rX7_digest_93z {R : zP} {x0 x1 x2 x3 x4 : Option zV} {st : List zV} {M : zM} {a : Int} : uX7_digest R 93 [x0, x1, x2, x3, x4] (.inr (.inl a) :: st) M ↔ uX7_digest R 94 [zkeep x0, some (.inr (.inl a)), none, x3, x4] st M := Iff.trans (zU_step dX7_digest_93 (Or.inl rfl)) ⟨fun h => h.2, fun h => ⟨show 1 + 1 < 5 by decide, h⟩⟩
theorem dX7_digest_94 : decode cX7_digest 94 = .ok (.iinc 4 1, 3) := by decide +kernel
theorem rX7_digest_94 {R : zP} {x0 x1 x2 : Option zV} {st : List zV} {M : zM} {a : Int} {y : Int} : uX7_digest R 94 [x0, x1, x2, some (.inl y), some (.inl a)] st M ↔ uX7_digest R 97 [x0, x1, x2, some (.inl y), some (.inl (a + (1)))] st M := Iff.trans (zU_step dX7_digest_94 (Or.inl rfl)) ⟨fun h => h.2, fun h => ⟨show 4 < 5 by decide, h⟩⟩
theorem rX7_digest_94z {R : zP} {x0 x1 x2 x3 : Option zV} {st : List zV} {M : zM} {a : Int} : uX7_digest R 94 [x0, x1, x2, x3, some (.inl a)] st M ↔ uX7_digest R 97 [x0, x1, x2, zkeep x3, some (.inl (a + (1)))] st M := Iff.trans (zU_step dX7_digest_94 (Or.inl rfl)) ⟨fun h => h.2, fun h => ⟨show 4 < 5 by decide, h⟩⟩
theorem dX7_digest_97 : decode cX7_digest 97 = .ok (.goto (-24), 3) := by decide +kernel
theorem rX7_digest_97 {R : zP} {x0 x1 x2 x3 x4 : Option zV} {st : List zV} {M : zM} : uX7_digest R 97 [x0, x1, x2, x3, x4] st M ↔ uX7_digest R 73 [x0, x1, x2, x3, x4] st M := Iff.trans (zU_step dX7_digest_97 (Or.inl rfl)) ⟨fun h => h.2, fun h => ⟨by decide, h⟩⟩
theorem dX7_digest_100 : decode cX7_digest 100 = .ok (.iinc 3 1, 3) := by decide +kernel
theorem rX7_digest_100 {R : zP} {x0 x1 x4 : Option zV} {st : List zV} {M : zM} {a : Int} : uX7_digest R 100 [x0, x1, none, some (.inl a), x4] st M ↔ uX7_digest R 103 [x0, x1, none, some (.inl (a + (1))), x4] st M := Iff.trans (zU_step dX7_digest_100 (Or.inl rfl)) ⟨fun h => h.2, fun h => ⟨show 3 < 5 by decide, h⟩⟩
theorem rX7_digest_100z {R : zP} {x0 x1 x2 x4 : Option zV} {st : List zV} {M : zM} {a : Int} : uX7_digest R 100 [x0, x1, x2, some (.inl a), x4] st M ↔ uX7_digest R 103 [x0, x1, zkeep x2, some (.inl (a + (1))), x4] st M := Iff.trans (zU_step dX7_digest_100 (Or.inl rfl)) ⟨fun h => h.2, fun h => ⟨show 3 < 5 by decide, h⟩⟩
theorem dX7_digest_103 : decode cX7_digest 103 = .ok (.goto (-44), 3) := by decide +kernel
theorem rX7_digest_103 {R : zP} {x0 x1 x2 x3 x4 : Option zV} {st : List zV} {M : zM} : uX7_digest R 103 [x0, x1, x2, x3, x4] st M ↔ uX7_digest R 59 [x0, x1, x2, x3, x4] st M := Iff.trans (zU_step dX7_digest_103 (Or.inl rfl)) ⟨fun h => h.2, fun h => ⟨by decide, h⟩⟩
theorem dX7_digest_106 : decode cX7_digest 106 = .ok (.iconst 0, 1) := by decide +kernel
theorem rX7_digest_106 {R : zP} {x0 x1 x2 x3 x4 : Option zV} {st : List zV} {M : zM} : uX7_digest R 106 [x0, x1, x2, x3, x4] st M ↔ uX7_digest R 107 [x0, x1, x2, x3, x4] (.inl (0) :: st) M := zU_step dX7_digest_106 (Or.inl rfl)
theorem dX7_digest_107 : decode cX7_digest 107 = .ok (.istore_n 3, 1) := by decide +kernel
theorem rX7_digest_107 {R : zP} {x0 x1 x3 x4 : Option zV} {st : List zV} {M : zM} {a : Int} : uX7_digest R 107 [x0, x1, none, x3, x4] (.inl a :: st) M ↔ uX7_digest R 108 [x0, x1, none, some (.inl a), x4] st M := Iff.trans (zU_step dX7_digest_107 (Or.inl rfl)) ⟨fun h => h.2, fun h => ⟨show 3 < 5 by decide, h⟩⟩
theorem rX7_digest_107z {R : zP} {x0 x1 x2 x3 x4 : Option zV} {st : List zV} {M : zM} {a : Int} : uX7_digest R 107 [x0, x1, x2, x3, x4] (.inl a :: st) M ↔ uX7_digest R 108 [x0, x1, zkeep x2, some (.inl a), x4] st M := Iff.trans (zU_step dX7_digest_107 (Or.inl rfl)) ⟨fun h => h.2, fun h => ⟨show 3 < 5 by decide, h⟩⟩
theorem dX7_digest_108 : decode cX7_digest 108 = .ok (.iload_n 3, 1) := by decide +kernel
theorem rX7_digest_108 {R : zP} {x0 x1 x2 x4 : Option zV} {st : List zV} {M : zM} {a : Int} : uX7_digest R 108 [x0, x1, x2, some (.inl a), x4] st M ↔ uX7_digest R 109 [x0, x1, x2, some (.inl a), x4] (.inl a :: st) M := zU_step dX7_digest_108 (Or.inl rfl)
theorem dX7_digest_109 : decode cX7_digest 109 = .ok (.aload_n 0, 1) := by decide +kernel
theorem rX7_digest_109 {R : zP} {x1 x2 x3 x4 : Option zV} {st : List zV} {M : zM} {a : Nat} : uX7_digest R 109 [some (.inr (.inr a)), x1, x2, x3, x4] st M ↔ uX7_digest R 110 [some (.inr (.inr a)), x1, x2, x3, x4] (.inr (.inr a) :: st) M := zU_step dX7_digest_109 (Or.inl rfl)
theorem dX7_digest_110 : decode cX7_digest 110 = .ok (.getfield 14, 3) := by decide +kernel
theorem rX7_digest_110 {R : zP} {x0 x1 x2 x3 x4 : Option zV} {st : List zV} {M : zM} {r : Nat} : uX7_digest R 110 [x0, x1, x2, x3, x4] (.inr (.inr r) :: st) M ↔ zgetx fX7 14 r M (fun v => uX7_digest R 113 [x0, x1, x2, x3, x4] (v :: st) M) := zU_step dX7_digest_110 (Or.inl rfl)
theorem dX7_digest_113 : decode cX7_digest 113 = .ok (.getfield 116, 3) := by decide +kernel
theorem rX7_digest_113 {R : zP} {x0 x1 x2 x3 x4 : Option zV} {st : List zV} {M : zM} {r : Nat} : uX7_digest R 113 [x0, x1, x2, x3, x4] (.inr (.inr r) :: st) M ↔ zgetx fX7 116 r M (fun v => uX7_digest R 116 [x0, x1, x2, x3, x4] (v :: st) M) := zU_step dX7_digest_113 (Or.inl rfl)
theorem dX7_digest_116 : decode cX7_digest 116 = .ok (.if_icmp .ge 16, 3) := by decide +kernel
theorem rX7_digest_116 {R : zP} {x0 x1 x2 x3 x4 : Option zV} {st : List zV} {M : zM} {a b : Int} : uX7_digest R 116 [x0, x1, x2, x3, x4] (.inl b :: .inl a :: st) M ↔ ((zIR a ∧ zIR b) ∧ if b ≤ a then uX7_digest R 132 [x0, x1, x2, x3, x4] st M else uX7_digest R 119 [x0, x1, x2, x3, x4] st M) := Iff.trans (zU_step dX7_digest_116 (Or.inl rfl)) ⟨fun h => ⟨⟨h.1.1, h.1.2.1⟩, (zite (c := b ≤ a)).mpr h.2⟩, fun h => ⟨⟨h.1.1, h.1.2, by decide⟩, (zite (c := b ≤ a)).mp h.2⟩⟩
theorem dX7_digest_119 : decode cX7_digest 119 = .ok (.aload_n 0, 1) := by decide +kernel
theorem rX7_digest_119 {R : zP} {x1 x2 x3 x4 : Option zV} {st : List zV} {M : zM} {a : Nat} : uX7_digest R 119 [some (.inr (.inr a)), x1, x2, x3, x4] st M ↔ uX7_digest R 120 [some (.inr (.inr a)), x1, x2, x3, x4] (.inr (.inr a) :: st) M := zU_step dX7_digest_119 (Or.inl rfl)
theorem dX7_digest_120 : decode cX7_digest 120 = .ok (.lload_n 1, 1) := by decide +kernel
theorem rX7_digest_120 {R : zP} {x0 x2 x3 x4 : Option zV} {st : List zV} {M : zM} {a : Int} : uX7_digest R 120 [x0, some (.inr (.inl a)), x2, x3, x4] st M ↔ uX7_digest R 121 [x0, some (.inr (.inl a)), x2, x3, x4] (.inr (.inl a) :: st) M := zU_step dX7_digest_120 (Or.inl rfl)
theorem dX7_digest_121 : decode cX7_digest 121 = .ok (.iload_n 3, 1) := by decide +kernel
theorem rX7_digest_121 {R : zP} {x0 x1 x2 x4 : Option zV} {st : List zV} {M : zM} {a : Int} : uX7_digest R 121 [x0, x1, x2, some (.inl a), x4] st M ↔ uX7_digest R 122 [x0, x1, x2, some (.inl a), x4] (.inl a :: st) M := zU_step dX7_digest_121 (Or.inl rfl)
theorem dX7_digest_122 : decode cX7_digest 122 = .ok (.invokevirtual 333, 3) := by decide +kernel
theorem rX7_digest_122 {R : zP} {x0 x1 x2 x3 x4 : Option zV} {st : List zV} {M : zM} {a0 a1 a2 : zV} : uX7_digest R 122 [x0, x1, x2, x3, x4] (a2 :: a1 :: a0 :: st) M ↔ (st.length ≤ 4 ∧ zcv (zv 7 tX7_mixMember) [a0, a1, a2] M (fun v M => uX7_digest R 125 [x0, x1, x2, x3, x4] (v :: st) M)) := Iff.trans (zU_step dX7_digest_122 (Or.inl rfl)) ⟨fun h => ⟨h.2.1, zcv_of h.2.2⟩, fun h => ⟨rfl, h.1, zcv_to h.2⟩⟩
theorem dX7_digest_125 : decode cX7_digest 125 = .ok (.lstore_n 1, 1) := by decide +kernel
theorem rX7_digest_125 {R : zP} {x1 x2 x3 x4 : Option zV} {st : List zV} {M : zM} {a : Int} {y : Nat} : uX7_digest R 125 [some (.inr (.inr y)), x1, x2, x3, x4] (.inr (.inl a) :: st) M ↔ uX7_digest R 126 [some (.inr (.inr y)), some (.inr (.inl a)), none, x3, x4] st M := Iff.trans (zU_step dX7_digest_125 (Or.inl rfl)) ⟨fun h => h.2, fun h => ⟨show 1 + 1 < 5 by decide, h⟩⟩
theorem rX7_digest_125z {R : zP} {x0 x1 x2 x3 x4 : Option zV} {st : List zV} {M : zM} {a : Int} : uX7_digest R 125 [x0, x1, x2, x3, x4] (.inr (.inl a) :: st) M ↔ uX7_digest R 126 [zkeep x0, some (.inr (.inl a)), none, x3, x4] st M := Iff.trans (zU_step dX7_digest_125 (Or.inl rfl)) ⟨fun h => h.2, fun h => ⟨show 1 + 1 < 5 by decide, h⟩⟩
theorem dX7_digest_126 : decode cX7_digest 126 = .ok (.iinc 3 1, 3) := by decide +kernel
theorem rX7_digest_126 {R : zP} {x0 x1 x4 : Option zV} {st : List zV} {M : zM} {a : Int} : uX7_digest R 126 [x0, x1, none, some (.inl a), x4] st M ↔ uX7_digest R 129 [x0, x1, none, some (.inl (a + (1))), x4] st M := Iff.trans (zU_step dX7_digest_126 (Or.inl rfl)) ⟨fun h => h.2, fun h => ⟨show 3 < 5 by decide, h⟩⟩
theorem rX7_digest_126z {R : zP} {x0 x1 x2 x4 : Option zV} {st : List zV} {M : zM} {a : Int} : uX7_digest R 126 [x0, x1, x2, some (.inl a), x4] st M ↔ uX7_digest R 129 [x0, x1, zkeep x2, some (.inl (a + (1))), x4] st M := Iff.trans (zU_step dX7_digest_126 (Or.inl rfl)) ⟨fun h => h.2, fun h => ⟨show 3 < 5 by decide, h⟩⟩
theorem dX7_digest_129 : decode cX7_digest 129 = .ok (.goto (-21), 3) := by decide +kernel
theorem rX7_digest_129 {R : zP} {x0 x1 x2 x3 x4 : Option zV} {st : List zV} {M : zM} : uX7_digest R 129 [x0, x1, x2, x3, x4] st M ↔ uX7_digest R 108 [x0, x1, x2, x3, x4] st M := Iff.trans (zU_step dX7_digest_129 (Or.inl rfl)) ⟨fun h => h.2, fun h => ⟨by decide, h⟩⟩
theorem dX7_digest_132 : decode cX7_digest 132 = .ok (.iconst 0, 1) := by decide +kernel
theorem rX7_digest_132 {R : zP} {x0 x1 x2 x3 x4 : Option zV} {st : List zV} {M : zM} : uX7_digest R 132 [x0, x1, x2, x3, x4] st M ↔ uX7_digest R 133 [x0, x1, x2, x3, x4] (.inl (0) :: st) M := zU_step dX7_digest_132 (Or.inl rfl)
theorem dX7_digest_133 : decode cX7_digest 133 = .ok (.istore_n 3, 1) := by decide +kernel
theorem rX7_digest_133 {R : zP} {x0 x1 x3 x4 : Option zV} {st : List zV} {M : zM} {a : Int} : uX7_digest R 133 [x0, x1, none, x3, x4] (.inl a :: st) M ↔ uX7_digest R 134 [x0, x1, none, some (.inl a), x4] st M := Iff.trans (zU_step dX7_digest_133 (Or.inl rfl)) ⟨fun h => h.2, fun h => ⟨show 3 < 5 by decide, h⟩⟩
theorem rX7_digest_133z {R : zP} {x0 x1 x2 x3 x4 : Option zV} {st : List zV} {M : zM} {a : Int} : uX7_digest R 133 [x0, x1, x2, x3, x4] (.inl a :: st) M ↔ uX7_digest R 134 [x0, x1, zkeep x2, some (.inl a), x4] st M := Iff.trans (zU_step dX7_digest_133 (Or.inl rfl)) ⟨fun h => h.2, fun h => ⟨show 3 < 5 by decide, h⟩⟩
theorem dX7_digest_134 : decode cX7_digest 134 = .ok (.iload_n 3, 1) := by decide +kernel
theorem rX7_digest_134 {R : zP} {x0 x1 x2 x4 : Option zV} {st : List zV} {M : zM} {a : Int} : uX7_digest R 134 [x0, x1, x2, some (.inl a), x4] st M ↔ uX7_digest R 135 [x0, x1, x2, some (.inl a), x4] (.inl a :: st) M := zU_step dX7_digest_134 (Or.inl rfl)
theorem dX7_digest_135 : decode cX7_digest 135 = .ok (.iconst 4, 1) := by decide +kernel
theorem rX7_digest_135 {R : zP} {x0 x1 x2 x3 x4 : Option zV} {st : List zV} {M : zM} : uX7_digest R 135 [x0, x1, x2, x3, x4] st M ↔ uX7_digest R 136 [x0, x1, x2, x3, x4] (.inl (4) :: st) M := zU_step dX7_digest_135 (Or.inl rfl)
theorem dX7_digest_136 : decode cX7_digest 136 = .ok (.if_icmp .ge 16, 3) := by decide +kernel
theorem rX7_digest_136 {R : zP} {x0 x1 x2 x3 x4 : Option zV} {st : List zV} {M : zM} {a b : Int} : uX7_digest R 136 [x0, x1, x2, x3, x4] (.inl b :: .inl a :: st) M ↔ ((zIR a ∧ zIR b) ∧ if b ≤ a then uX7_digest R 152 [x0, x1, x2, x3, x4] st M else uX7_digest R 139 [x0, x1, x2, x3, x4] st M) := Iff.trans (zU_step dX7_digest_136 (Or.inl rfl)) ⟨fun h => ⟨⟨h.1.1, h.1.2.1⟩, (zite (c := b ≤ a)).mpr h.2⟩, fun h => ⟨⟨h.1.1, h.1.2, by decide⟩, (zite (c := b ≤ a)).mp h.2⟩⟩
theorem dX7_digest_139 : decode cX7_digest 139 = .ok (.aload_n 0, 1) := by decide +kernel
theorem rX7_digest_139 {R : zP} {x1 x2 x3 x4 : Option zV} {st : List zV} {M : zM} {a : Nat} : uX7_digest R 139 [some (.inr (.inr a)), x1, x2, x3, x4] st M ↔ uX7_digest R 140 [some (.inr (.inr a)), x1, x2, x3, x4] (.inr (.inr a) :: st) M := zU_step dX7_digest_139 (Or.inl rfl)
theorem dX7_digest_140 : decode cX7_digest 140 = .ok (.lload_n 1, 1) := by decide +kernel
theorem rX7_digest_140 {R : zP} {x0 x2 x3 x4 : Option zV} {st : List zV} {M : zM} {a : Int} : uX7_digest R 140 [x0, some (.inr (.inl a)), x2, x3, x4] st M ↔ uX7_digest R 141 [x0, some (.inr (.inl a)), x2, x3, x4] (.inr (.inl a) :: st) M := zU_step dX7_digest_140 (Or.inl rfl)
theorem dX7_digest_141 : decode cX7_digest 141 = .ok (.iload_n 3, 1) := by decide +kernel
theorem rX7_digest_141 {R : zP} {x0 x1 x2 x4 : Option zV} {st : List zV} {M : zM} {a : Int} : uX7_digest R 141 [x0, x1, x2, some (.inl a), x4] st M ↔ uX7_digest R 142 [x0, x1, x2, some (.inl a), x4] (.inl a :: st) M := zU_step dX7_digest_141 (Or.inl rfl)
theorem dX7_digest_142 : decode cX7_digest 142 = .ok (.invokevirtual 337, 3) := by decide +kernel
theorem rX7_digest_142 {R : zP} {x0 x1 x2 x3 x4 : Option zV} {st : List zV} {M : zM} {a0 a1 a2 : zV} : uX7_digest R 142 [x0, x1, x2, x3, x4] (a2 :: a1 :: a0 :: st) M ↔ (st.length ≤ 4 ∧ zcv (zv 7 tX7_mixQuestion) [a0, a1, a2] M (fun v M => uX7_digest R 145 [x0, x1, x2, x3, x4] (v :: st) M)) := Iff.trans (zU_step dX7_digest_142 (Or.inl rfl)) ⟨fun h => ⟨h.2.1, zcv_of h.2.2⟩, fun h => ⟨rfl, h.1, zcv_to h.2⟩⟩
theorem dX7_digest_145 : decode cX7_digest 145 = .ok (.lstore_n 1, 1) := by decide +kernel
theorem rX7_digest_145 {R : zP} {x1 x2 x3 x4 : Option zV} {st : List zV} {M : zM} {a : Int} {y : Nat} : uX7_digest R 145 [some (.inr (.inr y)), x1, x2, x3, x4] (.inr (.inl a) :: st) M ↔ uX7_digest R 146 [some (.inr (.inr y)), some (.inr (.inl a)), none, x3, x4] st M := Iff.trans (zU_step dX7_digest_145 (Or.inl rfl)) ⟨fun h => h.2, fun h => ⟨show 1 + 1 < 5 by decide, h⟩⟩
theorem rX7_digest_145z {R : zP} {x0 x1 x2 x3 x4 : Option zV} {st : List zV} {M : zM} {a : Int} : uX7_digest R 145 [x0, x1, x2, x3, x4] (.inr (.inl a) :: st) M ↔ uX7_digest R 146 [zkeep x0, some (.inr (.inl a)), none, x3, x4] st M := Iff.trans (zU_step dX7_digest_145 (Or.inl rfl)) ⟨fun h => h.2, fun h => ⟨show 1 + 1 < 5 by decide, h⟩⟩
theorem dX7_digest_146 : decode cX7_digest 146 = .ok (.iinc 3 1, 3) := by decide +kernel
theorem rX7_digest_146 {R : zP} {x0 x1 x4 : Option zV} {st : List zV} {M : zM} {a : Int} : uX7_digest R 146 [x0, x1, none, some (.inl a), x4] st M ↔ uX7_digest R 149 [x0, x1, none, some (.inl (a + (1))), x4] st M := Iff.trans (zU_step dX7_digest_146 (Or.inl rfl)) ⟨fun h => h.2, fun h => ⟨show 3 < 5 by decide, h⟩⟩
theorem rX7_digest_146z {R : zP} {x0 x1 x2 x4 : Option zV} {st : List zV} {M : zM} {a : Int} : uX7_digest R 146 [x0, x1, x2, some (.inl a), x4] st M ↔ uX7_digest R 149 [x0, x1, zkeep x2, some (.inl (a + (1))), x4] st M := Iff.trans (zU_step dX7_digest_146 (Or.inl rfl)) ⟨fun h => h.2, fun h => ⟨show 3 < 5 by decide, h⟩⟩
theorem dX7_digest_149 : decode cX7_digest 149 = .ok (.goto (-15), 3) := by decide +kernel
theorem rX7_digest_149 {R : zP} {x0 x1 x2 x3 x4 : Option zV} {st : List zV} {M : zM} : uX7_digest R 149 [x0, x1, x2, x3, x4] st M ↔ uX7_digest R 134 [x0, x1, x2, x3, x4] st M := Iff.trans (zU_step dX7_digest_149 (Or.inl rfl)) ⟨fun h => h.2, fun h => ⟨by decide, h⟩⟩
theorem dX7_digest_152 : decode cX7_digest 152 = .ok (.iconst 0, 1) := by decide +kernel
theorem rX7_digest_152 {R : zP} {x0 x1 x2 x3 x4 : Option zV} {st : List zV} {M : zM} : uX7_digest R 152 [x0, x1, x2, x3, x4] st M ↔ uX7_digest R 153 [x0, x1, x2, x3, x4] (.inl (0) :: st) M := zU_step dX7_digest_152 (Or.inl rfl)
theorem dX7_digest_153 : decode cX7_digest 153 = .ok (.istore_n 3, 1) := by decide +kernel
theorem rX7_digest_153 {R : zP} {x0 x1 x3 x4 : Option zV} {st : List zV} {M : zM} {a : Int} : uX7_digest R 153 [x0, x1, none, x3, x4] (.inl a :: st) M ↔ uX7_digest R 154 [x0, x1, none, some (.inl a), x4] st M := Iff.trans (zU_step dX7_digest_153 (Or.inl rfl)) ⟨fun h => h.2, fun h => ⟨show 3 < 5 by decide, h⟩⟩
theorem rX7_digest_153z {R : zP} {x0 x1 x2 x3 x4 : Option zV} {st : List zV} {M : zM} {a : Int} : uX7_digest R 153 [x0, x1, x2, x3, x4] (.inl a :: st) M ↔ uX7_digest R 154 [x0, x1, zkeep x2, some (.inl a), x4] st M := Iff.trans (zU_step dX7_digest_153 (Or.inl rfl)) ⟨fun h => h.2, fun h => ⟨show 3 < 5 by decide, h⟩⟩
theorem dX7_digest_154 : decode cX7_digest 154 = .ok (.iload_n 3, 1) := by decide +kernel
theorem rX7_digest_154 {R : zP} {x0 x1 x2 x4 : Option zV} {st : List zV} {M : zM} {a : Int} : uX7_digest R 154 [x0, x1, x2, some (.inl a), x4] st M ↔ uX7_digest R 155 [x0, x1, x2, some (.inl a), x4] (.inl a :: st) M := zU_step dX7_digest_154 (Or.inl rfl)
theorem dX7_digest_155 : decode cX7_digest 155 = .ok (.iconst 2, 1) := by decide +kernel
theorem rX7_digest_155 {R : zP} {x0 x1 x2 x3 x4 : Option zV} {st : List zV} {M : zM} : uX7_digest R 155 [x0, x1, x2, x3, x4] st M ↔ uX7_digest R 156 [x0, x1, x2, x3, x4] (.inl (2) :: st) M := zU_step dX7_digest_155 (Or.inl rfl)
theorem dX7_digest_156 : decode cX7_digest 156 = .ok (.if_icmp .gt 22, 3) := by decide +kernel
theorem rX7_digest_156 {R : zP} {x0 x1 x2 x3 x4 : Option zV} {st : List zV} {M : zM} {a b : Int} : uX7_digest R 156 [x0, x1, x2, x3, x4] (.inl b :: .inl a :: st) M ↔ ((zIR a ∧ zIR b) ∧ if b < a then uX7_digest R 178 [x0, x1, x2, x3, x4] st M else uX7_digest R 159 [x0, x1, x2, x3, x4] st M) := Iff.trans (zU_step dX7_digest_156 (Or.inl rfl)) ⟨fun h => ⟨⟨h.1.1, h.1.2.1⟩, (zite (c := b < a)).mpr h.2⟩, fun h => ⟨⟨h.1.1, h.1.2, by decide⟩, (zite (c := b < a)).mp h.2⟩⟩
theorem dX7_digest_159 : decode cX7_digest 159 = .ok (.ldc2_w 322, 3) := by decide +kernel
theorem rX7_digest_159 {R : zP} {x0 x1 x2 x3 x4 : Option zV} {st : List zV} {M : zM} : uX7_digest R 159 [x0, x1, x2, x3, x4] st M ↔ uX7_digest R 162 [x0, x1, x2, x3, x4] (.inr (.inl (31)) :: st) M := zU_step dX7_digest_159 (Or.inl rfl)
theorem dX7_digest_162 : decode cX7_digest 162 = .ok (.lload_n 1, 1) := by decide +kernel
theorem rX7_digest_162 {R : zP} {x0 x2 x3 x4 : Option zV} {st : List zV} {M : zM} {a : Int} : uX7_digest R 162 [x0, some (.inr (.inl a)), x2, x3, x4] st M ↔ uX7_digest R 163 [x0, some (.inr (.inl a)), x2, x3, x4] (.inr (.inl a) :: st) M := zU_step dX7_digest_162 (Or.inl rfl)
theorem dX7_digest_163 : decode cX7_digest 163 = .ok (.lmul, 1) := by decide +kernel
theorem rX7_digest_163 {R : zP} {x0 x1 x2 x3 x4 : Option zV} {st : List zV} {M : zM} {a b : Int} : uX7_digest R 163 [x0, x1, x2, x3, x4] (.inr (.inl b) :: .inr (.inl a) :: st) M ↔ uX7_digest R 164 [x0, x1, x2, x3, x4] (.inr (.inl (a * b)) :: st) M := zU_step dX7_digest_163 (Or.inl rfl)
theorem dX7_digest_164 : decode cX7_digest 164 = .ok (.aload_n 0, 1) := by decide +kernel
theorem rX7_digest_164 {R : zP} {x1 x2 x3 x4 : Option zV} {st : List zV} {M : zM} {a : Nat} : uX7_digest R 164 [some (.inr (.inr a)), x1, x2, x3, x4] st M ↔ uX7_digest R 165 [some (.inr (.inr a)), x1, x2, x3, x4] (.inr (.inr a) :: st) M := zU_step dX7_digest_164 (Or.inl rfl)
theorem dX7_digest_165 : decode cX7_digest 165 = .ok (.iload_n 3, 1) := by decide +kernel
theorem rX7_digest_165 {R : zP} {x0 x1 x2 x4 : Option zV} {st : List zV} {M : zM} {a : Int} : uX7_digest R 165 [x0, x1, x2, some (.inl a), x4] st M ↔ uX7_digest R 166 [x0, x1, x2, some (.inl a), x4] (.inl a :: st) M := zU_step dX7_digest_165 (Or.inl rfl)
theorem dX7_digest_166 : decode cX7_digest 166 = .ok (.invokevirtual 340, 3) := by decide +kernel
theorem rX7_digest_166 {R : zP} {x0 x1 x2 x3 x4 : Option zV} {st : List zV} {M : zM} {a0 a1 : zV} : uX7_digest R 166 [x0, x1, x2, x3, x4] (a1 :: a0 :: st) M ↔ (st.length ≤ 4 ∧ zcv (zv 7 tX7_pusey) [a0, a1] M (fun v M => uX7_digest R 169 [x0, x1, x2, x3, x4] (v :: st) M)) := Iff.trans (zU_step dX7_digest_166 (Or.inl rfl)) ⟨fun h => ⟨h.2.1, zcv_of h.2.2⟩, fun h => ⟨rfl, h.1, zcv_to h.2⟩⟩
theorem dX7_digest_169 : decode cX7_digest 169 = .ok (.i2l, 1) := by decide +kernel
theorem rX7_digest_169 {R : zP} {x0 x1 x2 x3 x4 : Option zV} {st : List zV} {M : zM} {a : Int} : uX7_digest R 169 [x0, x1, x2, x3, x4] (.inl a :: st) M ↔ (zIR a ∧ uX7_digest R 170 [x0, x1, x2, x3, x4] (.inr (.inl a) :: st) M) := zU_step dX7_digest_169 (Or.inl rfl)
theorem dX7_digest_170 : decode cX7_digest 170 = .ok (.ladd, 1) := by decide +kernel
theorem rX7_digest_170 {R : zP} {x0 x1 x2 x3 x4 : Option zV} {st : List zV} {M : zM} {a b : Int} : uX7_digest R 170 [x0, x1, x2, x3, x4] (.inr (.inl b) :: .inr (.inl a) :: st) M ↔ uX7_digest R 171 [x0, x1, x2, x3, x4] (.inr (.inl (a + b)) :: st) M := zU_step dX7_digest_170 (Or.inl rfl)
theorem dX7_digest_171 : decode cX7_digest 171 = .ok (.lstore_n 1, 1) := by decide +kernel
theorem rX7_digest_171 {R : zP} {x1 x2 x3 x4 : Option zV} {st : List zV} {M : zM} {a : Int} {y : Nat} : uX7_digest R 171 [some (.inr (.inr y)), x1, x2, x3, x4] (.inr (.inl a) :: st) M ↔ uX7_digest R 172 [some (.inr (.inr y)), some (.inr (.inl a)), none, x3, x4] st M := Iff.trans (zU_step dX7_digest_171 (Or.inl rfl)) ⟨fun h => h.2, fun h => ⟨show 1 + 1 < 5 by decide, h⟩⟩
theorem rX7_digest_171z {R : zP} {x0 x1 x2 x3 x4 : Option zV} {st : List zV} {M : zM} {a : Int} : uX7_digest R 171 [x0, x1, x2, x3, x4] (.inr (.inl a) :: st) M ↔ uX7_digest R 172 [zkeep x0, some (.inr (.inl a)), none, x3, x4] st M := Iff.trans (zU_step dX7_digest_171 (Or.inl rfl)) ⟨fun h => h.2, fun h => ⟨show 1 + 1 < 5 by decide, h⟩⟩
theorem dX7_digest_172 : decode cX7_digest 172 = .ok (.iinc 3 1, 3) := by decide +kernel
theorem rX7_digest_172 {R : zP} {x0 x1 x4 : Option zV} {st : List zV} {M : zM} {a : Int} : uX7_digest R 172 [x0, x1, none, some (.inl a), x4] st M ↔ uX7_digest R 175 [x0, x1, none, some (.inl (a + (1))), x4] st M := Iff.trans (zU_step dX7_digest_172 (Or.inl rfl)) ⟨fun h => h.2, fun h => ⟨show 3 < 5 by decide, h⟩⟩
theorem rX7_digest_172z {R : zP} {x0 x1 x2 x4 : Option zV} {st : List zV} {M : zM} {a : Int} : uX7_digest R 172 [x0, x1, x2, some (.inl a), x4] st M ↔ uX7_digest R 175 [x0, x1, zkeep x2, some (.inl (a + (1))), x4] st M := Iff.trans (zU_step dX7_digest_172 (Or.inl rfl)) ⟨fun h => h.2, fun h => ⟨show 3 < 5 by decide, h⟩⟩
theorem dX7_digest_175 : decode cX7_digest 175 = .ok (.goto (-21), 3) := by decide +kernel
theorem rX7_digest_175 {R : zP} {x0 x1 x2 x3 x4 : Option zV} {st : List zV} {M : zM} : uX7_digest R 175 [x0, x1, x2, x3, x4] st M ↔ uX7_digest R 154 [x0, x1, x2, x3, x4] st M := Iff.trans (zU_step dX7_digest_175 (Or.inl rfl)) ⟨fun h => h.2, fun h => ⟨by decide, h⟩⟩
theorem dX7_digest_178 : decode cX7_digest 178 = .ok (.ldc2_w 322, 3) := by decide +kernel
theorem rX7_digest_178 {R : zP} {x0 x1 x2 x3 x4 : Option zV} {st : List zV} {M : zM} : uX7_digest R 178 [x0, x1, x2, x3, x4] st M ↔ uX7_digest R 181 [x0, x1, x2, x3, x4] (.inr (.inl (31)) :: st) M := zU_step dX7_digest_178 (Or.inl rfl)
theorem dX7_digest_181 : decode cX7_digest 181 = .ok (.lload_n 1, 1) := by decide +kernel
theorem rX7_digest_181 {R : zP} {x0 x2 x3 x4 : Option zV} {st : List zV} {M : zM} {a : Int} : uX7_digest R 181 [x0, some (.inr (.inl a)), x2, x3, x4] st M ↔ uX7_digest R 182 [x0, some (.inr (.inl a)), x2, x3, x4] (.inr (.inl a) :: st) M := zU_step dX7_digest_181 (Or.inl rfl)
theorem dX7_digest_182 : decode cX7_digest 182 = .ok (.lmul, 1) := by decide +kernel
theorem rX7_digest_182 {R : zP} {x0 x1 x2 x3 x4 : Option zV} {st : List zV} {M : zM} {a b : Int} : uX7_digest R 182 [x0, x1, x2, x3, x4] (.inr (.inl b) :: .inr (.inl a) :: st) M ↔ uX7_digest R 183 [x0, x1, x2, x3, x4] (.inr (.inl (a * b)) :: st) M := zU_step dX7_digest_182 (Or.inl rfl)
theorem dX7_digest_183 : decode cX7_digest 183 = .ok (.aload_n 0, 1) := by decide +kernel
theorem rX7_digest_183 {R : zP} {x1 x2 x3 x4 : Option zV} {st : List zV} {M : zM} {a : Nat} : uX7_digest R 183 [some (.inr (.inr a)), x1, x2, x3, x4] st M ↔ uX7_digest R 184 [some (.inr (.inr a)), x1, x2, x3, x4] (.inr (.inr a) :: st) M := zU_step dX7_digest_183 (Or.inl rfl)
theorem dX7_digest_184 : decode cX7_digest 184 = .ok (.invokevirtual 343, 3) := by decide +kernel
theorem rX7_digest_184 {R : zP} {x0 x1 x2 x3 x4 : Option zV} {st : List zV} {M : zM} {a0 : zV} : uX7_digest R 184 [x0, x1, x2, x3, x4] (a0 :: st) M ↔ (st.length ≤ 4 ∧ zcv (zv 7 tX7_weaned) [a0] M (fun v M => uX7_digest R 187 [x0, x1, x2, x3, x4] (v :: st) M)) := Iff.trans (zU_step dX7_digest_184 (Or.inl rfl)) ⟨fun h => ⟨h.2.1, zcv_of h.2.2⟩, fun h => ⟨rfl, h.1, zcv_to h.2⟩⟩
theorem dX7_digest_187 : decode cX7_digest 187 = .ok (.i2l, 1) := by decide +kernel
theorem rX7_digest_187 {R : zP} {x0 x1 x2 x3 x4 : Option zV} {st : List zV} {M : zM} {a : Int} : uX7_digest R 187 [x0, x1, x2, x3, x4] (.inl a :: st) M ↔ (zIR a ∧ uX7_digest R 188 [x0, x1, x2, x3, x4] (.inr (.inl a) :: st) M) := zU_step dX7_digest_187 (Or.inl rfl)
theorem dX7_digest_188 : decode cX7_digest 188 = .ok (.ladd, 1) := by decide +kernel
theorem rX7_digest_188 {R : zP} {x0 x1 x2 x3 x4 : Option zV} {st : List zV} {M : zM} {a b : Int} : uX7_digest R 188 [x0, x1, x2, x3, x4] (.inr (.inl b) :: .inr (.inl a) :: st) M ↔ uX7_digest R 189 [x0, x1, x2, x3, x4] (.inr (.inl (a + b)) :: st) M := zU_step dX7_digest_188 (Or.inl rfl)
theorem dX7_digest_189 : decode cX7_digest 189 = .ok (.lstore_n 1, 1) := by decide +kernel
theorem rX7_digest_189 {R : zP} {x1 x2 x3 x4 : Option zV} {st : List zV} {M : zM} {a : Int} {y : Nat} : uX7_digest R 189 [some (.inr (.inr y)), x1, x2, x3, x4] (.inr (.inl a) :: st) M ↔ uX7_digest R 190 [some (.inr (.inr y)), some (.inr (.inl a)), none, x3, x4] st M := Iff.trans (zU_step dX7_digest_189 (Or.inl rfl)) ⟨fun h => h.2, fun h => ⟨show 1 + 1 < 5 by decide, h⟩⟩
theorem rX7_digest_189z {R : zP} {x0 x1 x2 x3 x4 : Option zV} {st : List zV} {M : zM} {a : Int} : uX7_digest R 189 [x0, x1, x2, x3, x4] (.inr (.inl a) :: st) M ↔ uX7_digest R 190 [zkeep x0, some (.inr (.inl a)), none, x3, x4] st M := Iff.trans (zU_step dX7_digest_189 (Or.inl rfl)) ⟨fun h => h.2, fun h => ⟨show 1 + 1 < 5 by decide, h⟩⟩
theorem dX7_digest_190 : decode cX7_digest 190 = .ok (.ldc2_w 322, 3) := by decide +kernel
theorem rX7_digest_190 {R : zP} {x0 x1 x2 x3 x4 : Option zV} {st : List zV} {M : zM} : uX7_digest R 190 [x0, x1, x2, x3, x4] st M ↔ uX7_digest R 193 [x0, x1, x2, x3, x4] (.inr (.inl (31)) :: st) M := zU_step dX7_digest_190 (Or.inl rfl)
theorem dX7_digest_193 : decode cX7_digest 193 = .ok (.lload_n 1, 1) := by decide +kernel
theorem rX7_digest_193 {R : zP} {x0 x2 x3 x4 : Option zV} {st : List zV} {M : zM} {a : Int} : uX7_digest R 193 [x0, some (.inr (.inl a)), x2, x3, x4] st M ↔ uX7_digest R 194 [x0, some (.inr (.inl a)), x2, x3, x4] (.inr (.inl a) :: st) M := zU_step dX7_digest_193 (Or.inl rfl)
theorem dX7_digest_194 : decode cX7_digest 194 = .ok (.lmul, 1) := by decide +kernel
theorem rX7_digest_194 {R : zP} {x0 x1 x2 x3 x4 : Option zV} {st : List zV} {M : zM} {a b : Int} : uX7_digest R 194 [x0, x1, x2, x3, x4] (.inr (.inl b) :: .inr (.inl a) :: st) M ↔ uX7_digest R 195 [x0, x1, x2, x3, x4] (.inr (.inl (a * b)) :: st) M := zU_step dX7_digest_194 (Or.inl rfl)
theorem dX7_digest_195 : decode cX7_digest 195 = .ok (.aload_n 0, 1) := by decide +kernel
theorem rX7_digest_195 {R : zP} {x1 x2 x3 x4 : Option zV} {st : List zV} {M : zM} {a : Nat} : uX7_digest R 195 [some (.inr (.inr a)), x1, x2, x3, x4] st M ↔ uX7_digest R 196 [some (.inr (.inr a)), x1, x2, x3, x4] (.inr (.inr a) :: st) M := zU_step dX7_digest_195 (Or.inl rfl)
theorem dX7_digest_196 : decode cX7_digest 196 = .ok (.iconst (-1), 1) := by decide +kernel
theorem rX7_digest_196 {R : zP} {x0 x1 x2 x3 x4 : Option zV} {st : List zV} {M : zM} : uX7_digest R 196 [x0, x1, x2, x3, x4] st M ↔ uX7_digest R 197 [x0, x1, x2, x3, x4] (.inl (-1) :: st) M := zU_step dX7_digest_196 (Or.inl rfl)
theorem dX7_digest_197 : decode cX7_digest 197 = .ok (.invokevirtual 346, 3) := by decide +kernel
theorem rX7_digest_197 {R : zP} {x0 x1 x2 x3 x4 : Option zV} {st : List zV} {M : zM} {a0 a1 : zV} : uX7_digest R 197 [x0, x1, x2, x3, x4] (a1 :: a0 :: st) M ↔ (st.length ≤ 4 ∧ zcv (zv 7 tX7_spare) [a0, a1] M (fun v M => uX7_digest R 200 [x0, x1, x2, x3, x4] (v :: st) M)) := Iff.trans (zU_step dX7_digest_197 (Or.inl rfl)) ⟨fun h => ⟨h.2.1, zcv_of h.2.2⟩, fun h => ⟨rfl, h.1, zcv_to h.2⟩⟩
theorem dX7_digest_200 : decode cX7_digest 200 = .ok (.i2l, 1) := by decide +kernel
theorem rX7_digest_200 {R : zP} {x0 x1 x2 x3 x4 : Option zV} {st : List zV} {M : zM} {a : Int} : uX7_digest R 200 [x0, x1, x2, x3, x4] (.inl a :: st) M ↔ (zIR a ∧ uX7_digest R 201 [x0, x1, x2, x3, x4] (.inr (.inl a) :: st) M) := zU_step dX7_digest_200 (Or.inl rfl)
theorem dX7_digest_201 : decode cX7_digest 201 = .ok (.ladd, 1) := by decide +kernel
theorem rX7_digest_201 {R : zP} {x0 x1 x2 x3 x4 : Option zV} {st : List zV} {M : zM} {a b : Int} : uX7_digest R 201 [x0, x1, x2, x3, x4] (.inr (.inl b) :: .inr (.inl a) :: st) M ↔ uX7_digest R 202 [x0, x1, x2, x3, x4] (.inr (.inl (a + b)) :: st) M := zU_step dX7_digest_201 (Or.inl rfl)
theorem dX7_digest_202 : decode cX7_digest 202 = .ok (.lstore_n 1, 1) := by decide +kernel
theorem rX7_digest_202 {R : zP} {x1 x2 x3 x4 : Option zV} {st : List zV} {M : zM} {a : Int} {y : Nat} : uX7_digest R 202 [some (.inr (.inr y)), x1, x2, x3, x4] (.inr (.inl a) :: st) M ↔ uX7_digest R 203 [some (.inr (.inr y)), some (.inr (.inl a)), none, x3, x4] st M := Iff.trans (zU_step dX7_digest_202 (Or.inl rfl)) ⟨fun h => h.2, fun h => ⟨show 1 + 1 < 5 by decide, h⟩⟩
theorem rX7_digest_202z {R : zP} {x0 x1 x2 x3 x4 : Option zV} {st : List zV} {M : zM} {a : Int} : uX7_digest R 202 [x0, x1, x2, x3, x4] (.inr (.inl a) :: st) M ↔ uX7_digest R 203 [zkeep x0, some (.inr (.inl a)), none, x3, x4] st M := Iff.trans (zU_step dX7_digest_202 (Or.inl rfl)) ⟨fun h => h.2, fun h => ⟨show 1 + 1 < 5 by decide, h⟩⟩
theorem dX7_digest_203 : decode cX7_digest 203 = .ok (.ldc2_w 322, 3) := by decide +kernel
theorem rX7_digest_203 {R : zP} {x0 x1 x2 x3 x4 : Option zV} {st : List zV} {M : zM} : uX7_digest R 203 [x0, x1, x2, x3, x4] st M ↔ uX7_digest R 206 [x0, x1, x2, x3, x4] (.inr (.inl (31)) :: st) M := zU_step dX7_digest_203 (Or.inl rfl)
theorem dX7_digest_206 : decode cX7_digest 206 = .ok (.lload_n 1, 1) := by decide +kernel
theorem rX7_digest_206 {R : zP} {x0 x2 x3 x4 : Option zV} {st : List zV} {M : zM} {a : Int} : uX7_digest R 206 [x0, some (.inr (.inl a)), x2, x3, x4] st M ↔ uX7_digest R 207 [x0, some (.inr (.inl a)), x2, x3, x4] (.inr (.inl a) :: st) M := zU_step dX7_digest_206 (Or.inl rfl)
theorem dX7_digest_207 : decode cX7_digest 207 = .ok (.lmul, 1) := by decide +kernel
theorem rX7_digest_207 {R : zP} {x0 x1 x2 x3 x4 : Option zV} {st : List zV} {M : zM} {a b : Int} : uX7_digest R 207 [x0, x1, x2, x3, x4] (.inr (.inl b) :: .inr (.inl a) :: st) M ↔ uX7_digest R 208 [x0, x1, x2, x3, x4] (.inr (.inl (a * b)) :: st) M := zU_step dX7_digest_207 (Or.inl rfl)
theorem dX7_digest_208 : decode cX7_digest 208 = .ok (.aload_n 0, 1) := by decide +kernel
theorem rX7_digest_208 {R : zP} {x1 x2 x3 x4 : Option zV} {st : List zV} {M : zM} {a : Nat} : uX7_digest R 208 [some (.inr (.inr a)), x1, x2, x3, x4] st M ↔ uX7_digest R 209 [some (.inr (.inr a)), x1, x2, x3, x4] (.inr (.inr a) :: st) M := zU_step dX7_digest_208 (Or.inl rfl)
theorem dX7_digest_209 : decode cX7_digest 209 = .ok (.iconst 0, 1) := by decide +kernel
theorem rX7_digest_209 {R : zP} {x0 x1 x2 x3 x4 : Option zV} {st : List zV} {M : zM} : uX7_digest R 209 [x0, x1, x2, x3, x4] st M ↔ uX7_digest R 210 [x0, x1, x2, x3, x4] (.inl (0) :: st) M := zU_step dX7_digest_209 (Or.inl rfl)
theorem dX7_digest_210 : decode cX7_digest 210 = .ok (.invokevirtual 346, 3) := by decide +kernel
theorem rX7_digest_210 {R : zP} {x0 x1 x2 x3 x4 : Option zV} {st : List zV} {M : zM} {a0 a1 : zV} : uX7_digest R 210 [x0, x1, x2, x3, x4] (a1 :: a0 :: st) M ↔ (st.length ≤ 4 ∧ zcv (zv 7 tX7_spare) [a0, a1] M (fun v M => uX7_digest R 213 [x0, x1, x2, x3, x4] (v :: st) M)) := Iff.trans (zU_step dX7_digest_210 (Or.inl rfl)) ⟨fun h => ⟨h.2.1, zcv_of h.2.2⟩, fun h => ⟨rfl, h.1, zcv_to h.2⟩⟩
theorem dX7_digest_213 : decode cX7_digest 213 = .ok (.i2l, 1) := by decide +kernel
theorem rX7_digest_213 {R : zP} {x0 x1 x2 x3 x4 : Option zV} {st : List zV} {M : zM} {a : Int} : uX7_digest R 213 [x0, x1, x2, x3, x4] (.inl a :: st) M ↔ (zIR a ∧ uX7_digest R 214 [x0, x1, x2, x3, x4] (.inr (.inl a) :: st) M) := zU_step dX7_digest_213 (Or.inl rfl)
theorem dX7_digest_214 : decode cX7_digest 214 = .ok (.ladd, 1) := by decide +kernel
theorem rX7_digest_214 {R : zP} {x0 x1 x2 x3 x4 : Option zV} {st : List zV} {M : zM} {a b : Int} : uX7_digest R 214 [x0, x1, x2, x3, x4] (.inr (.inl b) :: .inr (.inl a) :: st) M ↔ uX7_digest R 215 [x0, x1, x2, x3, x4] (.inr (.inl (a + b)) :: st) M := zU_step dX7_digest_214 (Or.inl rfl)
theorem dX7_digest_215 : decode cX7_digest 215 = .ok (.lstore_n 1, 1) := by decide +kernel
theorem rX7_digest_215 {R : zP} {x1 x2 x3 x4 : Option zV} {st : List zV} {M : zM} {a : Int} {y : Nat} : uX7_digest R 215 [some (.inr (.inr y)), x1, x2, x3, x4] (.inr (.inl a) :: st) M ↔ uX7_digest R 216 [some (.inr (.inr y)), some (.inr (.inl a)), none, x3, x4] st M := Iff.trans (zU_step dX7_digest_215 (Or.inl rfl)) ⟨fun h => h.2, fun h => ⟨show 1 + 1 < 5 by decide, h⟩⟩
theorem rX7_digest_215z {R : zP} {x0 x1 x2 x3 x4 : Option zV} {st : List zV} {M : zM} {a : Int} : uX7_digest R 215 [x0, x1, x2, x3, x4] (.inr (.inl a) :: st) M ↔ uX7_digest R 216 [zkeep x0, some (.inr (.inl a)), none, x3, x4] st M := Iff.trans (zU_step dX7_digest_215 (Or.inl rfl)) ⟨fun h => h.2, fun h => ⟨show 1 + 1 < 5 by decide, h⟩⟩
theorem dX7_digest_216 : decode cX7_digest 216 = .ok (.ldc2_w 322, 3) := by decide +kernel
theorem rX7_digest_216 {R : zP} {x0 x1 x2 x3 x4 : Option zV} {st : List zV} {M : zM} : uX7_digest R 216 [x0, x1, x2, x3, x4] st M ↔ uX7_digest R 219 [x0, x1, x2, x3, x4] (.inr (.inl (31)) :: st) M := zU_step dX7_digest_216 (Or.inl rfl)
theorem dX7_digest_219 : decode cX7_digest 219 = .ok (.lload_n 1, 1) := by decide +kernel
theorem rX7_digest_219 {R : zP} {x0 x2 x3 x4 : Option zV} {st : List zV} {M : zM} {a : Int} : uX7_digest R 219 [x0, some (.inr (.inl a)), x2, x3, x4] st M ↔ uX7_digest R 220 [x0, some (.inr (.inl a)), x2, x3, x4] (.inr (.inl a) :: st) M := zU_step dX7_digest_219 (Or.inl rfl)
theorem dX7_digest_220 : decode cX7_digest 220 = .ok (.lmul, 1) := by decide +kernel
theorem rX7_digest_220 {R : zP} {x0 x1 x2 x3 x4 : Option zV} {st : List zV} {M : zM} {a b : Int} : uX7_digest R 220 [x0, x1, x2, x3, x4] (.inr (.inl b) :: .inr (.inl a) :: st) M ↔ uX7_digest R 221 [x0, x1, x2, x3, x4] (.inr (.inl (a * b)) :: st) M := zU_step dX7_digest_220 (Or.inl rfl)
theorem dX7_digest_221 : decode cX7_digest 221 = .ok (.aload_n 0, 1) := by decide +kernel
theorem rX7_digest_221 {R : zP} {x1 x2 x3 x4 : Option zV} {st : List zV} {M : zM} {a : Nat} : uX7_digest R 221 [some (.inr (.inr a)), x1, x2, x3, x4] st M ↔ uX7_digest R 222 [some (.inr (.inr a)), x1, x2, x3, x4] (.inr (.inr a) :: st) M := zU_step dX7_digest_221 (Or.inl rfl)
theorem dX7_digest_222 : decode cX7_digest 222 = .ok (.invokevirtual 349, 3) := by decide +kernel
theorem rX7_digest_222 {R : zP} {x0 x1 x2 x3 x4 : Option zV} {st : List zV} {M : zM} {a0 : zV} : uX7_digest R 222 [x0, x1, x2, x3, x4] (a0 :: st) M ↔ (st.length ≤ 4 ∧ zcv (zv 7 tX7_never) [a0] M (fun v M => uX7_digest R 225 [x0, x1, x2, x3, x4] (v :: st) M)) := Iff.trans (zU_step dX7_digest_222 (Or.inl rfl)) ⟨fun h => ⟨h.2.1, zcv_of h.2.2⟩, fun h => ⟨rfl, h.1, zcv_to h.2⟩⟩
theorem dX7_digest_225 : decode cX7_digest 225 = .ok (.i2l, 1) := by decide +kernel
theorem rX7_digest_225 {R : zP} {x0 x1 x2 x3 x4 : Option zV} {st : List zV} {M : zM} {a : Int} : uX7_digest R 225 [x0, x1, x2, x3, x4] (.inl a :: st) M ↔ (zIR a ∧ uX7_digest R 226 [x0, x1, x2, x3, x4] (.inr (.inl a) :: st) M) := zU_step dX7_digest_225 (Or.inl rfl)
theorem dX7_digest_226 : decode cX7_digest 226 = .ok (.ladd, 1) := by decide +kernel
theorem rX7_digest_226 {R : zP} {x0 x1 x2 x3 x4 : Option zV} {st : List zV} {M : zM} {a b : Int} : uX7_digest R 226 [x0, x1, x2, x3, x4] (.inr (.inl b) :: .inr (.inl a) :: st) M ↔ uX7_digest R 227 [x0, x1, x2, x3, x4] (.inr (.inl (a + b)) :: st) M := zU_step dX7_digest_226 (Or.inl rfl)
theorem dX7_digest_227 : decode cX7_digest 227 = .ok (.lstore_n 1, 1) := by decide +kernel
theorem rX7_digest_227 {R : zP} {x1 x2 x3 x4 : Option zV} {st : List zV} {M : zM} {a : Int} {y : Nat} : uX7_digest R 227 [some (.inr (.inr y)), x1, x2, x3, x4] (.inr (.inl a) :: st) M ↔ uX7_digest R 228 [some (.inr (.inr y)), some (.inr (.inl a)), none, x3, x4] st M := Iff.trans (zU_step dX7_digest_227 (Or.inl rfl)) ⟨fun h => h.2, fun h => ⟨show 1 + 1 < 5 by decide, h⟩⟩
theorem rX7_digest_227z {R : zP} {x0 x1 x2 x3 x4 : Option zV} {st : List zV} {M : zM} {a : Int} : uX7_digest R 227 [x0, x1, x2, x3, x4] (.inr (.inl a) :: st) M ↔ uX7_digest R 228 [zkeep x0, some (.inr (.inl a)), none, x3, x4] st M := Iff.trans (zU_step dX7_digest_227 (Or.inl rfl)) ⟨fun h => h.2, fun h => ⟨show 1 + 1 < 5 by decide, h⟩⟩
theorem dX7_digest_228 : decode cX7_digest 228 = .ok (.ldc2_w 322, 3) := by decide +kernel
theorem rX7_digest_228 {R : zP} {x0 x1 x2 x3 x4 : Option zV} {st : List zV} {M : zM} : uX7_digest R 228 [x0, x1, x2, x3, x4] st M ↔ uX7_digest R 231 [x0, x1, x2, x3, x4] (.inr (.inl (31)) :: st) M := zU_step dX7_digest_228 (Or.inl rfl)
theorem dX7_digest_231 : decode cX7_digest 231 = .ok (.lload_n 1, 1) := by decide +kernel
theorem rX7_digest_231 {R : zP} {x0 x2 x3 x4 : Option zV} {st : List zV} {M : zM} {a : Int} : uX7_digest R 231 [x0, some (.inr (.inl a)), x2, x3, x4] st M ↔ uX7_digest R 232 [x0, some (.inr (.inl a)), x2, x3, x4] (.inr (.inl a) :: st) M := zU_step dX7_digest_231 (Or.inl rfl)
theorem dX7_digest_232 : decode cX7_digest 232 = .ok (.lmul, 1) := by decide +kernel
theorem rX7_digest_232 {R : zP} {x0 x1 x2 x3 x4 : Option zV} {st : List zV} {M : zM} {a b : Int} : uX7_digest R 232 [x0, x1, x2, x3, x4] (.inr (.inl b) :: .inr (.inl a) :: st) M ↔ uX7_digest R 233 [x0, x1, x2, x3, x4] (.inr (.inl (a * b)) :: st) M := zU_step dX7_digest_232 (Or.inl rfl)
theorem dX7_digest_233 : decode cX7_digest 233 = .ok (.aload_n 0, 1) := by decide +kernel
theorem rX7_digest_233 {R : zP} {x1 x2 x3 x4 : Option zV} {st : List zV} {M : zM} {a : Nat} : uX7_digest R 233 [some (.inr (.inr a)), x1, x2, x3, x4] st M ↔ uX7_digest R 234 [some (.inr (.inr a)), x1, x2, x3, x4] (.inr (.inr a) :: st) M := zU_step dX7_digest_233 (Or.inl rfl)
theorem dX7_digest_234 : decode cX7_digest 234 = .ok (.bipush 7, 2) := by decide +kernel
theorem rX7_digest_234 {R : zP} {x0 x1 x2 x3 x4 : Option zV} {st : List zV} {M : zM} : uX7_digest R 234 [x0, x1, x2, x3, x4] st M ↔ uX7_digest R 236 [x0, x1, x2, x3, x4] (.inl (7) :: st) M := Iff.trans (zU_step dX7_digest_234 (Or.inl rfl)) ⟨fun h => h.2, fun h => ⟨by decide, h⟩⟩
theorem dX7_digest_236 : decode cX7_digest 236 = .ok (.bipush 6, 2) := by decide +kernel
theorem rX7_digest_236 {R : zP} {x0 x1 x2 x3 x4 : Option zV} {st : List zV} {M : zM} : uX7_digest R 236 [x0, x1, x2, x3, x4] st M ↔ uX7_digest R 238 [x0, x1, x2, x3, x4] (.inl (6) :: st) M := Iff.trans (zU_step dX7_digest_236 (Or.inl rfl)) ⟨fun h => h.2, fun h => ⟨by decide, h⟩⟩
theorem dX7_digest_238 : decode cX7_digest 238 = .ok (.iconst 0, 1) := by decide +kernel
theorem rX7_digest_238 {R : zP} {x0 x1 x2 x3 x4 : Option zV} {st : List zV} {M : zM} : uX7_digest R 238 [x0, x1, x2, x3, x4] st M ↔ uX7_digest R 239 [x0, x1, x2, x3, x4] (.inl (0) :: st) M := zU_step dX7_digest_238 (Or.inl rfl)
theorem dX7_digest_239 : decode cX7_digest 239 = .ok (.invokevirtual 352, 3) := by decide +kernel
theorem rX7_digest_239 {R : zP} {x0 x1 x2 x3 x4 : Option zV} {st : List zV} {M : zM} {a0 a1 a2 a3 : zV} : uX7_digest R 239 [x0, x1, x2, x3, x4] (a3 :: a2 :: a1 :: a0 :: st) M ↔ (st.length ≤ 4 ∧ zcv (zv 7 tX7_years) [a0, a1, a2, a3] M (fun v M => uX7_digest R 242 [x0, x1, x2, x3, x4] (v :: st) M)) := Iff.trans (zU_step dX7_digest_239 (Or.inl rfl)) ⟨fun h => ⟨h.2.1, zcv_of h.2.2⟩, fun h => ⟨rfl, h.1, zcv_to h.2⟩⟩
theorem dX7_digest_242 : decode cX7_digest 242 = .ok (.i2l, 1) := by decide +kernel
theorem rX7_digest_242 {R : zP} {x0 x1 x2 x3 x4 : Option zV} {st : List zV} {M : zM} {a : Int} : uX7_digest R 242 [x0, x1, x2, x3, x4] (.inl a :: st) M ↔ (zIR a ∧ uX7_digest R 243 [x0, x1, x2, x3, x4] (.inr (.inl a) :: st) M) := zU_step dX7_digest_242 (Or.inl rfl)
theorem dX7_digest_243 : decode cX7_digest 243 = .ok (.ladd, 1) := by decide +kernel
theorem rX7_digest_243 {R : zP} {x0 x1 x2 x3 x4 : Option zV} {st : List zV} {M : zM} {a b : Int} : uX7_digest R 243 [x0, x1, x2, x3, x4] (.inr (.inl b) :: .inr (.inl a) :: st) M ↔ uX7_digest R 244 [x0, x1, x2, x3, x4] (.inr (.inl (a + b)) :: st) M := zU_step dX7_digest_243 (Or.inl rfl)
theorem dX7_digest_244 : decode cX7_digest 244 = .ok (.lstore_n 1, 1) := by decide +kernel
theorem rX7_digest_244 {R : zP} {x1 x2 x3 x4 : Option zV} {st : List zV} {M : zM} {a : Int} {y : Nat} : uX7_digest R 244 [some (.inr (.inr y)), x1, x2, x3, x4] (.inr (.inl a) :: st) M ↔ uX7_digest R 245 [some (.inr (.inr y)), some (.inr (.inl a)), none, x3, x4] st M := Iff.trans (zU_step dX7_digest_244 (Or.inl rfl)) ⟨fun h => h.2, fun h => ⟨show 1 + 1 < 5 by decide, h⟩⟩
theorem rX7_digest_244z {R : zP} {x0 x1 x2 x3 x4 : Option zV} {st : List zV} {M : zM} {a : Int} : uX7_digest R 244 [x0, x1, x2, x3, x4] (.inr (.inl a) :: st) M ↔ uX7_digest R 245 [zkeep x0, some (.inr (.inl a)), none, x3, x4] st M := Iff.trans (zU_step dX7_digest_244 (Or.inl rfl)) ⟨fun h => h.2, fun h => ⟨show 1 + 1 < 5 by decide, h⟩⟩
theorem dX7_digest_245 : decode cX7_digest 245 = .ok (.ldc2_w 322, 3) := by decide +kernel
theorem rX7_digest_245 {R : zP} {x0 x1 x2 x3 x4 : Option zV} {st : List zV} {M : zM} : uX7_digest R 245 [x0, x1, x2, x3, x4] st M ↔ uX7_digest R 248 [x0, x1, x2, x3, x4] (.inr (.inl (31)) :: st) M := zU_step dX7_digest_245 (Or.inl rfl)
theorem dX7_digest_248 : decode cX7_digest 248 = .ok (.lload_n 1, 1) := by decide +kernel
theorem rX7_digest_248 {R : zP} {x0 x2 x3 x4 : Option zV} {st : List zV} {M : zM} {a : Int} : uX7_digest R 248 [x0, some (.inr (.inl a)), x2, x3, x4] st M ↔ uX7_digest R 249 [x0, some (.inr (.inl a)), x2, x3, x4] (.inr (.inl a) :: st) M := zU_step dX7_digest_248 (Or.inl rfl)
theorem dX7_digest_249 : decode cX7_digest 249 = .ok (.lmul, 1) := by decide +kernel
theorem rX7_digest_249 {R : zP} {x0 x1 x2 x3 x4 : Option zV} {st : List zV} {M : zM} {a b : Int} : uX7_digest R 249 [x0, x1, x2, x3, x4] (.inr (.inl b) :: .inr (.inl a) :: st) M ↔ uX7_digest R 250 [x0, x1, x2, x3, x4] (.inr (.inl (a * b)) :: st) M := zU_step dX7_digest_249 (Or.inl rfl)
theorem dX7_digest_250 : decode cX7_digest 250 = .ok (.aload_n 0, 1) := by decide +kernel
theorem rX7_digest_250 {R : zP} {x1 x2 x3 x4 : Option zV} {st : List zV} {M : zM} {a : Nat} : uX7_digest R 250 [some (.inr (.inr a)), x1, x2, x3, x4] st M ↔ uX7_digest R 251 [some (.inr (.inr a)), x1, x2, x3, x4] (.inr (.inr a) :: st) M := zU_step dX7_digest_250 (Or.inl rfl)
theorem dX7_digest_251 : decode cX7_digest 251 = .ok (.bipush 7, 2) := by decide +kernel
theorem rX7_digest_251 {R : zP} {x0 x1 x2 x3 x4 : Option zV} {st : List zV} {M : zM} : uX7_digest R 251 [x0, x1, x2, x3, x4] st M ↔ uX7_digest R 253 [x0, x1, x2, x3, x4] (.inl (7) :: st) M := Iff.trans (zU_step dX7_digest_251 (Or.inl rfl)) ⟨fun h => h.2, fun h => ⟨by decide, h⟩⟩
theorem dX7_digest_253 : decode cX7_digest 253 = .ok (.bipush 6, 2) := by decide +kernel
theorem rX7_digest_253 {R : zP} {x0 x1 x2 x3 x4 : Option zV} {st : List zV} {M : zM} : uX7_digest R 253 [x0, x1, x2, x3, x4] st M ↔ uX7_digest R 255 [x0, x1, x2, x3, x4] (.inl (6) :: st) M := Iff.trans (zU_step dX7_digest_253 (Or.inl rfl)) ⟨fun h => h.2, fun h => ⟨by decide, h⟩⟩
theorem dX7_digest_255 : decode cX7_digest 255 = .ok (.iconst 1, 1) := by decide +kernel
theorem rX7_digest_255 {R : zP} {x0 x1 x2 x3 x4 : Option zV} {st : List zV} {M : zM} : uX7_digest R 255 [x0, x1, x2, x3, x4] st M ↔ uX7_digest R 256 [x0, x1, x2, x3, x4] (.inl (1) :: st) M := zU_step dX7_digest_255 (Or.inl rfl)
theorem dX7_digest_256 : decode cX7_digest 256 = .ok (.invokevirtual 352, 3) := by decide +kernel
theorem rX7_digest_256 {R : zP} {x0 x1 x2 x3 x4 : Option zV} {st : List zV} {M : zM} {a0 a1 a2 a3 : zV} : uX7_digest R 256 [x0, x1, x2, x3, x4] (a3 :: a2 :: a1 :: a0 :: st) M ↔ (st.length ≤ 4 ∧ zcv (zv 7 tX7_years) [a0, a1, a2, a3] M (fun v M => uX7_digest R 259 [x0, x1, x2, x3, x4] (v :: st) M)) := Iff.trans (zU_step dX7_digest_256 (Or.inl rfl)) ⟨fun h => ⟨h.2.1, zcv_of h.2.2⟩, fun h => ⟨rfl, h.1, zcv_to h.2⟩⟩
theorem dX7_digest_259 : decode cX7_digest 259 = .ok (.i2l, 1) := by decide +kernel
theorem rX7_digest_259 {R : zP} {x0 x1 x2 x3 x4 : Option zV} {st : List zV} {M : zM} {a : Int} : uX7_digest R 259 [x0, x1, x2, x3, x4] (.inl a :: st) M ↔ (zIR a ∧ uX7_digest R 260 [x0, x1, x2, x3, x4] (.inr (.inl a) :: st) M) := zU_step dX7_digest_259 (Or.inl rfl)
theorem dX7_digest_260 : decode cX7_digest 260 = .ok (.ladd, 1) := by decide +kernel
theorem rX7_digest_260 {R : zP} {x0 x1 x2 x3 x4 : Option zV} {st : List zV} {M : zM} {a b : Int} : uX7_digest R 260 [x0, x1, x2, x3, x4] (.inr (.inl b) :: .inr (.inl a) :: st) M ↔ uX7_digest R 261 [x0, x1, x2, x3, x4] (.inr (.inl (a + b)) :: st) M := zU_step dX7_digest_260 (Or.inl rfl)
theorem dX7_digest_261 : decode cX7_digest 261 = .ok (.lreturn, 1) := by decide +kernel
theorem rX7_digest_261 {R : zP} {x0 x1 x2 x3 x4 : Option zV} {M : zM} {a : Int} : uX7_digest R 261 [x0, x1, x2, x3, x4] [.inr (.inl a)] M ↔ R (some (.inr (.inl a))) M := Iff.trans (zU_step dX7_digest_261 (Or.inl rfl)) ⟨fun h => h.2.2, fun h => ⟨rfl, rfl, h⟩⟩
theorem eX7_digest {R : zP} {M : zM} {a0 : Nat} : tX7_digest [.inr (.inr a0)] M R ↔ uX7_digest R 0 [some (.inr (.inr a0)), none, none, none, none] [] M := ⟨fun h => h.2, fun h => ⟨show 1 ≤ 5 by decide, h⟩⟩
def uX8_in (R : zP) : zK := zU fX8 vX8_in cX8_in R
theorem dX8_in_0 : decode cX8_in 0 = .ok (.iload_n 0, 1) := by decide +kernel
theorem rX8_in_0 {R : zP} {x1 x2 : Option zV} {st : List zV} {M : zM} {a : Int} : uX8_in R 0 [some (.inl a), x1, x2] st M ↔ uX8_in R 1 [some (.inl a), x1, x2] (.inl a :: st) M := zU_step dX8_in_0 (Or.inl rfl)
theorem dX8_in_1 : decode cX8_in 1 = .ok (.iload_n 1, 1) := by decide +kernel
theorem rX8_in_1 {R : zP} {x0 x2 : Option zV} {st : List zV} {M : zM} {a : Int} : uX8_in R 1 [x0, some (.inl a), x2] st M ↔ uX8_in R 2 [x0, some (.inl a), x2] (.inl a :: st) M := zU_step dX8_in_1 (Or.inl rfl)
theorem dX8_in_2 : decode cX8_in 2 = .ok (.if_icmp .lt 12, 3) := by decide +kernel
theorem rX8_in_2 {R : zP} {x0 x1 x2 : Option zV} {st : List zV} {M : zM} {a b : Int} : uX8_in R 2 [x0, x1, x2] (.inl b :: .inl a :: st) M ↔ ((zIR a ∧ zIR b) ∧ if a < b then uX8_in R 14 [x0, x1, x2] st M else uX8_in R 5 [x0, x1, x2] st M) := Iff.trans (zU_step dX8_in_2 (Or.inl rfl)) ⟨fun h => ⟨⟨h.1.1, h.1.2.1⟩, (zite (c := a < b)).mpr h.2⟩, fun h => ⟨⟨h.1.1, h.1.2, by decide⟩, (zite (c := a < b)).mp h.2⟩⟩
theorem dX8_in_5 : decode cX8_in 5 = .ok (.iload_n 0, 1) := by decide +kernel
theorem rX8_in_5 {R : zP} {x1 x2 : Option zV} {st : List zV} {M : zM} {a : Int} : uX8_in R 5 [some (.inl a), x1, x2] st M ↔ uX8_in R 6 [some (.inl a), x1, x2] (.inl a :: st) M := zU_step dX8_in_5 (Or.inl rfl)
theorem dX8_in_6 : decode cX8_in 6 = .ok (.iload_n 2, 1) := by decide +kernel
theorem rX8_in_6 {R : zP} {x0 x1 : Option zV} {st : List zV} {M : zM} {a : Int} : uX8_in R 6 [x0, x1, some (.inl a)] st M ↔ uX8_in R 7 [x0, x1, some (.inl a)] (.inl a :: st) M := zU_step dX8_in_6 (Or.inl rfl)
theorem dX8_in_7 : decode cX8_in 7 = .ok (.if_icmp .gt 7, 3) := by decide +kernel
theorem rX8_in_7 {R : zP} {x0 x1 x2 : Option zV} {st : List zV} {M : zM} {a b : Int} : uX8_in R 7 [x0, x1, x2] (.inl b :: .inl a :: st) M ↔ ((zIR a ∧ zIR b) ∧ if b < a then uX8_in R 14 [x0, x1, x2] st M else uX8_in R 10 [x0, x1, x2] st M) := Iff.trans (zU_step dX8_in_7 (Or.inl rfl)) ⟨fun h => ⟨⟨h.1.1, h.1.2.1⟩, (zite (c := b < a)).mpr h.2⟩, fun h => ⟨⟨h.1.1, h.1.2, by decide⟩, (zite (c := b < a)).mp h.2⟩⟩
theorem dX8_in_10 : decode cX8_in 10 = .ok (.iconst 1, 1) := by decide +kernel
theorem rX8_in_10 {R : zP} {x0 x1 x2 : Option zV} {st : List zV} {M : zM} : uX8_in R 10 [x0, x1, x2] st M ↔ uX8_in R 11 [x0, x1, x2] (.inl (1) :: st) M := zU_step dX8_in_10 (Or.inl rfl)
theorem dX8_in_11 : decode cX8_in 11 = .ok (.goto 4, 3) := by decide +kernel
theorem rX8_in_11 {R : zP} {x0 x1 x2 : Option zV} {st : List zV} {M : zM} : uX8_in R 11 [x0, x1, x2] st M ↔ uX8_in R 15 [x0, x1, x2] st M := Iff.trans (zU_step dX8_in_11 (Or.inl rfl)) ⟨fun h => h.2, fun h => ⟨by decide, h⟩⟩
theorem dX8_in_14 : decode cX8_in 14 = .ok (.iconst 0, 1) := by decide +kernel
theorem rX8_in_14 {R : zP} {x0 x1 x2 : Option zV} {st : List zV} {M : zM} : uX8_in R 14 [x0, x1, x2] st M ↔ uX8_in R 15 [x0, x1, x2] (.inl (0) :: st) M := zU_step dX8_in_14 (Or.inl rfl)
theorem dX8_in_15 : decode cX8_in 15 = .ok (.ireturn, 1) := by decide +kernel
theorem rX8_in_15 {R : zP} {x0 x1 x2 : Option zV} {M : zM} {a : Int} : uX8_in R 15 [x0, x1, x2] [.inl a] M ↔ ((a = 0 ∨ a = 1) ∧ R (some (.inl a)) M) := Iff.trans (zU_step dX8_in_15 (Or.inl rfl)) ⟨fun h => ⟨zret2 rfl h.2.1, h.2.2⟩, fun h => ⟨rfl, Or.inr (Or.inl ⟨rfl, h.1⟩), h.2⟩⟩
theorem eX8_in {R : zP} {M : zM} {p0 : Int} {p1 : Int} {p2 : Int} : tX8_in [.inl p0, .inl p1, .inl p2] M R ↔ uX8_in R 0 [some (.inl p0), some (.inl p1), some (.inl p2)] [] M := ⟨fun h => h.2, fun h => ⟨show 3 ≤ 3 by decide, h⟩⟩
def uX8_isIn (R : zP) : zK := zU fX8 vX8_isIn cX8_isIn R
theorem dX8_isIn_0 : decode cX8_isIn 0 = .ok (.iload_n 0, 1) := by decide +kernel
theorem rX8_isIn_0 {R : zP} {x1 : Option zV} {st : List zV} {M : zM} {a : Int} : uX8_isIn R 0 [some (.inl a), x1] st M ↔ uX8_isIn R 1 [some (.inl a), x1] (.inl a :: st) M := zU_step dX8_isIn_0 (Or.inl rfl)
theorem dX8_isIn_1 : decode cX8_isIn 1 = .ok (.iload_n 1, 1) := by decide +kernel
theorem rX8_isIn_1 {R : zP} {x0 : Option zV} {st : List zV} {M : zM} {a : Int} : uX8_isIn R 1 [x0, some (.inl a)] st M ↔ uX8_isIn R 2 [x0, some (.inl a)] (.inl a :: st) M := zU_step dX8_isIn_1 (Or.inl rfl)
theorem dX8_isIn_2 : decode cX8_isIn 2 = .ok (.ishr, 1) := by decide +kernel
theorem rX8_isIn_2 {R : zP} {x0 x1 : Option zV} {st : List zV} {M : zM} {a b : Int} : uX8_isIn R 2 [x0, x1] (.inl b :: .inl a :: st) M ↔ uX8_isIn R 3 [x0, x1] (.inl (zshr a b) :: st) M := zU_step dX8_isIn_2 (Or.inl rfl)
theorem dX8_isIn_3 : decode cX8_isIn 3 = .ok (.iconst 1, 1) := by decide +kernel
theorem rX8_isIn_3 {R : zP} {x0 x1 : Option zV} {st : List zV} {M : zM} : uX8_isIn R 3 [x0, x1] st M ↔ uX8_isIn R 4 [x0, x1] (.inl (1) :: st) M := zU_step dX8_isIn_3 (Or.inl rfl)
theorem dX8_isIn_4 : decode cX8_isIn 4 = .ok (.iand, 1) := by decide +kernel
theorem rX8_isIn_4 {R : zP} {x0 x1 : Option zV} {st : List zV} {M : zM} {a b : Int} : uX8_isIn R 4 [x0, x1] (.inl b :: .inl a :: st) M ↔ uX8_isIn R 5 [x0, x1] (.inl (zand a b) :: st) M := zU_step dX8_isIn_4 (Or.inl rfl)
theorem dX8_isIn_5 : decode cX8_isIn 5 = .ok (.iconst 1, 1) := by decide +kernel
theorem rX8_isIn_5 {R : zP} {x0 x1 : Option zV} {st : List zV} {M : zM} : uX8_isIn R 5 [x0, x1] st M ↔ uX8_isIn R 6 [x0, x1] (.inl (1) :: st) M := zU_step dX8_isIn_5 (Or.inl rfl)
theorem dX8_isIn_6 : decode cX8_isIn 6 = .ok (.if_icmp .ne 7, 3) := by decide +kernel
theorem rX8_isIn_6 {R : zP} {x0 x1 : Option zV} {st : List zV} {M : zM} {a b : Int} : uX8_isIn R 6 [x0, x1] (.inl b :: .inl a :: st) M ↔ ((zIR a ∧ zIR b) ∧ if a ≠ b then uX8_isIn R 13 [x0, x1] st M else uX8_isIn R 9 [x0, x1] st M) := Iff.trans (zU_step dX8_isIn_6 (Or.inl rfl)) ⟨fun h => ⟨⟨h.1.1, h.1.2.1⟩, (zite (c := a ≠ b)).mpr h.2⟩, fun h => ⟨⟨h.1.1, h.1.2, by decide⟩, (zite (c := a ≠ b)).mp h.2⟩⟩
theorem dX8_isIn_9 : decode cX8_isIn 9 = .ok (.iconst 1, 1) := by decide +kernel
theorem rX8_isIn_9 {R : zP} {x0 x1 : Option zV} {st : List zV} {M : zM} : uX8_isIn R 9 [x0, x1] st M ↔ uX8_isIn R 10 [x0, x1] (.inl (1) :: st) M := zU_step dX8_isIn_9 (Or.inl rfl)
theorem dX8_isIn_10 : decode cX8_isIn 10 = .ok (.goto 4, 3) := by decide +kernel
theorem rX8_isIn_10 {R : zP} {x0 x1 : Option zV} {st : List zV} {M : zM} : uX8_isIn R 10 [x0, x1] st M ↔ uX8_isIn R 14 [x0, x1] st M := Iff.trans (zU_step dX8_isIn_10 (Or.inl rfl)) ⟨fun h => h.2, fun h => ⟨by decide, h⟩⟩
theorem dX8_isIn_13 : decode cX8_isIn 13 = .ok (.iconst 0, 1) := by decide +kernel
theorem rX8_isIn_13 {R : zP} {x0 x1 : Option zV} {st : List zV} {M : zM} : uX8_isIn R 13 [x0, x1] st M ↔ uX8_isIn R 14 [x0, x1] (.inl (0) :: st) M := zU_step dX8_isIn_13 (Or.inl rfl)
theorem dX8_isIn_14 : decode cX8_isIn 14 = .ok (.ireturn, 1) := by decide +kernel
theorem rX8_isIn_14 {R : zP} {x0 x1 : Option zV} {M : zM} {a : Int} : uX8_isIn R 14 [x0, x1] [.inl a] M ↔ ((a = 0 ∨ a = 1) ∧ R (some (.inl a)) M) := Iff.trans (zU_step dX8_isIn_14 (Or.inl rfl)) ⟨fun h => ⟨zret2 rfl h.2.1, h.2.2⟩, fun h => ⟨rfl, Or.inr (Or.inl ⟨rfl, h.1⟩), h.2⟩⟩
theorem eX8_isIn {R : zP} {M : zM} {p0 : Int} {p1 : Int} : tX8_isIn [.inl p0, .inl p1] M R ↔ uX8_isIn R 0 [some (.inl p0), some (.inl p1)] [] M := ⟨fun h => h.2, fun h => ⟨show 2 ≤ 2 by decide, h⟩⟩
def uX8_far (R : zP) : zK := zU fX8 vX8_far cX8_far R
theorem dX8_far_0 : decode cX8_far 0 = .ok (.iload_n 0, 1) := by decide +kernel
theorem rX8_far_0 {R : zP} {x1 : Option zV} {st : List zV} {M : zM} {a : Int} : uX8_far R 0 [some (.inl a), x1] st M ↔ uX8_far R 1 [some (.inl a), x1] (.inl a :: st) M := zU_step dX8_far_0 (Or.inl rfl)
theorem dX8_far_1 : decode cX8_far 1 = .ok (.iload_n 1, 1) := by decide +kernel
theorem rX8_far_1 {R : zP} {x0 : Option zV} {st : List zV} {M : zM} {a : Int} : uX8_far R 1 [x0, some (.inl a)] st M ↔ uX8_far R 2 [x0, some (.inl a)] (.inl a :: st) M := zU_step dX8_far_1 (Or.inl rfl)
theorem dX8_far_2 : decode cX8_far 2 = .ok (.if_icmp .le 9, 3) := by decide +kernel
theorem rX8_far_2 {R : zP} {x0 x1 : Option zV} {st : List zV} {M : zM} {a b : Int} : uX8_far R 2 [x0, x1] (.inl b :: .inl a :: st) M ↔ ((zIR a ∧ zIR b) ∧ if a ≤ b then uX8_far R 11 [x0, x1] st M else uX8_far R 5 [x0, x1] st M) := Iff.trans (zU_step dX8_far_2 (Or.inl rfl)) ⟨fun h => ⟨⟨h.1.1, h.1.2.1⟩, (zite (c := a ≤ b)).mpr h.2⟩, fun h => ⟨⟨h.1.1, h.1.2, by decide⟩, (zite (c := a ≤ b)).mp h.2⟩⟩
theorem dX8_far_5 : decode cX8_far 5 = .ok (.iload_n 0, 1) := by decide +kernel
theorem rX8_far_5 {R : zP} {x1 : Option zV} {st : List zV} {M : zM} {a : Int} : uX8_far R 5 [some (.inl a), x1] st M ↔ uX8_far R 6 [some (.inl a), x1] (.inl a :: st) M := zU_step dX8_far_5 (Or.inl rfl)
theorem dX8_far_6 : decode cX8_far 6 = .ok (.iload_n 1, 1) := by decide +kernel
theorem rX8_far_6 {R : zP} {x0 : Option zV} {st : List zV} {M : zM} {a : Int} : uX8_far R 6 [x0, some (.inl a)] st M ↔ uX8_far R 7 [x0, some (.inl a)] (.inl a :: st) M := zU_step dX8_far_6 (Or.inl rfl)
theorem dX8_far_7 : decode cX8_far 7 = .ok (.isub, 1) := by decide +kernel
theorem rX8_far_7 {R : zP} {x0 x1 : Option zV} {st : List zV} {M : zM} {a b : Int} : uX8_far R 7 [x0, x1] (.inl b :: .inl a :: st) M ↔ uX8_far R 8 [x0, x1] (.inl (a - b) :: st) M := zU_step dX8_far_7 (Or.inl rfl)
theorem dX8_far_8 : decode cX8_far 8 = .ok (.goto 6, 3) := by decide +kernel
theorem rX8_far_8 {R : zP} {x0 x1 : Option zV} {st : List zV} {M : zM} : uX8_far R 8 [x0, x1] st M ↔ uX8_far R 14 [x0, x1] st M := Iff.trans (zU_step dX8_far_8 (Or.inl rfl)) ⟨fun h => h.2, fun h => ⟨by decide, h⟩⟩
theorem dX8_far_11 : decode cX8_far 11 = .ok (.iload_n 1, 1) := by decide +kernel
theorem rX8_far_11 {R : zP} {x0 : Option zV} {st : List zV} {M : zM} {a : Int} : uX8_far R 11 [x0, some (.inl a)] st M ↔ uX8_far R 12 [x0, some (.inl a)] (.inl a :: st) M := zU_step dX8_far_11 (Or.inl rfl)
theorem dX8_far_12 : decode cX8_far 12 = .ok (.iload_n 0, 1) := by decide +kernel
theorem rX8_far_12 {R : zP} {x1 : Option zV} {st : List zV} {M : zM} {a : Int} : uX8_far R 12 [some (.inl a), x1] st M ↔ uX8_far R 13 [some (.inl a), x1] (.inl a :: st) M := zU_step dX8_far_12 (Or.inl rfl)
theorem dX8_far_13 : decode cX8_far 13 = .ok (.isub, 1) := by decide +kernel
theorem rX8_far_13 {R : zP} {x0 x1 : Option zV} {st : List zV} {M : zM} {a b : Int} : uX8_far R 13 [x0, x1] (.inl b :: .inl a :: st) M ↔ uX8_far R 14 [x0, x1] (.inl (a - b) :: st) M := zU_step dX8_far_13 (Or.inl rfl)
theorem dX8_far_14 : decode cX8_far 14 = .ok (.ireturn, 1) := by decide +kernel
theorem rX8_far_14 {R : zP} {x0 x1 : Option zV} {M : zM} {a : Int} : uX8_far R 14 [x0, x1] [.inl a] M ↔ R (some (.inl a)) M := Iff.trans (zU_step dX8_far_14 (Or.inl rfl)) ⟨fun h => h.2.2, fun h => ⟨rfl, Or.inl rfl, h⟩⟩
theorem eX8_far {R : zP} {M : zM} {p0 : Int} {p1 : Int} : tX8_far [.inl p0, .inl p1] M R ↔ uX8_far R 0 [some (.inl p0), some (.inl p1)] [] M := ⟨fun h => h.2, fun h => ⟨show 2 ≤ 2 by decide, h⟩⟩
def uX8_no (R : zP) : zK := zU fX8 vX8_no cX8_no R
theorem dX8_no_0 : decode cX8_no 0 = .ok (.ldc2_w 110, 3) := by decide +kernel
theorem rX8_no_0 {R : zP} {x0 : Option zV} {st : List zV} {M : zM} : uX8_no R 0 [x0] st M ↔ uX8_no R 3 [x0] (.inr (.inl (-9223372036854775808)) :: st) M := zU_step dX8_no_0 (Or.inl rfl)
theorem dX8_no_3 : decode cX8_no 3 = .ok (.iload_n 0, 1) := by decide +kernel
theorem rX8_no_3 {R : zP} {st : List zV} {M : zM} {a : Int} : uX8_no R 3 [some (.inl a)] st M ↔ uX8_no R 4 [some (.inl a)] (.inl a :: st) M := zU_step dX8_no_3 (Or.inl rfl)
theorem dX8_no_4 : decode cX8_no 4 = .ok (.i2l, 1) := by decide +kernel
theorem rX8_no_4 {R : zP} {x0 : Option zV} {st : List zV} {M : zM} {a : Int} : uX8_no R 4 [x0] (.inl a :: st) M ↔ (zIR a ∧ uX8_no R 5 [x0] (.inr (.inl a) :: st) M) := zU_step dX8_no_4 (Or.inl rfl)
theorem dX8_no_5 : decode cX8_no 5 = .ok (.lsub, 1) := by decide +kernel
theorem rX8_no_5 {R : zP} {x0 : Option zV} {st : List zV} {M : zM} {a b : Int} : uX8_no R 5 [x0] (.inr (.inl b) :: .inr (.inl a) :: st) M ↔ uX8_no R 6 [x0] (.inr (.inl (a - b)) :: st) M := zU_step dX8_no_5 (Or.inl rfl)
theorem dX8_no_6 : decode cX8_no 6 = .ok (.lreturn, 1) := by decide +kernel
theorem rX8_no_6 {R : zP} {x0 : Option zV} {M : zM} {a : Int} : uX8_no R 6 [x0] [.inr (.inl a)] M ↔ R (some (.inr (.inl a))) M := Iff.trans (zU_step dX8_no_6 (Or.inl rfl)) ⟨fun h => h.2.2, fun h => ⟨rfl, rfl, h⟩⟩
theorem eX8_no {R : zP} {M : zM} {p0 : Int} : tX8_no [.inl p0] M R ↔ uX8_no R 0 [some (.inl p0)] [] M := ⟨fun h => h.2, fun h => ⟨show 1 ≤ 1 by decide, h⟩⟩
def uX8_lowest (R : zP) : zK := zU fX8 vX8_lowest cX8_lowest R
theorem dX8_lowest_0 : decode cX8_lowest 0 = .ok (.lload_n 0, 1) := by decide +kernel
theorem rX8_lowest_0 {R : zP} {x1 x2 x3 x4 x5 x6 x7 x8 x9 x10 : Option zV} {st : List zV} {M : zM} {a : Int} : uX8_lowest R 0 [some (.inr (.inl a)), x1, x2, x3, x4, x5, x6, x7, x8, x9, x10] st M ↔ uX8_lowest R 1 [some (.inr (.inl a)), x1, x2, x3, x4, x5, x6, x7, x8, x9, x10] (.inr (.inl a) :: st) M := zU_step dX8_lowest_0 (Or.inl rfl)
theorem dX8_lowest_1 : decode cX8_lowest 1 = .ok (.lstore 5, 2) := by decide +kernel
theorem rX8_lowest_1 {R : zP} {x0 x1 x2 x3 x5 x6 x7 x8 x9 x10 : Option zV} {st : List zV} {M : zM} {a : Int} {y : Int} : uX8_lowest R 1 [x0, x1, x2, x3, some (.inl y), x5, x6, x7, x8, x9, x10] (.inr (.inl a) :: st) M ↔ uX8_lowest R 3 [x0, x1, x2, x3, some (.inl y), some (.inr (.inl a)), none, x7, x8, x9, x10] st M := Iff.trans (zU_step dX8_lowest_1 (Or.inl rfl)) ⟨fun h => h.2, fun h => ⟨show 5 + 1 < 11 by decide, h⟩⟩
theorem rX8_lowest_1z {R : zP} {x0 x1 x2 x3 x4 x5 x6 x7 x8 x9 x10 : Option zV} {st : List zV} {M : zM} {a : Int} : uX8_lowest R 1 [x0, x1, x2, x3, x4, x5, x6, x7, x8, x9, x10] (.inr (.inl a) :: st) M ↔ uX8_lowest R 3 [x0, x1, x2, x3, zkeep x4, some (.inr (.inl a)), none, x7, x8, x9, x10] st M := Iff.trans (zU_step dX8_lowest_1 (Or.inl rfl)) ⟨fun h => h.2, fun h => ⟨show 5 + 1 < 11 by decide, h⟩⟩
theorem dX8_lowest_3 : decode cX8_lowest 3 = .ok (.lload_n 2, 1) := by decide +kernel
theorem rX8_lowest_3 {R : zP} {x0 x1 x3 x4 x5 x6 x7 x8 x9 x10 : Option zV} {st : List zV} {M : zM} {a : Int} : uX8_lowest R 3 [x0, x1, some (.inr (.inl a)), x3, x4, x5, x6, x7, x8, x9, x10] st M ↔ uX8_lowest R 4 [x0, x1, some (.inr (.inl a)), x3, x4, x5, x6, x7, x8, x9, x10] (.inr (.inl a) :: st) M := zU_step dX8_lowest_3 (Or.inl rfl)
theorem dX8_lowest_4 : decode cX8_lowest 4 = .ok (.lstore 7, 2) := by decide +kernel
theorem rX8_lowest_4 {R : zP} {x0 x1 x2 x3 x4 x5 x7 x8 x9 x10 : Option zV} {st : List zV} {M : zM} {a : Int} : uX8_lowest R 4 [x0, x1, x2, x3, x4, x5, none, x7, x8, x9, x10] (.inr (.inl a) :: st) M ↔ uX8_lowest R 6 [x0, x1, x2, x3, x4, x5, none, some (.inr (.inl a)), none, x9, x10] st M := Iff.trans (zU_step dX8_lowest_4 (Or.inl rfl)) ⟨fun h => h.2, fun h => ⟨show 7 + 1 < 11 by decide, h⟩⟩
theorem rX8_lowest_4z {R : zP} {x0 x1 x2 x3 x4 x5 x6 x7 x8 x9 x10 : Option zV} {st : List zV} {M : zM} {a : Int} : uX8_lowest R 4 [x0, x1, x2, x3, x4, x5, x6, x7, x8, x9, x10] (.inr (.inl a) :: st) M ↔ uX8_lowest R 6 [x0, x1, x2, x3, x4, x5, zkeep x6, some (.inr (.inl a)), none, x9, x10] st M := Iff.trans (zU_step dX8_lowest_4 (Or.inl rfl)) ⟨fun h => h.2, fun h => ⟨show 7 + 1 < 11 by decide, h⟩⟩
theorem dX8_lowest_6 : decode cX8_lowest 6 = .ok (.lload 7, 2) := by decide +kernel
theorem rX8_lowest_6 {R : zP} {x0 x1 x2 x3 x4 x5 x6 x8 x9 x10 : Option zV} {st : List zV} {M : zM} {a : Int} : uX8_lowest R 6 [x0, x1, x2, x3, x4, x5, x6, some (.inr (.inl a)), x8, x9, x10] st M ↔ uX8_lowest R 8 [x0, x1, x2, x3, x4, x5, x6, some (.inr (.inl a)), x8, x9, x10] (.inr (.inl a) :: st) M := zU_step dX8_lowest_6 (Or.inl rfl)
theorem dX8_lowest_8 : decode cX8_lowest 8 = .ok (.lconst 0, 1) := by decide +kernel
theorem rX8_lowest_8 {R : zP} {x0 x1 x2 x3 x4 x5 x6 x7 x8 x9 x10 : Option zV} {st : List zV} {M : zM} : uX8_lowest R 8 [x0, x1, x2, x3, x4, x5, x6, x7, x8, x9, x10] st M ↔ uX8_lowest R 9 [x0, x1, x2, x3, x4, x5, x6, x7, x8, x9, x10] (.inr (.inl 0) :: st) M := zU_step dX8_lowest_8 (Or.inl rfl)
theorem dX8_lowest_9 : decode cX8_lowest 9 = .ok (.lcmp, 1) := by decide +kernel
theorem rX8_lowest_9 {R : zP} {x0 x1 x2 x3 x4 x5 x6 x7 x8 x9 x10 : Option zV} {st : List zV} {M : zM} {a b : Int} : uX8_lowest R 9 [x0, x1, x2, x3, x4, x5, x6, x7, x8, x9, x10] (.inr (.inl b) :: .inr (.inl a) :: st) M ↔ ((zLR a ∧ zLR b) ∧ uX8_lowest R 10 [x0, x1, x2, x3, x4, x5, x6, x7, x8, x9, x10] (.inl (zcmp a b) :: st) M) := zU_step dX8_lowest_9 (Or.inl rfl)
theorem dX8_lowest_10 : decode cX8_lowest 10 = .ok (.ifCond .eq 21, 3) := by decide +kernel
theorem rX8_lowest_10 {R : zP} {x0 x1 x2 x3 x4 x5 x6 x7 x8 x9 x10 : Option zV} {st : List zV} {M : zM} {a : Int} : uX8_lowest R 10 [x0, x1, x2, x3, x4, x5, x6, x7, x8, x9, x10] (.inl a :: st) M ↔ (zIR a ∧ if a = 0 then uX8_lowest R 31 [x0, x1, x2, x3, x4, x5, x6, x7, x8, x9, x10] st M else uX8_lowest R 13 [x0, x1, x2, x3, x4, x5, x6, x7, x8, x9, x10] st M) := Iff.trans (zU_step dX8_lowest_10 (Or.inl rfl)) ⟨fun h => ⟨h.1.1, (zite (c := a = 0)).mpr h.2⟩, fun h => ⟨⟨h.1, by decide⟩, (zite (c := a = 0)).mp h.2⟩⟩
theorem dX8_lowest_13 : decode cX8_lowest 13 = .ok (.lload 5, 2) := by decide +kernel
theorem rX8_lowest_13 {R : zP} {x0 x1 x2 x3 x4 x6 x7 x8 x9 x10 : Option zV} {st : List zV} {M : zM} {a : Int} : uX8_lowest R 13 [x0, x1, x2, x3, x4, some (.inr (.inl a)), x6, x7, x8, x9, x10] st M ↔ uX8_lowest R 15 [x0, x1, x2, x3, x4, some (.inr (.inl a)), x6, x7, x8, x9, x10] (.inr (.inl a) :: st) M := zU_step dX8_lowest_13 (Or.inl rfl)
theorem dX8_lowest_15 : decode cX8_lowest 15 = .ok (.lload 7, 2) := by decide +kernel
theorem rX8_lowest_15 {R : zP} {x0 x1 x2 x3 x4 x5 x6 x8 x9 x10 : Option zV} {st : List zV} {M : zM} {a : Int} : uX8_lowest R 15 [x0, x1, x2, x3, x4, x5, x6, some (.inr (.inl a)), x8, x9, x10] st M ↔ uX8_lowest R 17 [x0, x1, x2, x3, x4, x5, x6, some (.inr (.inl a)), x8, x9, x10] (.inr (.inl a) :: st) M := zU_step dX8_lowest_15 (Or.inl rfl)
theorem dX8_lowest_17 : decode cX8_lowest 17 = .ok (.lrem, 1) := by decide +kernel
theorem rX8_lowest_17 {R : zP} {x0 x1 x2 x3 x4 x5 x6 x7 x8 x9 x10 : Option zV} {st : List zV} {M : zM} {a b : Int} : uX8_lowest R 17 [x0, x1, x2, x3, x4, x5, x6, x7, x8, x9, x10] (.inr (.inl b) :: .inr (.inl a) :: st) M ↔ ((zLR a ∧ zLR b ∧ b ≠ 0) ∧ uX8_lowest R 18 [x0, x1, x2, x3, x4, x5, x6, x7, x8, x9, x10] (.inr (.inl (a.tmod b)) :: st) M) := zU_step dX8_lowest_17 (Or.inl rfl)
theorem dX8_lowest_18 : decode cX8_lowest 18 = .ok (.lstore 9, 2) := by decide +kernel
theorem rX8_lowest_18 {R : zP} {x0 x1 x2 x3 x4 x5 x6 x7 x9 x10 : Option zV} {st : List zV} {M : zM} {a : Int} : uX8_lowest R 18 [x0, x1, x2, x3, x4, x5, x6, x7, none, x9, x10] (.inr (.inl a) :: st) M ↔ uX8_lowest R 20 [x0, x1, x2, x3, x4, x5, x6, x7, none, some (.inr (.inl a)), none] st M := Iff.trans (zU_step dX8_lowest_18 (Or.inl rfl)) ⟨fun h => h.2, fun h => ⟨show 9 + 1 < 11 by decide, h⟩⟩
theorem rX8_lowest_18z {R : zP} {x0 x1 x2 x3 x4 x5 x6 x7 x8 x9 x10 : Option zV} {st : List zV} {M : zM} {a : Int} : uX8_lowest R 18 [x0, x1, x2, x3, x4, x5, x6, x7, x8, x9, x10] (.inr (.inl a) :: st) M ↔ uX8_lowest R 20 [x0, x1, x2, x3, x4, x5, x6, x7, zkeep x8, some (.inr (.inl a)), none] st M := Iff.trans (zU_step dX8_lowest_18 (Or.inl rfl)) ⟨fun h => h.2, fun h => ⟨show 9 + 1 < 11 by decide, h⟩⟩
theorem dX8_lowest_20 : decode cX8_lowest 20 = .ok (.lload 7, 2) := by decide +kernel
theorem rX8_lowest_20 {R : zP} {x0 x1 x2 x3 x4 x5 x6 x8 x9 x10 : Option zV} {st : List zV} {M : zM} {a : Int} : uX8_lowest R 20 [x0, x1, x2, x3, x4, x5, x6, some (.inr (.inl a)), x8, x9, x10] st M ↔ uX8_lowest R 22 [x0, x1, x2, x3, x4, x5, x6, some (.inr (.inl a)), x8, x9, x10] (.inr (.inl a) :: st) M := zU_step dX8_lowest_20 (Or.inl rfl)
theorem dX8_lowest_22 : decode cX8_lowest 22 = .ok (.lstore 5, 2) := by decide +kernel
theorem rX8_lowest_22 {R : zP} {x0 x1 x2 x3 x5 x6 x7 x8 x9 x10 : Option zV} {st : List zV} {M : zM} {a : Int} {y : Int} : uX8_lowest R 22 [x0, x1, x2, x3, some (.inl y), x5, x6, x7, x8, x9, x10] (.inr (.inl a) :: st) M ↔ uX8_lowest R 24 [x0, x1, x2, x3, some (.inl y), some (.inr (.inl a)), none, x7, x8, x9, x10] st M := Iff.trans (zU_step dX8_lowest_22 (Or.inl rfl)) ⟨fun h => h.2, fun h => ⟨show 5 + 1 < 11 by decide, h⟩⟩
theorem rX8_lowest_22z {R : zP} {x0 x1 x2 x3 x4 x5 x6 x7 x8 x9 x10 : Option zV} {st : List zV} {M : zM} {a : Int} : uX8_lowest R 22 [x0, x1, x2, x3, x4, x5, x6, x7, x8, x9, x10] (.inr (.inl a) :: st) M ↔ uX8_lowest R 24 [x0, x1, x2, x3, zkeep x4, some (.inr (.inl a)), none, x7, x8, x9, x10] st M := Iff.trans (zU_step dX8_lowest_22 (Or.inl rfl)) ⟨fun h => h.2, fun h => ⟨show 5 + 1 < 11 by decide, h⟩⟩
theorem dX8_lowest_24 : decode cX8_lowest 24 = .ok (.lload 9, 2) := by decide +kernel
theorem rX8_lowest_24 {R : zP} {x0 x1 x2 x3 x4 x5 x6 x7 x8 x10 : Option zV} {st : List zV} {M : zM} {a : Int} : uX8_lowest R 24 [x0, x1, x2, x3, x4, x5, x6, x7, x8, some (.inr (.inl a)), x10] st M ↔ uX8_lowest R 26 [x0, x1, x2, x3, x4, x5, x6, x7, x8, some (.inr (.inl a)), x10] (.inr (.inl a) :: st) M := zU_step dX8_lowest_24 (Or.inl rfl)
theorem dX8_lowest_26 : decode cX8_lowest 26 = .ok (.lstore 7, 2) := by decide +kernel
theorem rX8_lowest_26 {R : zP} {x0 x1 x2 x3 x4 x5 x7 x8 x9 x10 : Option zV} {st : List zV} {M : zM} {a : Int} : uX8_lowest R 26 [x0, x1, x2, x3, x4, x5, none, x7, x8, x9, x10] (.inr (.inl a) :: st) M ↔ uX8_lowest R 28 [x0, x1, x2, x3, x4, x5, none, some (.inr (.inl a)), none, x9, x10] st M := Iff.trans (zU_step dX8_lowest_26 (Or.inl rfl)) ⟨fun h => h.2, fun h => ⟨show 7 + 1 < 11 by decide, h⟩⟩
theorem rX8_lowest_26z {R : zP} {x0 x1 x2 x3 x4 x5 x6 x7 x8 x9 x10 : Option zV} {st : List zV} {M : zM} {a : Int} : uX8_lowest R 26 [x0, x1, x2, x3, x4, x5, x6, x7, x8, x9, x10] (.inr (.inl a) :: st) M ↔ uX8_lowest R 28 [x0, x1, x2, x3, x4, x5, zkeep x6, some (.inr (.inl a)), none, x9, x10] st M := Iff.trans (zU_step dX8_lowest_26 (Or.inl rfl)) ⟨fun h => h.2, fun h => ⟨show 7 + 1 < 11 by decide, h⟩⟩
theorem dX8_lowest_28 : decode cX8_lowest 28 = .ok (.goto (-22), 3) := by decide +kernel
theorem rX8_lowest_28 {R : zP} {x0 x1 x2 x3 x4 x5 x6 x7 x8 x9 x10 : Option zV} {st : List zV} {M : zM} : uX8_lowest R 28 [x0, x1, x2, x3, x4, x5, x6, x7, x8, x9, x10] st M ↔ uX8_lowest R 6 [x0, x1, x2, x3, x4, x5, x6, x7, x8, x9, x10] st M := Iff.trans (zU_step dX8_lowest_28 (Or.inl rfl)) ⟨fun h => h.2, fun h => ⟨by decide, h⟩⟩
theorem dX8_lowest_31 : decode cX8_lowest 31 = .ok (.iload 4, 2) := by decide +kernel
theorem rX8_lowest_31 {R : zP} {x0 x1 x2 x3 x5 x6 x7 x8 x9 x10 : Option zV} {st : List zV} {M : zM} {a : Int} : uX8_lowest R 31 [x0, x1, x2, x3, some (.inl a), x5, x6, x7, x8, x9, x10] st M ↔ uX8_lowest R 33 [x0, x1, x2, x3, some (.inl a), x5, x6, x7, x8, x9, x10] (.inl a :: st) M := zU_step dX8_lowest_31 (Or.inl rfl)
theorem dX8_lowest_33 : decode cX8_lowest 33 = .ok (.ifCond .ne 10, 3) := by decide +kernel
theorem rX8_lowest_33 {R : zP} {x0 x1 x2 x3 x4 x5 x6 x7 x8 x9 x10 : Option zV} {st : List zV} {M : zM} {a : Int} : uX8_lowest R 33 [x0, x1, x2, x3, x4, x5, x6, x7, x8, x9, x10] (.inl a :: st) M ↔ (zIR a ∧ if a ≠ 0 then uX8_lowest R 43 [x0, x1, x2, x3, x4, x5, x6, x7, x8, x9, x10] st M else uX8_lowest R 36 [x0, x1, x2, x3, x4, x5, x6, x7, x8, x9, x10] st M) := Iff.trans (zU_step dX8_lowest_33 (Or.inl rfl)) ⟨fun h => ⟨h.1.1, (zite (c := a ≠ 0)).mpr h.2⟩, fun h => ⟨⟨h.1, by decide⟩, (zite (c := a ≠ 0)).mp h.2⟩⟩
theorem dX8_lowest_36 : decode cX8_lowest 36 = .ok (.lload_n 0, 1) := by decide +kernel
theorem rX8_lowest_36 {R : zP} {x1 x2 x3 x4 x5 x6 x7 x8 x9 x10 : Option zV} {st : List zV} {M : zM} {a : Int} : uX8_lowest R 36 [some (.inr (.inl a)), x1, x2, x3, x4, x5, x6, x7, x8, x9, x10] st M ↔ uX8_lowest R 37 [some (.inr (.inl a)), x1, x2, x3, x4, x5, x6, x7, x8, x9, x10] (.inr (.inl a) :: st) M := zU_step dX8_lowest_36 (Or.inl rfl)
theorem dX8_lowest_37 : decode cX8_lowest 37 = .ok (.lload 5, 2) := by decide +kernel
theorem rX8_lowest_37 {R : zP} {x0 x1 x2 x3 x4 x6 x7 x8 x9 x10 : Option zV} {st : List zV} {M : zM} {a : Int} : uX8_lowest R 37 [x0, x1, x2, x3, x4, some (.inr (.inl a)), x6, x7, x8, x9, x10] st M ↔ uX8_lowest R 39 [x0, x1, x2, x3, x4, some (.inr (.inl a)), x6, x7, x8, x9, x10] (.inr (.inl a) :: st) M := zU_step dX8_lowest_37 (Or.inl rfl)
theorem dX8_lowest_39 : decode cX8_lowest 39 = .ok (.ldiv, 1) := by decide +kernel
theorem rX8_lowest_39 {R : zP} {x0 x1 x2 x3 x4 x5 x6 x7 x8 x9 x10 : Option zV} {st : List zV} {M : zM} {a b : Int} : uX8_lowest R 39 [x0, x1, x2, x3, x4, x5, x6, x7, x8, x9, x10] (.inr (.inl b) :: .inr (.inl a) :: st) M ↔ ((zLR a ∧ zLR b ∧ b ≠ 0) ∧ uX8_lowest R 40 [x0, x1, x2, x3, x4, x5, x6, x7, x8, x9, x10] (.inr (.inl (a.tdiv b)) :: st) M) := zU_step dX8_lowest_39 (Or.inl rfl)
theorem dX8_lowest_40 : decode cX8_lowest 40 = .ok (.goto 7, 3) := by decide +kernel
theorem rX8_lowest_40 {R : zP} {x0 x1 x2 x3 x4 x5 x6 x7 x8 x9 x10 : Option zV} {st : List zV} {M : zM} : uX8_lowest R 40 [x0, x1, x2, x3, x4, x5, x6, x7, x8, x9, x10] st M ↔ uX8_lowest R 47 [x0, x1, x2, x3, x4, x5, x6, x7, x8, x9, x10] st M := Iff.trans (zU_step dX8_lowest_40 (Or.inl rfl)) ⟨fun h => h.2, fun h => ⟨by decide, h⟩⟩
theorem dX8_lowest_43 : decode cX8_lowest 43 = .ok (.lload_n 2, 1) := by decide +kernel
theorem rX8_lowest_43 {R : zP} {x0 x1 x3 x4 x5 x6 x7 x8 x9 x10 : Option zV} {st : List zV} {M : zM} {a : Int} : uX8_lowest R 43 [x0, x1, some (.inr (.inl a)), x3, x4, x5, x6, x7, x8, x9, x10] st M ↔ uX8_lowest R 44 [x0, x1, some (.inr (.inl a)), x3, x4, x5, x6, x7, x8, x9, x10] (.inr (.inl a) :: st) M := zU_step dX8_lowest_43 (Or.inl rfl)
theorem dX8_lowest_44 : decode cX8_lowest 44 = .ok (.lload 5, 2) := by decide +kernel
theorem rX8_lowest_44 {R : zP} {x0 x1 x2 x3 x4 x6 x7 x8 x9 x10 : Option zV} {st : List zV} {M : zM} {a : Int} : uX8_lowest R 44 [x0, x1, x2, x3, x4, some (.inr (.inl a)), x6, x7, x8, x9, x10] st M ↔ uX8_lowest R 46 [x0, x1, x2, x3, x4, some (.inr (.inl a)), x6, x7, x8, x9, x10] (.inr (.inl a) :: st) M := zU_step dX8_lowest_44 (Or.inl rfl)
theorem dX8_lowest_46 : decode cX8_lowest 46 = .ok (.ldiv, 1) := by decide +kernel
theorem rX8_lowest_46 {R : zP} {x0 x1 x2 x3 x4 x5 x6 x7 x8 x9 x10 : Option zV} {st : List zV} {M : zM} {a b : Int} : uX8_lowest R 46 [x0, x1, x2, x3, x4, x5, x6, x7, x8, x9, x10] (.inr (.inl b) :: .inr (.inl a) :: st) M ↔ ((zLR a ∧ zLR b ∧ b ≠ 0) ∧ uX8_lowest R 47 [x0, x1, x2, x3, x4, x5, x6, x7, x8, x9, x10] (.inr (.inl (a.tdiv b)) :: st) M) := zU_step dX8_lowest_46 (Or.inl rfl)
theorem dX8_lowest_47 : decode cX8_lowest 47 = .ok (.lreturn, 1) := by decide +kernel
theorem rX8_lowest_47 {R : zP} {x0 x1 x2 x3 x4 x5 x6 x7 x8 x9 x10 : Option zV} {M : zM} {a : Int} : uX8_lowest R 47 [x0, x1, x2, x3, x4, x5, x6, x7, x8, x9, x10] [.inr (.inl a)] M ↔ R (some (.inr (.inl a))) M := Iff.trans (zU_step dX8_lowest_47 (Or.inl rfl)) ⟨fun h => h.2.2, fun h => ⟨rfl, rfl, h⟩⟩
theorem eX8_lowest {R : zP} {M : zM} {p0 : Int} {p1 : Int} {p2 : Int} : tX8_lowest [.inr (.inl p0), .inr (.inl p1), .inl p2] M R ↔ uX8_lowest R 0 [some (.inr (.inl p0)), none, some (.inr (.inl p1)), none, some (.inl p2), none, none, none, none, none, none] [] M := ⟨fun h => h.2, fun h => ⟨show 5 ≤ 11 by decide, h⟩⟩
def uX8_isText (R : zP) : zK := zU fX8 vX8_isText cX8_isText R
theorem dX8_isText_0 : decode cX8_isText 0 = .ok (.iload_n 0, 1) := by decide +kernel
theorem rX8_isText_0 {R : zP} {st : List zV} {M : zM} {a : Int} : uX8_isText R 0 [some (.inl a)] st M ↔ uX8_isText R 1 [some (.inl a)] (.inl a :: st) M := zU_step dX8_isText_0 (Or.inl rfl)
theorem dX8_isText_1 : decode cX8_isText 1 = .ok (.iconst 0, 1) := by decide +kernel
theorem rX8_isText_1 {R : zP} {x0 : Option zV} {st : List zV} {M : zM} : uX8_isText R 1 [x0] st M ↔ uX8_isText R 2 [x0] (.inl (0) :: st) M := zU_step dX8_isText_1 (Or.inl rfl)
theorem dX8_isText_2 : decode cX8_isText 2 = .ok (.iconst 1, 1) := by decide +kernel
theorem rX8_isText_2 {R : zP} {x0 : Option zV} {st : List zV} {M : zM} : uX8_isText R 2 [x0] st M ↔ uX8_isText R 3 [x0] (.inl (1) :: st) M := zU_step dX8_isText_2 (Or.inl rfl)
theorem dX8_isText_3 : decode cX8_isText 3 = .ok (.invokestatic 112, 3) := by decide +kernel
theorem rX8_isText_3 {R : zP} {x0 : Option zV} {st : List zV} {M : zM} {a0 a1 a2 : zV} : uX8_isText R 3 [x0] (a2 :: a1 :: a0 :: st) M ↔ (st.length ≤ 4 ∧ zcv tX8_in [a0, a1, a2] M (fun v M => uX8_isText R 6 [x0] (v :: st) M)) := Iff.trans (zU_step dX8_isText_3 (Or.inl rfl)) ⟨fun h => ⟨h.2.1, zcv_of h.2.2⟩, fun h => ⟨rfl, h.1, zcv_to h.2⟩⟩
theorem dX8_isText_6 : decode cX8_isText 6 = .ok (.ireturn, 1) := by decide +kernel
theorem rX8_isText_6 {R : zP} {x0 : Option zV} {M : zM} {a : Int} : uX8_isText R 6 [x0] [.inl a] M ↔ ((a = 0 ∨ a = 1) ∧ R (some (.inl a)) M) := Iff.trans (zU_step dX8_isText_6 (Or.inl rfl)) ⟨fun h => ⟨zret2 rfl h.2.1, h.2.2⟩, fun h => ⟨rfl, Or.inr (Or.inl ⟨rfl, h.1⟩), h.2⟩⟩
theorem eX8_isText {R : zP} {M : zM} {p0 : Int} : tX8_isText [.inl p0] M R ↔ uX8_isText R 0 [some (.inl p0)] [] M := ⟨fun h => h.2, fun h => ⟨show 1 ≤ 1 by decide, h⟩⟩
def uX8_isTerm (R : zP) : zK := zU fX8 vX8_isTerm cX8_isTerm R
theorem dX8_isTerm_0 : decode cX8_isTerm 0 = .ok (.iload_n 0, 1) := by decide +kernel
theorem rX8_isTerm_0 {R : zP} {st : List zV} {M : zM} {a : Int} : uX8_isTerm R 0 [some (.inl a)] st M ↔ uX8_isTerm R 1 [some (.inl a)] (.inl a :: st) M := zU_step dX8_isTerm_0 (Or.inl rfl)
theorem dX8_isTerm_1 : decode cX8_isTerm 1 = .ok (.iconst 0, 1) := by decide +kernel
theorem rX8_isTerm_1 {R : zP} {x0 : Option zV} {st : List zV} {M : zM} : uX8_isTerm R 1 [x0] st M ↔ uX8_isTerm R 2 [x0] (.inl (0) :: st) M := zU_step dX8_isTerm_1 (Or.inl rfl)
theorem dX8_isTerm_2 : decode cX8_isTerm 2 = .ok (.bipush 19, 2) := by decide +kernel
theorem rX8_isTerm_2 {R : zP} {x0 : Option zV} {st : List zV} {M : zM} : uX8_isTerm R 2 [x0] st M ↔ uX8_isTerm R 4 [x0] (.inl (19) :: st) M := Iff.trans (zU_step dX8_isTerm_2 (Or.inl rfl)) ⟨fun h => h.2, fun h => ⟨by decide, h⟩⟩
theorem dX8_isTerm_4 : decode cX8_isTerm 4 = .ok (.invokestatic 112, 3) := by decide +kernel
theorem rX8_isTerm_4 {R : zP} {x0 : Option zV} {st : List zV} {M : zM} {a0 a1 a2 : zV} : uX8_isTerm R 4 [x0] (a2 :: a1 :: a0 :: st) M ↔ (st.length ≤ 4 ∧ zcv tX8_in [a0, a1, a2] M (fun v M => uX8_isTerm R 7 [x0] (v :: st) M)) := Iff.trans (zU_step dX8_isTerm_4 (Or.inl rfl)) ⟨fun h => ⟨h.2.1, zcv_of h.2.2⟩, fun h => ⟨rfl, h.1, zcv_to h.2⟩⟩
theorem dX8_isTerm_7 : decode cX8_isTerm 7 = .ok (.ireturn, 1) := by decide +kernel
theorem rX8_isTerm_7 {R : zP} {x0 : Option zV} {M : zM} {a : Int} : uX8_isTerm R 7 [x0] [.inl a] M ↔ ((a = 0 ∨ a = 1) ∧ R (some (.inl a)) M) := Iff.trans (zU_step dX8_isTerm_7 (Or.inl rfl)) ⟨fun h => ⟨zret2 rfl h.2.1, h.2.2⟩, fun h => ⟨rfl, Or.inr (Or.inl ⟨rfl, h.1⟩), h.2⟩⟩
theorem eX8_isTerm {R : zP} {M : zM} {p0 : Int} : tX8_isTerm [.inl p0] M R ↔ uX8_isTerm R 0 [some (.inl p0)] [] M := ⟨fun h => h.2, fun h => ⟨show 1 ≤ 1 by decide, h⟩⟩
def uX8_isEight (R : zP) : zK := zU fX8 vX8_isEight cX8_isEight R
theorem dX8_isEight_0 : decode cX8_isEight 0 = .ok (.iload_n 0, 1) := by decide +kernel
theorem rX8_isEight_0 {R : zP} {st : List zV} {M : zM} {a : Int} : uX8_isEight R 0 [some (.inl a)] st M ↔ uX8_isEight R 1 [some (.inl a)] (.inl a :: st) M := zU_step dX8_isEight_0 (Or.inl rfl)
theorem dX8_isEight_1 : decode cX8_isEight 1 = .ok (.iconst 0, 1) := by decide +kernel
theorem rX8_isEight_1 {R : zP} {x0 : Option zV} {st : List zV} {M : zM} : uX8_isEight R 1 [x0] st M ↔ uX8_isEight R 2 [x0] (.inl (0) :: st) M := zU_step dX8_isEight_1 (Or.inl rfl)
theorem dX8_isEight_2 : decode cX8_isEight 2 = .ok (.bipush 7, 2) := by decide +kernel
theorem rX8_isEight_2 {R : zP} {x0 : Option zV} {st : List zV} {M : zM} : uX8_isEight R 2 [x0] st M ↔ uX8_isEight R 4 [x0] (.inl (7) :: st) M := Iff.trans (zU_step dX8_isEight_2 (Or.inl rfl)) ⟨fun h => h.2, fun h => ⟨by decide, h⟩⟩
theorem dX8_isEight_4 : decode cX8_isEight 4 = .ok (.invokestatic 112, 3) := by decide +kernel
theorem rX8_isEight_4 {R : zP} {x0 : Option zV} {st : List zV} {M : zM} {a0 a1 a2 : zV} : uX8_isEight R 4 [x0] (a2 :: a1 :: a0 :: st) M ↔ (st.length ≤ 4 ∧ zcv tX8_in [a0, a1, a2] M (fun v M => uX8_isEight R 7 [x0] (v :: st) M)) := Iff.trans (zU_step dX8_isEight_4 (Or.inl rfl)) ⟨fun h => ⟨h.2.1, zcv_of h.2.2⟩, fun h => ⟨rfl, h.1, zcv_to h.2⟩⟩
theorem dX8_isEight_7 : decode cX8_isEight 7 = .ok (.ireturn, 1) := by decide +kernel
theorem rX8_isEight_7 {R : zP} {x0 : Option zV} {M : zM} {a : Int} : uX8_isEight R 7 [x0] [.inl a] M ↔ ((a = 0 ∨ a = 1) ∧ R (some (.inl a)) M) := Iff.trans (zU_step dX8_isEight_7 (Or.inl rfl)) ⟨fun h => ⟨zret2 rfl h.2.1, h.2.2⟩, fun h => ⟨rfl, Or.inr (Or.inl ⟨rfl, h.1⟩), h.2⟩⟩
theorem eX8_isEight {R : zP} {M : zM} {p0 : Int} : tX8_isEight [.inl p0] M R ↔ uX8_isEight R 0 [some (.inl p0)] [] M := ⟨fun h => h.2, fun h => ⟨show 1 ≤ 1 by decide, h⟩⟩
def uX8_isQuestion (R : zP) : zK := zU fX8 vX8_isQuestion cX8_isQuestion R
theorem dX8_isQuestion_0 : decode cX8_isQuestion 0 = .ok (.iload_n 0, 1) := by decide +kernel
theorem rX8_isQuestion_0 {R : zP} {st : List zV} {M : zM} {a : Int} : uX8_isQuestion R 0 [some (.inl a)] st M ↔ uX8_isQuestion R 1 [some (.inl a)] (.inl a :: st) M := zU_step dX8_isQuestion_0 (Or.inl rfl)
theorem dX8_isQuestion_1 : decode cX8_isQuestion 1 = .ok (.iconst 0, 1) := by decide +kernel
theorem rX8_isQuestion_1 {R : zP} {x0 : Option zV} {st : List zV} {M : zM} : uX8_isQuestion R 1 [x0] st M ↔ uX8_isQuestion R 2 [x0] (.inl (0) :: st) M := zU_step dX8_isQuestion_1 (Or.inl rfl)
theorem dX8_isQuestion_2 : decode cX8_isQuestion 2 = .ok (.iconst 3, 1) := by decide +kernel
theorem rX8_isQuestion_2 {R : zP} {x0 : Option zV} {st : List zV} {M : zM} : uX8_isQuestion R 2 [x0] st M ↔ uX8_isQuestion R 3 [x0] (.inl (3) :: st) M := zU_step dX8_isQuestion_2 (Or.inl rfl)
theorem dX8_isQuestion_3 : decode cX8_isQuestion 3 = .ok (.invokestatic 112, 3) := by decide +kernel
theorem rX8_isQuestion_3 {R : zP} {x0 : Option zV} {st : List zV} {M : zM} {a0 a1 a2 : zV} : uX8_isQuestion R 3 [x0] (a2 :: a1 :: a0 :: st) M ↔ (st.length ≤ 4 ∧ zcv tX8_in [a0, a1, a2] M (fun v M => uX8_isQuestion R 6 [x0] (v :: st) M)) := Iff.trans (zU_step dX8_isQuestion_3 (Or.inl rfl)) ⟨fun h => ⟨h.2.1, zcv_of h.2.2⟩, fun h => ⟨rfl, h.1, zcv_to h.2⟩⟩
theorem dX8_isQuestion_6 : decode cX8_isQuestion 6 = .ok (.ireturn, 1) := by decide +kernel
theorem rX8_isQuestion_6 {R : zP} {x0 : Option zV} {M : zM} {a : Int} : uX8_isQuestion R 6 [x0] [.inl a] M ↔ ((a = 0 ∨ a = 1) ∧ R (some (.inl a)) M) := Iff.trans (zU_step dX8_isQuestion_6 (Or.inl rfl)) ⟨fun h => ⟨zret2 rfl h.2.1, h.2.2⟩, fun h => ⟨rfl, Or.inr (Or.inl ⟨rfl, h.1⟩), h.2⟩⟩
theorem eX8_isQuestion {R : zP} {M : zM} {p0 : Int} : tX8_isQuestion [.inl p0] M R ↔ uX8_isQuestion R 0 [some (.inl p0)] [] M := ⟨fun h => h.2, fun h => ⟨show 1 ≤ 1 by decide, h⟩⟩
def uX8_type (R : zP) : zK := zU fX8 vX8_type cX8_type R
theorem dX8_type_0 : decode cX8_type 0 = .ok (.iload_n 1, 1) := by decide +kernel
theorem rX8_type_0 {R : zP} {x0 x2 : Option zV} {st : List zV} {M : zM} {a : Int} : uX8_type R 0 [x0, some (.inl a), x2] st M ↔ uX8_type R 1 [x0, some (.inl a), x2] (.inl a :: st) M := zU_step dX8_type_0 (Or.inl rfl)
theorem dX8_type_1 : decode cX8_type 1 = .ok (.invokestatic 116, 3) := by decide +kernel
theorem rX8_type_1 {R : zP} {x0 x1 x2 : Option zV} {st : List zV} {M : zM} {a0 : zV} : uX8_type R 1 [x0, x1, x2] (a0 :: st) M ↔ (st.length ≤ 4 ∧ zcv tX8_isText [a0] M (fun v M => uX8_type R 4 [x0, x1, x2] (v :: st) M)) := Iff.trans (zU_step dX8_type_1 (Or.inl rfl)) ⟨fun h => ⟨h.2.1, zcv_of h.2.2⟩, fun h => ⟨rfl, h.1, zcv_to h.2⟩⟩
theorem dX8_type_4 : decode cX8_type 4 = .ok (.ifCond .eq 14, 3) := by decide +kernel
theorem rX8_type_4 {R : zP} {x0 x1 x2 : Option zV} {st : List zV} {M : zM} {a : Int} : uX8_type R 4 [x0, x1, x2] (.inl a :: st) M ↔ (zIR a ∧ if a = 0 then uX8_type R 18 [x0, x1, x2] st M else uX8_type R 7 [x0, x1, x2] st M) := Iff.trans (zU_step dX8_type_4 (Or.inl rfl)) ⟨fun h => ⟨h.1.1, (zite (c := a = 0)).mpr h.2⟩, fun h => ⟨⟨h.1, by decide⟩, (zite (c := a = 0)).mp h.2⟩⟩
theorem dX8_type_7 : decode cX8_type 7 = .ok (.iload_n 2, 1) := by decide +kernel
theorem rX8_type_7 {R : zP} {x0 x1 : Option zV} {st : List zV} {M : zM} {a : Int} : uX8_type R 7 [x0, x1, some (.inl a)] st M ↔ uX8_type R 8 [x0, x1, some (.inl a)] (.inl a :: st) M := zU_step dX8_type_7 (Or.inl rfl)
theorem dX8_type_8 : decode cX8_type 8 = .ok (.iconst 0, 1) := by decide +kernel
theorem rX8_type_8 {R : zP} {x0 x1 x2 : Option zV} {st : List zV} {M : zM} : uX8_type R 8 [x0, x1, x2] st M ↔ uX8_type R 9 [x0, x1, x2] (.inl (0) :: st) M := zU_step dX8_type_8 (Or.inl rfl)
theorem dX8_type_9 : decode cX8_type 9 = .ok (.sipush 255, 3) := by decide +kernel
theorem rX8_type_9 {R : zP} {x0 x1 x2 : Option zV} {st : List zV} {M : zM} : uX8_type R 9 [x0, x1, x2] st M ↔ uX8_type R 12 [x0, x1, x2] (.inl (255) :: st) M := Iff.trans (zU_step dX8_type_9 (Or.inl rfl)) ⟨fun h => h.2, fun h => ⟨by decide, h⟩⟩
theorem dX8_type_12 : decode cX8_type 12 = .ok (.invokestatic 112, 3) := by decide +kernel
theorem rX8_type_12 {R : zP} {x0 x1 x2 : Option zV} {st : List zV} {M : zM} {a0 a1 a2 : zV} : uX8_type R 12 [x0, x1, x2] (a2 :: a1 :: a0 :: st) M ↔ (st.length ≤ 4 ∧ zcv tX8_in [a0, a1, a2] M (fun v M => uX8_type R 15 [x0, x1, x2] (v :: st) M)) := Iff.trans (zU_step dX8_type_12 (Or.inl rfl)) ⟨fun h => ⟨h.2.1, zcv_of h.2.2⟩, fun h => ⟨rfl, h.1, zcv_to h.2⟩⟩
theorem dX8_type_15 : decode cX8_type 15 = .ok (.ifCond .ne 6, 3) := by decide +kernel
theorem rX8_type_15 {R : zP} {x0 x1 x2 : Option zV} {st : List zV} {M : zM} {a : Int} : uX8_type R 15 [x0, x1, x2] (.inl a :: st) M ↔ (zIR a ∧ if a ≠ 0 then uX8_type R 21 [x0, x1, x2] st M else uX8_type R 18 [x0, x1, x2] st M) := Iff.trans (zU_step dX8_type_15 (Or.inl rfl)) ⟨fun h => ⟨h.1.1, (zite (c := a ≠ 0)).mpr h.2⟩, fun h => ⟨⟨h.1, by decide⟩, (zite (c := a ≠ 0)).mp h.2⟩⟩
theorem dX8_type_18 : decode cX8_type 18 = .ok (.bipush (-2), 2) := by decide +kernel
theorem rX8_type_18 {R : zP} {x0 x1 x2 : Option zV} {st : List zV} {M : zM} : uX8_type R 18 [x0, x1, x2] st M ↔ uX8_type R 20 [x0, x1, x2] (.inl (-2) :: st) M := Iff.trans (zU_step dX8_type_18 (Or.inl rfl)) ⟨fun h => h.2, fun h => ⟨by decide, h⟩⟩
theorem dX8_type_20 : decode cX8_type 20 = .ok (.ireturn, 1) := by decide +kernel
theorem rX8_type_20 {R : zP} {x0 x1 x2 : Option zV} {M : zM} {a : Int} : uX8_type R 20 [x0, x1, x2] [.inl a] M ↔ R (some (.inl a)) M := Iff.trans (zU_step dX8_type_20 (Or.inl rfl)) ⟨fun h => h.2.2, fun h => ⟨rfl, Or.inl rfl, h⟩⟩
theorem dX8_type_21 : decode cX8_type 21 = .ok (.aload_n 0, 1) := by decide +kernel
theorem rX8_type_21 {R : zP} {x1 x2 : Option zV} {st : List zV} {M : zM} {a : Nat} : uX8_type R 21 [some (.inr (.inr a)), x1, x2] st M ↔ uX8_type R 22 [some (.inr (.inr a)), x1, x2] (.inr (.inr a) :: st) M := zU_step dX8_type_21 (Or.inl rfl)
theorem dX8_type_22 : decode cX8_type 22 = .ok (.getfield 7, 3) := by decide +kernel
theorem rX8_type_22 {R : zP} {x0 x1 x2 : Option zV} {st : List zV} {M : zM} {r : Nat} : uX8_type R 22 [x0, x1, x2] (.inr (.inr r) :: st) M ↔ zgetx fX8 7 r M (fun v => uX8_type R 25 [x0, x1, x2] (v :: st) M) := zU_step dX8_type_22 (Or.inl rfl)
theorem dX8_type_25 : decode cX8_type 25 = .ok (.iload_n 1, 1) := by decide +kernel
theorem rX8_type_25 {R : zP} {x0 x2 : Option zV} {st : List zV} {M : zM} {a : Int} : uX8_type R 25 [x0, some (.inl a), x2] st M ↔ uX8_type R 26 [x0, some (.inl a), x2] (.inl a :: st) M := zU_step dX8_type_25 (Or.inl rfl)
theorem dX8_type_26 : decode cX8_type 26 = .ok (.iaload, 1) := by decide +kernel
theorem rX8_type_26 {R : zP} {x0 x1 x2 : Option zV} {st : List zV} {M : zM} {i : Int} {r : Nat} : uX8_type R 26 [x0, x1, x2] (.inl i :: .inr (.inr r) :: st) M ↔ zread fX8 0 r M i (fun v => uX8_type R 27 [x0, x1, x2] (.inl v :: st) M) := zU_step dX8_type_26 (Or.inl rfl)
theorem dX8_type_27 : decode cX8_type 27 = .ok (.bipush 47, 2) := by decide +kernel
theorem rX8_type_27 {R : zP} {x0 x1 x2 : Option zV} {st : List zV} {M : zM} : uX8_type R 27 [x0, x1, x2] st M ↔ uX8_type R 29 [x0, x1, x2] (.inl (47) :: st) M := Iff.trans (zU_step dX8_type_27 (Or.inl rfl)) ⟨fun h => h.2, fun h => ⟨by decide, h⟩⟩
theorem dX8_type_29 : decode cX8_type 29 = .ok (.if_icmp .ne 6, 3) := by decide +kernel
theorem rX8_type_29 {R : zP} {x0 x1 x2 : Option zV} {st : List zV} {M : zM} {a b : Int} : uX8_type R 29 [x0, x1, x2] (.inl b :: .inl a :: st) M ↔ ((zIR a ∧ zIR b) ∧ if a ≠ b then uX8_type R 35 [x0, x1, x2] st M else uX8_type R 32 [x0, x1, x2] st M) := Iff.trans (zU_step dX8_type_29 (Or.inl rfl)) ⟨fun h => ⟨⟨h.1.1, h.1.2.1⟩, (zite (c := a ≠ b)).mpr h.2⟩, fun h => ⟨⟨h.1.1, h.1.2, by decide⟩, (zite (c := a ≠ b)).mp h.2⟩⟩
theorem dX8_type_32 : decode cX8_type 32 = .ok (.bipush (-4), 2) := by decide +kernel
theorem rX8_type_32 {R : zP} {x0 x1 x2 : Option zV} {st : List zV} {M : zM} : uX8_type R 32 [x0, x1, x2] st M ↔ uX8_type R 34 [x0, x1, x2] (.inl (-4) :: st) M := Iff.trans (zU_step dX8_type_32 (Or.inl rfl)) ⟨fun h => h.2, fun h => ⟨by decide, h⟩⟩
theorem dX8_type_34 : decode cX8_type 34 = .ok (.ireturn, 1) := by decide +kernel
theorem rX8_type_34 {R : zP} {x0 x1 x2 : Option zV} {M : zM} {a : Int} : uX8_type R 34 [x0, x1, x2] [.inl a] M ↔ R (some (.inl a)) M := Iff.trans (zU_step dX8_type_34 (Or.inl rfl)) ⟨fun h => h.2.2, fun h => ⟨rfl, Or.inl rfl, h⟩⟩
theorem dX8_type_35 : decode cX8_type 35 = .ok (.aload_n 0, 1) := by decide +kernel
theorem rX8_type_35 {R : zP} {x1 x2 : Option zV} {st : List zV} {M : zM} {a : Nat} : uX8_type R 35 [some (.inr (.inr a)), x1, x2] st M ↔ uX8_type R 36 [some (.inr (.inr a)), x1, x2] (.inr (.inr a) :: st) M := zU_step dX8_type_35 (Or.inl rfl)
theorem dX8_type_36 : decode cX8_type 36 = .ok (.getfield 13, 3) := by decide +kernel
theorem rX8_type_36 {R : zP} {x0 x1 x2 : Option zV} {st : List zV} {M : zM} {r : Nat} : uX8_type R 36 [x0, x1, x2] (.inr (.inr r) :: st) M ↔ zgetx fX8 13 r M (fun v => uX8_type R 39 [x0, x1, x2] (v :: st) M) := zU_step dX8_type_36 (Or.inl rfl)
theorem dX8_type_39 : decode cX8_type 39 = .ok (.bipush 47, 2) := by decide +kernel
theorem rX8_type_39 {R : zP} {x0 x1 x2 : Option zV} {st : List zV} {M : zM} : uX8_type R 39 [x0, x1, x2] st M ↔ uX8_type R 41 [x0, x1, x2] (.inl (47) :: st) M := Iff.trans (zU_step dX8_type_39 (Or.inl rfl)) ⟨fun h => h.2, fun h => ⟨by decide, h⟩⟩
theorem dX8_type_41 : decode cX8_type 41 = .ok (.iload_n 1, 1) := by decide +kernel
theorem rX8_type_41 {R : zP} {x0 x2 : Option zV} {st : List zV} {M : zM} {a : Int} : uX8_type R 41 [x0, some (.inl a), x2] st M ↔ uX8_type R 42 [x0, some (.inl a), x2] (.inl a :: st) M := zU_step dX8_type_41 (Or.inl rfl)
theorem dX8_type_42 : decode cX8_type 42 = .ok (.imul, 1) := by decide +kernel
theorem rX8_type_42 {R : zP} {x0 x1 x2 : Option zV} {st : List zV} {M : zM} {a b : Int} : uX8_type R 42 [x0, x1, x2] (.inl b :: .inl a :: st) M ↔ uX8_type R 43 [x0, x1, x2] (.inl (a * b) :: st) M := zU_step dX8_type_42 (Or.inl rfl)
theorem dX8_type_43 : decode cX8_type 43 = .ok (.aload_n 0, 1) := by decide +kernel
theorem rX8_type_43 {R : zP} {x1 x2 : Option zV} {st : List zV} {M : zM} {a : Nat} : uX8_type R 43 [some (.inr (.inr a)), x1, x2] st M ↔ uX8_type R 44 [some (.inr (.inr a)), x1, x2] (.inr (.inr a) :: st) M := zU_step dX8_type_43 (Or.inl rfl)
theorem dX8_type_44 : decode cX8_type 44 = .ok (.getfield 7, 3) := by decide +kernel
theorem rX8_type_44 {R : zP} {x0 x1 x2 : Option zV} {st : List zV} {M : zM} {r : Nat} : uX8_type R 44 [x0, x1, x2] (.inr (.inr r) :: st) M ↔ zgetx fX8 7 r M (fun v => uX8_type R 47 [x0, x1, x2] (v :: st) M) := zU_step dX8_type_44 (Or.inl rfl)
theorem dX8_type_47 : decode cX8_type 47 = .ok (.iload_n 1, 1) := by decide +kernel
theorem rX8_type_47 {R : zP} {x0 x2 : Option zV} {st : List zV} {M : zM} {a : Int} : uX8_type R 47 [x0, some (.inl a), x2] st M ↔ uX8_type R 48 [x0, some (.inl a), x2] (.inl a :: st) M := zU_step dX8_type_47 (Or.inl rfl)
theorem dX8_type_48 : decode cX8_type 48 = .ok (.iaload, 1) := by decide +kernel
theorem rX8_type_48 {R : zP} {x0 x1 x2 : Option zV} {st : List zV} {M : zM} {i : Int} {r : Nat} : uX8_type R 48 [x0, x1, x2] (.inl i :: .inr (.inr r) :: st) M ↔ zread fX8 0 r M i (fun v => uX8_type R 49 [x0, x1, x2] (.inl v :: st) M) := zU_step dX8_type_48 (Or.inl rfl)
theorem dX8_type_49 : decode cX8_type 49 = .ok (.iadd, 1) := by decide +kernel
theorem rX8_type_49 {R : zP} {x0 x1 x2 : Option zV} {st : List zV} {M : zM} {a b : Int} : uX8_type R 49 [x0, x1, x2] (.inl b :: .inl a :: st) M ↔ uX8_type R 50 [x0, x1, x2] (.inl (a + b) :: st) M := zU_step dX8_type_49 (Or.inl rfl)
theorem dX8_type_50 : decode cX8_type 50 = .ok (.iload_n 2, 1) := by decide +kernel
theorem rX8_type_50 {R : zP} {x0 x1 : Option zV} {st : List zV} {M : zM} {a : Int} : uX8_type R 50 [x0, x1, some (.inl a)] st M ↔ uX8_type R 51 [x0, x1, some (.inl a)] (.inl a :: st) M := zU_step dX8_type_50 (Or.inl rfl)
theorem dX8_type_51 : decode cX8_type 51 = .ok (.iastore, 1) := by decide +kernel
theorem rX8_type_51 {R : zP} {x0 x1 x2 : Option zV} {st : List zV} {M : zM} {i v : Int} {r : Nat} : uX8_type R 51 [x0, x1, x2] (.inl v :: .inl i :: .inr (.inr r) :: st) M ↔ zwrite 0 r i (uX8_type R 52 [x0, x1, x2] st (zup M r i v)) := zU_step dX8_type_51 (Or.inl rfl)
theorem dX8_type_52 : decode cX8_type 52 = .ok (.aload_n 0, 1) := by decide +kernel
theorem rX8_type_52 {R : zP} {x1 x2 : Option zV} {st : List zV} {M : zM} {a : Nat} : uX8_type R 52 [some (.inr (.inr a)), x1, x2] st M ↔ uX8_type R 53 [some (.inr (.inr a)), x1, x2] (.inr (.inr a) :: st) M := zU_step dX8_type_52 (Or.inl rfl)
theorem dX8_type_53 : decode cX8_type 53 = .ok (.getfield 7, 3) := by decide +kernel
theorem rX8_type_53 {R : zP} {x0 x1 x2 : Option zV} {st : List zV} {M : zM} {r : Nat} : uX8_type R 53 [x0, x1, x2] (.inr (.inr r) :: st) M ↔ zgetx fX8 7 r M (fun v => uX8_type R 56 [x0, x1, x2] (v :: st) M) := zU_step dX8_type_53 (Or.inl rfl)
theorem dX8_type_56 : decode cX8_type 56 = .ok (.iload_n 1, 1) := by decide +kernel
theorem rX8_type_56 {R : zP} {x0 x2 : Option zV} {st : List zV} {M : zM} {a : Int} : uX8_type R 56 [x0, some (.inl a), x2] st M ↔ uX8_type R 57 [x0, some (.inl a), x2] (.inl a :: st) M := zU_step dX8_type_56 (Or.inl rfl)
theorem dX8_type_57 : decode cX8_type 57 = .ok (.dup2, 1) := by decide +kernel
theorem rX8_type_57 {R : zP} {x0 x1 x2 : Option zV} {st : List zV} {M : zM} {a : Int} {b : Nat} : uX8_type R 57 [x0, x1, x2] (.inl a :: .inr (.inr b) :: st) M ↔ uX8_type R 58 [x0, x1, x2] (.inl a :: .inr (.inr b) :: .inl a :: .inr (.inr b) :: st) M := zU_step dX8_type_57 (Or.inl rfl)
theorem dX8_type_58 : decode cX8_type 58 = .ok (.iaload, 1) := by decide +kernel
theorem rX8_type_58 {R : zP} {x0 x1 x2 : Option zV} {st : List zV} {M : zM} {i : Int} {r : Nat} : uX8_type R 58 [x0, x1, x2] (.inl i :: .inr (.inr r) :: st) M ↔ zread fX8 0 r M i (fun v => uX8_type R 59 [x0, x1, x2] (.inl v :: st) M) := zU_step dX8_type_58 (Or.inl rfl)
theorem dX8_type_59 : decode cX8_type 59 = .ok (.iconst 1, 1) := by decide +kernel
theorem rX8_type_59 {R : zP} {x0 x1 x2 : Option zV} {st : List zV} {M : zM} : uX8_type R 59 [x0, x1, x2] st M ↔ uX8_type R 60 [x0, x1, x2] (.inl (1) :: st) M := zU_step dX8_type_59 (Or.inl rfl)
theorem dX8_type_60 : decode cX8_type 60 = .ok (.iadd, 1) := by decide +kernel
theorem rX8_type_60 {R : zP} {x0 x1 x2 : Option zV} {st : List zV} {M : zM} {a b : Int} : uX8_type R 60 [x0, x1, x2] (.inl b :: .inl a :: st) M ↔ uX8_type R 61 [x0, x1, x2] (.inl (a + b) :: st) M := zU_step dX8_type_60 (Or.inl rfl)
theorem dX8_type_61 : decode cX8_type 61 = .ok (.iastore, 1) := by decide +kernel
theorem rX8_type_61 {R : zP} {x0 x1 x2 : Option zV} {st : List zV} {M : zM} {i v : Int} {r : Nat} : uX8_type R 61 [x0, x1, x2] (.inl v :: .inl i :: .inr (.inr r) :: st) M ↔ zwrite 0 r i (uX8_type R 62 [x0, x1, x2] st (zup M r i v)) := zU_step dX8_type_61 (Or.inl rfl)
theorem dX8_type_62 : decode cX8_type 62 = .ok (.aload_n 0, 1) := by decide +kernel
theorem rX8_type_62 {R : zP} {x1 x2 : Option zV} {st : List zV} {M : zM} {a : Nat} : uX8_type R 62 [some (.inr (.inr a)), x1, x2] st M ↔ uX8_type R 63 [some (.inr (.inr a)), x1, x2] (.inr (.inr a) :: st) M := zU_step dX8_type_62 (Or.inl rfl)
theorem dX8_type_63 : decode cX8_type 63 = .ok (.getfield 7, 3) := by decide +kernel
theorem rX8_type_63 {R : zP} {x0 x1 x2 : Option zV} {st : List zV} {M : zM} {r : Nat} : uX8_type R 63 [x0, x1, x2] (.inr (.inr r) :: st) M ↔ zgetx fX8 7 r M (fun v => uX8_type R 66 [x0, x1, x2] (v :: st) M) := zU_step dX8_type_63 (Or.inl rfl)
theorem dX8_type_66 : decode cX8_type 66 = .ok (.iload_n 1, 1) := by decide +kernel
theorem rX8_type_66 {R : zP} {x0 x2 : Option zV} {st : List zV} {M : zM} {a : Int} : uX8_type R 66 [x0, some (.inl a), x2] st M ↔ uX8_type R 67 [x0, some (.inl a), x2] (.inl a :: st) M := zU_step dX8_type_66 (Or.inl rfl)
theorem dX8_type_67 : decode cX8_type 67 = .ok (.iaload, 1) := by decide +kernel
theorem rX8_type_67 {R : zP} {x0 x1 x2 : Option zV} {st : List zV} {M : zM} {i : Int} {r : Nat} : uX8_type R 67 [x0, x1, x2] (.inl i :: .inr (.inr r) :: st) M ↔ zread fX8 0 r M i (fun v => uX8_type R 68 [x0, x1, x2] (.inl v :: st) M) := zU_step dX8_type_67 (Or.inl rfl)
theorem dX8_type_68 : decode cX8_type 68 = .ok (.ireturn, 1) := by decide +kernel
theorem rX8_type_68 {R : zP} {x0 x1 x2 : Option zV} {M : zM} {a : Int} : uX8_type R 68 [x0, x1, x2] [.inl a] M ↔ R (some (.inl a)) M := Iff.trans (zU_step dX8_type_68 (Or.inl rfl)) ⟨fun h => h.2.2, fun h => ⟨rfl, Or.inl rfl, h⟩⟩
theorem eX8_type {R : zP} {M : zM} {a0 : Nat} {p0 : Int} {p1 : Int} : tX8_type [.inr (.inr a0), .inl p0, .inl p1] M R ↔ uX8_type R 0 [some (.inr (.inr a0)), some (.inl p0), some (.inl p1)] [] M := ⟨fun h => h.2, fun h => ⟨show 3 ≤ 3 by decide, h⟩⟩
def uX8_wipe (R : zP) : zK := zU fX8 vX8_wipe cX8_wipe R
theorem dX8_wipe_0 : decode cX8_wipe 0 = .ok (.iload_n 1, 1) := by decide +kernel
theorem rX8_wipe_0 {R : zP} {x0 x2 : Option zV} {st : List zV} {M : zM} {a : Int} : uX8_wipe R 0 [x0, some (.inl a), x2] st M ↔ uX8_wipe R 1 [x0, some (.inl a), x2] (.inl a :: st) M := zU_step dX8_wipe_0 (Or.inl rfl)
theorem dX8_wipe_1 : decode cX8_wipe 1 = .ok (.invokestatic 116, 3) := by decide +kernel
theorem rX8_wipe_1 {R : zP} {x0 x1 x2 : Option zV} {st : List zV} {M : zM} {a0 : zV} : uX8_wipe R 1 [x0, x1, x2] (a0 :: st) M ↔ (st.length ≤ 4 ∧ zcv tX8_isText [a0] M (fun v M => uX8_wipe R 4 [x0, x1, x2] (v :: st) M)) := Iff.trans (zU_step dX8_wipe_1 (Or.inl rfl)) ⟨fun h => ⟨h.2.1, zcv_of h.2.2⟩, fun h => ⟨rfl, h.1, zcv_to h.2⟩⟩
theorem dX8_wipe_4 : decode cX8_wipe 4 = .ok (.ifCond .ne 6, 3) := by decide +kernel
theorem rX8_wipe_4 {R : zP} {x0 x1 x2 : Option zV} {st : List zV} {M : zM} {a : Int} : uX8_wipe R 4 [x0, x1, x2] (.inl a :: st) M ↔ (zIR a ∧ if a ≠ 0 then uX8_wipe R 10 [x0, x1, x2] st M else uX8_wipe R 7 [x0, x1, x2] st M) := Iff.trans (zU_step dX8_wipe_4 (Or.inl rfl)) ⟨fun h => ⟨h.1.1, (zite (c := a ≠ 0)).mpr h.2⟩, fun h => ⟨⟨h.1, by decide⟩, (zite (c := a ≠ 0)).mp h.2⟩⟩
theorem dX8_wipe_7 : decode cX8_wipe 7 = .ok (.bipush (-2), 2) := by decide +kernel
theorem rX8_wipe_7 {R : zP} {x0 x1 x2 : Option zV} {st : List zV} {M : zM} : uX8_wipe R 7 [x0, x1, x2] st M ↔ uX8_wipe R 9 [x0, x1, x2] (.inl (-2) :: st) M := Iff.trans (zU_step dX8_wipe_7 (Or.inl rfl)) ⟨fun h => h.2, fun h => ⟨by decide, h⟩⟩
theorem dX8_wipe_9 : decode cX8_wipe 9 = .ok (.ireturn, 1) := by decide +kernel
theorem rX8_wipe_9 {R : zP} {x0 x1 x2 : Option zV} {M : zM} {a : Int} : uX8_wipe R 9 [x0, x1, x2] [.inl a] M ↔ R (some (.inl a)) M := Iff.trans (zU_step dX8_wipe_9 (Or.inl rfl)) ⟨fun h => h.2.2, fun h => ⟨rfl, Or.inl rfl, h⟩⟩
theorem dX8_wipe_10 : decode cX8_wipe 10 = .ok (.aload_n 0, 1) := by decide +kernel
theorem rX8_wipe_10 {R : zP} {x1 x2 : Option zV} {st : List zV} {M : zM} {a : Nat} : uX8_wipe R 10 [some (.inr (.inr a)), x1, x2] st M ↔ uX8_wipe R 11 [some (.inr (.inr a)), x1, x2] (.inr (.inr a) :: st) M := zU_step dX8_wipe_10 (Or.inl rfl)
theorem dX8_wipe_11 : decode cX8_wipe 11 = .ok (.getfield 7, 3) := by decide +kernel
theorem rX8_wipe_11 {R : zP} {x0 x1 x2 : Option zV} {st : List zV} {M : zM} {r : Nat} : uX8_wipe R 11 [x0, x1, x2] (.inr (.inr r) :: st) M ↔ zgetx fX8 7 r M (fun v => uX8_wipe R 14 [x0, x1, x2] (v :: st) M) := zU_step dX8_wipe_11 (Or.inl rfl)
theorem dX8_wipe_14 : decode cX8_wipe 14 = .ok (.iload_n 1, 1) := by decide +kernel
theorem rX8_wipe_14 {R : zP} {x0 x2 : Option zV} {st : List zV} {M : zM} {a : Int} : uX8_wipe R 14 [x0, some (.inl a), x2] st M ↔ uX8_wipe R 15 [x0, some (.inl a), x2] (.inl a :: st) M := zU_step dX8_wipe_14 (Or.inl rfl)
theorem dX8_wipe_15 : decode cX8_wipe 15 = .ok (.iaload, 1) := by decide +kernel
theorem rX8_wipe_15 {R : zP} {x0 x1 x2 : Option zV} {st : List zV} {M : zM} {i : Int} {r : Nat} : uX8_wipe R 15 [x0, x1, x2] (.inl i :: .inr (.inr r) :: st) M ↔ zread fX8 0 r M i (fun v => uX8_wipe R 16 [x0, x1, x2] (.inl v :: st) M) := zU_step dX8_wipe_15 (Or.inl rfl)
theorem dX8_wipe_16 : decode cX8_wipe 16 = .ok (.istore_n 2, 1) := by decide +kernel
theorem rX8_wipe_16 {R : zP} {x0 x2 : Option zV} {st : List zV} {M : zM} {a : Int} {y : Int} : uX8_wipe R 16 [x0, some (.inl y), x2] (.inl a :: st) M ↔ uX8_wipe R 17 [x0, some (.inl y), some (.inl a)] st M := Iff.trans (zU_step dX8_wipe_16 (Or.inl rfl)) ⟨fun h => h.2, fun h => ⟨show 2 < 3 by decide, h⟩⟩
theorem rX8_wipe_16z {R : zP} {x0 x1 x2 : Option zV} {st : List zV} {M : zM} {a : Int} : uX8_wipe R 16 [x0, x1, x2] (.inl a :: st) M ↔ uX8_wipe R 17 [x0, zkeep x1, some (.inl a)] st M := Iff.trans (zU_step dX8_wipe_16 (Or.inl rfl)) ⟨fun h => h.2, fun h => ⟨show 2 < 3 by decide, h⟩⟩
theorem dX8_wipe_17 : decode cX8_wipe 17 = .ok (.aload_n 0, 1) := by decide +kernel
theorem rX8_wipe_17 {R : zP} {x1 x2 : Option zV} {st : List zV} {M : zM} {a : Nat} : uX8_wipe R 17 [some (.inr (.inr a)), x1, x2] st M ↔ uX8_wipe R 18 [some (.inr (.inr a)), x1, x2] (.inr (.inr a) :: st) M := zU_step dX8_wipe_17 (Or.inl rfl)
theorem dX8_wipe_18 : decode cX8_wipe 18 = .ok (.getfield 7, 3) := by decide +kernel
theorem rX8_wipe_18 {R : zP} {x0 x1 x2 : Option zV} {st : List zV} {M : zM} {r : Nat} : uX8_wipe R 18 [x0, x1, x2] (.inr (.inr r) :: st) M ↔ zgetx fX8 7 r M (fun v => uX8_wipe R 21 [x0, x1, x2] (v :: st) M) := zU_step dX8_wipe_18 (Or.inl rfl)
theorem dX8_wipe_21 : decode cX8_wipe 21 = .ok (.iload_n 1, 1) := by decide +kernel
theorem rX8_wipe_21 {R : zP} {x0 x2 : Option zV} {st : List zV} {M : zM} {a : Int} : uX8_wipe R 21 [x0, some (.inl a), x2] st M ↔ uX8_wipe R 22 [x0, some (.inl a), x2] (.inl a :: st) M := zU_step dX8_wipe_21 (Or.inl rfl)
theorem dX8_wipe_22 : decode cX8_wipe 22 = .ok (.iconst 0, 1) := by decide +kernel
theorem rX8_wipe_22 {R : zP} {x0 x1 x2 : Option zV} {st : List zV} {M : zM} : uX8_wipe R 22 [x0, x1, x2] st M ↔ uX8_wipe R 23 [x0, x1, x2] (.inl (0) :: st) M := zU_step dX8_wipe_22 (Or.inl rfl)
theorem dX8_wipe_23 : decode cX8_wipe 23 = .ok (.iastore, 1) := by decide +kernel
theorem rX8_wipe_23 {R : zP} {x0 x1 x2 : Option zV} {st : List zV} {M : zM} {i v : Int} {r : Nat} : uX8_wipe R 23 [x0, x1, x2] (.inl v :: .inl i :: .inr (.inr r) :: st) M ↔ zwrite 0 r i (uX8_wipe R 24 [x0, x1, x2] st (zup M r i v)) := zU_step dX8_wipe_23 (Or.inl rfl)
theorem dX8_wipe_24 : decode cX8_wipe 24 = .ok (.iload_n 2, 1) := by decide +kernel
theorem rX8_wipe_24 {R : zP} {x0 x1 : Option zV} {st : List zV} {M : zM} {a : Int} : uX8_wipe R 24 [x0, x1, some (.inl a)] st M ↔ uX8_wipe R 25 [x0, x1, some (.inl a)] (.inl a :: st) M := zU_step dX8_wipe_24 (Or.inl rfl)
theorem dX8_wipe_25 : decode cX8_wipe 25 = .ok (.ireturn, 1) := by decide +kernel
theorem rX8_wipe_25 {R : zP} {x0 x1 x2 : Option zV} {M : zM} {a : Int} : uX8_wipe R 25 [x0, x1, x2] [.inl a] M ↔ R (some (.inl a)) M := Iff.trans (zU_step dX8_wipe_25 (Or.inl rfl)) ⟨fun h => h.2.2, fun h => ⟨rfl, Or.inl rfl, h⟩⟩
theorem eX8_wipe {R : zP} {M : zM} {a0 : Nat} {p0 : Int} : tX8_wipe [.inr (.inr a0), .inl p0] M R ↔ uX8_wipe R 0 [some (.inr (.inr a0)), some (.inl p0), none] [] M := ⟨fun h => h.2, fun h => ⟨show 2 ≤ 3 by decide, h⟩⟩
def uX8_undo (R : zP) : zK := zU fX8 vX8_undo cX8_undo R
theorem dX8_undo_0 : decode cX8_undo 0 = .ok (.iload_n 1, 1) := by decide +kernel
theorem rX8_undo_0 {R : zP} {x0 : Option zV} {st : List zV} {M : zM} {a : Int} : uX8_undo R 0 [x0, some (.inl a)] st M ↔ uX8_undo R 1 [x0, some (.inl a)] (.inl a :: st) M := zU_step dX8_undo_0 (Or.inl rfl)
theorem dX8_undo_1 : decode cX8_undo 1 = .ok (.invokestatic 116, 3) := by decide +kernel
theorem rX8_undo_1 {R : zP} {x0 x1 : Option zV} {st : List zV} {M : zM} {a0 : zV} : uX8_undo R 1 [x0, x1] (a0 :: st) M ↔ (st.length ≤ 4 ∧ zcv tX8_isText [a0] M (fun v M => uX8_undo R 4 [x0, x1] (v :: st) M)) := Iff.trans (zU_step dX8_undo_1 (Or.inl rfl)) ⟨fun h => ⟨h.2.1, zcv_of h.2.2⟩, fun h => ⟨rfl, h.1, zcv_to h.2⟩⟩
theorem dX8_undo_4 : decode cX8_undo 4 = .ok (.ifCond .ne 6, 3) := by decide +kernel
theorem rX8_undo_4 {R : zP} {x0 x1 : Option zV} {st : List zV} {M : zM} {a : Int} : uX8_undo R 4 [x0, x1] (.inl a :: st) M ↔ (zIR a ∧ if a ≠ 0 then uX8_undo R 10 [x0, x1] st M else uX8_undo R 7 [x0, x1] st M) := Iff.trans (zU_step dX8_undo_4 (Or.inl rfl)) ⟨fun h => ⟨h.1.1, (zite (c := a ≠ 0)).mpr h.2⟩, fun h => ⟨⟨h.1, by decide⟩, (zite (c := a ≠ 0)).mp h.2⟩⟩
theorem dX8_undo_7 : decode cX8_undo 7 = .ok (.bipush (-2), 2) := by decide +kernel
theorem rX8_undo_7 {R : zP} {x0 x1 : Option zV} {st : List zV} {M : zM} : uX8_undo R 7 [x0, x1] st M ↔ uX8_undo R 9 [x0, x1] (.inl (-2) :: st) M := Iff.trans (zU_step dX8_undo_7 (Or.inl rfl)) ⟨fun h => h.2, fun h => ⟨by decide, h⟩⟩
theorem dX8_undo_9 : decode cX8_undo 9 = .ok (.ireturn, 1) := by decide +kernel
theorem rX8_undo_9 {R : zP} {x0 x1 : Option zV} {M : zM} {a : Int} : uX8_undo R 9 [x0, x1] [.inl a] M ↔ R (some (.inl a)) M := Iff.trans (zU_step dX8_undo_9 (Or.inl rfl)) ⟨fun h => h.2.2, fun h => ⟨rfl, Or.inl rfl, h⟩⟩
theorem dX8_undo_10 : decode cX8_undo 10 = .ok (.aload_n 0, 1) := by decide +kernel
theorem rX8_undo_10 {R : zP} {x1 : Option zV} {st : List zV} {M : zM} {a : Nat} : uX8_undo R 10 [some (.inr (.inr a)), x1] st M ↔ uX8_undo R 11 [some (.inr (.inr a)), x1] (.inr (.inr a) :: st) M := zU_step dX8_undo_10 (Or.inl rfl)
theorem dX8_undo_11 : decode cX8_undo 11 = .ok (.getfield 7, 3) := by decide +kernel
theorem rX8_undo_11 {R : zP} {x0 x1 : Option zV} {st : List zV} {M : zM} {r : Nat} : uX8_undo R 11 [x0, x1] (.inr (.inr r) :: st) M ↔ zgetx fX8 7 r M (fun v => uX8_undo R 14 [x0, x1] (v :: st) M) := zU_step dX8_undo_11 (Or.inl rfl)
theorem dX8_undo_14 : decode cX8_undo 14 = .ok (.iload_n 1, 1) := by decide +kernel
theorem rX8_undo_14 {R : zP} {x0 : Option zV} {st : List zV} {M : zM} {a : Int} : uX8_undo R 14 [x0, some (.inl a)] st M ↔ uX8_undo R 15 [x0, some (.inl a)] (.inl a :: st) M := zU_step dX8_undo_14 (Or.inl rfl)
theorem dX8_undo_15 : decode cX8_undo 15 = .ok (.iaload, 1) := by decide +kernel
theorem rX8_undo_15 {R : zP} {x0 x1 : Option zV} {st : List zV} {M : zM} {i : Int} {r : Nat} : uX8_undo R 15 [x0, x1] (.inl i :: .inr (.inr r) :: st) M ↔ zread fX8 0 r M i (fun v => uX8_undo R 16 [x0, x1] (.inl v :: st) M) := zU_step dX8_undo_15 (Or.inl rfl)
theorem dX8_undo_16 : decode cX8_undo 16 = .ok (.ifCond .ne 6, 3) := by decide +kernel
theorem rX8_undo_16 {R : zP} {x0 x1 : Option zV} {st : List zV} {M : zM} {a : Int} : uX8_undo R 16 [x0, x1] (.inl a :: st) M ↔ (zIR a ∧ if a ≠ 0 then uX8_undo R 22 [x0, x1] st M else uX8_undo R 19 [x0, x1] st M) := Iff.trans (zU_step dX8_undo_16 (Or.inl rfl)) ⟨fun h => ⟨h.1.1, (zite (c := a ≠ 0)).mpr h.2⟩, fun h => ⟨⟨h.1, by decide⟩, (zite (c := a ≠ 0)).mp h.2⟩⟩
theorem dX8_undo_19 : decode cX8_undo 19 = .ok (.bipush (-3), 2) := by decide +kernel
theorem rX8_undo_19 {R : zP} {x0 x1 : Option zV} {st : List zV} {M : zM} : uX8_undo R 19 [x0, x1] st M ↔ uX8_undo R 21 [x0, x1] (.inl (-3) :: st) M := Iff.trans (zU_step dX8_undo_19 (Or.inl rfl)) ⟨fun h => h.2, fun h => ⟨by decide, h⟩⟩
theorem dX8_undo_21 : decode cX8_undo 21 = .ok (.ireturn, 1) := by decide +kernel
theorem rX8_undo_21 {R : zP} {x0 x1 : Option zV} {M : zM} {a : Int} : uX8_undo R 21 [x0, x1] [.inl a] M ↔ R (some (.inl a)) M := Iff.trans (zU_step dX8_undo_21 (Or.inl rfl)) ⟨fun h => h.2.2, fun h => ⟨rfl, Or.inl rfl, h⟩⟩
theorem dX8_undo_22 : decode cX8_undo 22 = .ok (.aload_n 0, 1) := by decide +kernel
theorem rX8_undo_22 {R : zP} {x1 : Option zV} {st : List zV} {M : zM} {a : Nat} : uX8_undo R 22 [some (.inr (.inr a)), x1] st M ↔ uX8_undo R 23 [some (.inr (.inr a)), x1] (.inr (.inr a) :: st) M := zU_step dX8_undo_22 (Or.inl rfl)
theorem dX8_undo_23 : decode cX8_undo 23 = .ok (.getfield 7, 3) := by decide +kernel
theorem rX8_undo_23 {R : zP} {x0 x1 : Option zV} {st : List zV} {M : zM} {r : Nat} : uX8_undo R 23 [x0, x1] (.inr (.inr r) :: st) M ↔ zgetx fX8 7 r M (fun v => uX8_undo R 26 [x0, x1] (v :: st) M) := zU_step dX8_undo_23 (Or.inl rfl)
theorem dX8_undo_26 : decode cX8_undo 26 = .ok (.iload_n 1, 1) := by decide +kernel
theorem rX8_undo_26 {R : zP} {x0 : Option zV} {st : List zV} {M : zM} {a : Int} : uX8_undo R 26 [x0, some (.inl a)] st M ↔ uX8_undo R 27 [x0, some (.inl a)] (.inl a :: st) M := zU_step dX8_undo_26 (Or.inl rfl)
theorem dX8_undo_27 : decode cX8_undo 27 = .ok (.dup2, 1) := by decide +kernel
theorem rX8_undo_27 {R : zP} {x0 x1 : Option zV} {st : List zV} {M : zM} {a : Int} {b : Nat} : uX8_undo R 27 [x0, x1] (.inl a :: .inr (.inr b) :: st) M ↔ uX8_undo R 28 [x0, x1] (.inl a :: .inr (.inr b) :: .inl a :: .inr (.inr b) :: st) M := zU_step dX8_undo_27 (Or.inl rfl)
theorem dX8_undo_28 : decode cX8_undo 28 = .ok (.iaload, 1) := by decide +kernel
theorem rX8_undo_28 {R : zP} {x0 x1 : Option zV} {st : List zV} {M : zM} {i : Int} {r : Nat} : uX8_undo R 28 [x0, x1] (.inl i :: .inr (.inr r) :: st) M ↔ zread fX8 0 r M i (fun v => uX8_undo R 29 [x0, x1] (.inl v :: st) M) := zU_step dX8_undo_28 (Or.inl rfl)
theorem dX8_undo_29 : decode cX8_undo 29 = .ok (.iconst 1, 1) := by decide +kernel
theorem rX8_undo_29 {R : zP} {x0 x1 : Option zV} {st : List zV} {M : zM} : uX8_undo R 29 [x0, x1] st M ↔ uX8_undo R 30 [x0, x1] (.inl (1) :: st) M := zU_step dX8_undo_29 (Or.inl rfl)
theorem dX8_undo_30 : decode cX8_undo 30 = .ok (.isub, 1) := by decide +kernel
theorem rX8_undo_30 {R : zP} {x0 x1 : Option zV} {st : List zV} {M : zM} {a b : Int} : uX8_undo R 30 [x0, x1] (.inl b :: .inl a :: st) M ↔ uX8_undo R 31 [x0, x1] (.inl (a - b) :: st) M := zU_step dX8_undo_30 (Or.inl rfl)
theorem dX8_undo_31 : decode cX8_undo 31 = .ok (.iastore, 1) := by decide +kernel
theorem rX8_undo_31 {R : zP} {x0 x1 : Option zV} {st : List zV} {M : zM} {i v : Int} {r : Nat} : uX8_undo R 31 [x0, x1] (.inl v :: .inl i :: .inr (.inr r) :: st) M ↔ zwrite 0 r i (uX8_undo R 32 [x0, x1] st (zup M r i v)) := zU_step dX8_undo_31 (Or.inl rfl)
theorem dX8_undo_32 : decode cX8_undo 32 = .ok (.aload_n 0, 1) := by decide +kernel
theorem rX8_undo_32 {R : zP} {x1 : Option zV} {st : List zV} {M : zM} {a : Nat} : uX8_undo R 32 [some (.inr (.inr a)), x1] st M ↔ uX8_undo R 33 [some (.inr (.inr a)), x1] (.inr (.inr a) :: st) M := zU_step dX8_undo_32 (Or.inl rfl)
theorem dX8_undo_33 : decode cX8_undo 33 = .ok (.getfield 7, 3) := by decide +kernel
theorem rX8_undo_33 {R : zP} {x0 x1 : Option zV} {st : List zV} {M : zM} {r : Nat} : uX8_undo R 33 [x0, x1] (.inr (.inr r) :: st) M ↔ zgetx fX8 7 r M (fun v => uX8_undo R 36 [x0, x1] (v :: st) M) := zU_step dX8_undo_33 (Or.inl rfl)
theorem dX8_undo_36 : decode cX8_undo 36 = .ok (.iload_n 1, 1) := by decide +kernel
theorem rX8_undo_36 {R : zP} {x0 : Option zV} {st : List zV} {M : zM} {a : Int} : uX8_undo R 36 [x0, some (.inl a)] st M ↔ uX8_undo R 37 [x0, some (.inl a)] (.inl a :: st) M := zU_step dX8_undo_36 (Or.inl rfl)
theorem dX8_undo_37 : decode cX8_undo 37 = .ok (.iaload, 1) := by decide +kernel
theorem rX8_undo_37 {R : zP} {x0 x1 : Option zV} {st : List zV} {M : zM} {i : Int} {r : Nat} : uX8_undo R 37 [x0, x1] (.inl i :: .inr (.inr r) :: st) M ↔ zread fX8 0 r M i (fun v => uX8_undo R 38 [x0, x1] (.inl v :: st) M) := zU_step dX8_undo_37 (Or.inl rfl)
theorem dX8_undo_38 : decode cX8_undo 38 = .ok (.ireturn, 1) := by decide +kernel
theorem rX8_undo_38 {R : zP} {x0 x1 : Option zV} {M : zM} {a : Int} : uX8_undo R 38 [x0, x1] [.inl a] M ↔ R (some (.inl a)) M := Iff.trans (zU_step dX8_undo_38 (Or.inl rfl)) ⟨fun h => h.2.2, fun h => ⟨rfl, Or.inl rfl, h⟩⟩
theorem eX8_undo {R : zP} {M : zM} {a0 : Nat} {p0 : Int} : tX8_undo [.inr (.inr a0), .inl p0] M R ↔ uX8_undo R 0 [some (.inr (.inr a0)), some (.inl p0)] [] M := ⟨fun h => h.2, fun h => ⟨show 2 ≤ 2 by decide, h⟩⟩
def uX8_byteAt (R : zP) : zK := zU fX8 vX8_byteAt cX8_byteAt R
theorem dX8_byteAt_0 : decode cX8_byteAt 0 = .ok (.iload_n 2, 1) := by decide +kernel
theorem rX8_byteAt_0 {R : zP} {x0 x1 : Option zV} {st : List zV} {M : zM} {a : Int} : uX8_byteAt R 0 [x0, x1, some (.inl a)] st M ↔ uX8_byteAt R 1 [x0, x1, some (.inl a)] (.inl a :: st) M := zU_step dX8_byteAt_0 (Or.inl rfl)
theorem dX8_byteAt_1 : decode cX8_byteAt 1 = .ok (.aload_n 0, 1) := by decide +kernel
theorem rX8_byteAt_1 {R : zP} {x1 x2 : Option zV} {st : List zV} {M : zM} {a : Nat} : uX8_byteAt R 1 [some (.inr (.inr a)), x1, x2] st M ↔ uX8_byteAt R 2 [some (.inr (.inr a)), x1, x2] (.inr (.inr a) :: st) M := zU_step dX8_byteAt_1 (Or.inl rfl)
theorem dX8_byteAt_2 : decode cX8_byteAt 2 = .ok (.getfield 7, 3) := by decide +kernel
theorem rX8_byteAt_2 {R : zP} {x0 x1 x2 : Option zV} {st : List zV} {M : zM} {r : Nat} : uX8_byteAt R 2 [x0, x1, x2] (.inr (.inr r) :: st) M ↔ zgetx fX8 7 r M (fun v => uX8_byteAt R 5 [x0, x1, x2] (v :: st) M) := zU_step dX8_byteAt_2 (Or.inl rfl)
theorem dX8_byteAt_5 : decode cX8_byteAt 5 = .ok (.iload_n 1, 1) := by decide +kernel
theorem rX8_byteAt_5 {R : zP} {x0 x2 : Option zV} {st : List zV} {M : zM} {a : Int} : uX8_byteAt R 5 [x0, some (.inl a), x2] st M ↔ uX8_byteAt R 6 [x0, some (.inl a), x2] (.inl a :: st) M := zU_step dX8_byteAt_5 (Or.inl rfl)
theorem dX8_byteAt_6 : decode cX8_byteAt 6 = .ok (.iaload, 1) := by decide +kernel
theorem rX8_byteAt_6 {R : zP} {x0 x1 x2 : Option zV} {st : List zV} {M : zM} {i : Int} {r : Nat} : uX8_byteAt R 6 [x0, x1, x2] (.inl i :: .inr (.inr r) :: st) M ↔ zread fX8 0 r M i (fun v => uX8_byteAt R 7 [x0, x1, x2] (.inl v :: st) M) := zU_step dX8_byteAt_6 (Or.inl rfl)
theorem dX8_byteAt_7 : decode cX8_byteAt 7 = .ok (.if_icmp .ge 17, 3) := by decide +kernel
theorem rX8_byteAt_7 {R : zP} {x0 x1 x2 : Option zV} {st : List zV} {M : zM} {a b : Int} : uX8_byteAt R 7 [x0, x1, x2] (.inl b :: .inl a :: st) M ↔ ((zIR a ∧ zIR b) ∧ if b ≤ a then uX8_byteAt R 24 [x0, x1, x2] st M else uX8_byteAt R 10 [x0, x1, x2] st M) := Iff.trans (zU_step dX8_byteAt_7 (Or.inl rfl)) ⟨fun h => ⟨⟨h.1.1, h.1.2.1⟩, (zite (c := b ≤ a)).mpr h.2⟩, fun h => ⟨⟨h.1.1, h.1.2, by decide⟩, (zite (c := b ≤ a)).mp h.2⟩⟩
theorem dX8_byteAt_10 : decode cX8_byteAt 10 = .ok (.aload_n 0, 1) := by decide +kernel
theorem rX8_byteAt_10 {R : zP} {x1 x2 : Option zV} {st : List zV} {M : zM} {a : Nat} : uX8_byteAt R 10 [some (.inr (.inr a)), x1, x2] st M ↔ uX8_byteAt R 11 [some (.inr (.inr a)), x1, x2] (.inr (.inr a) :: st) M := zU_step dX8_byteAt_10 (Or.inl rfl)
theorem dX8_byteAt_11 : decode cX8_byteAt 11 = .ok (.getfield 13, 3) := by decide +kernel
theorem rX8_byteAt_11 {R : zP} {x0 x1 x2 : Option zV} {st : List zV} {M : zM} {r : Nat} : uX8_byteAt R 11 [x0, x1, x2] (.inr (.inr r) :: st) M ↔ zgetx fX8 13 r M (fun v => uX8_byteAt R 14 [x0, x1, x2] (v :: st) M) := zU_step dX8_byteAt_11 (Or.inl rfl)
theorem dX8_byteAt_14 : decode cX8_byteAt 14 = .ok (.bipush 47, 2) := by decide +kernel
theorem rX8_byteAt_14 {R : zP} {x0 x1 x2 : Option zV} {st : List zV} {M : zM} : uX8_byteAt R 14 [x0, x1, x2] st M ↔ uX8_byteAt R 16 [x0, x1, x2] (.inl (47) :: st) M := Iff.trans (zU_step dX8_byteAt_14 (Or.inl rfl)) ⟨fun h => h.2, fun h => ⟨by decide, h⟩⟩
theorem dX8_byteAt_16 : decode cX8_byteAt 16 = .ok (.iload_n 1, 1) := by decide +kernel
theorem rX8_byteAt_16 {R : zP} {x0 x2 : Option zV} {st : List zV} {M : zM} {a : Int} : uX8_byteAt R 16 [x0, some (.inl a), x2] st M ↔ uX8_byteAt R 17 [x0, some (.inl a), x2] (.inl a :: st) M := zU_step dX8_byteAt_16 (Or.inl rfl)
theorem dX8_byteAt_17 : decode cX8_byteAt 17 = .ok (.imul, 1) := by decide +kernel
theorem rX8_byteAt_17 {R : zP} {x0 x1 x2 : Option zV} {st : List zV} {M : zM} {a b : Int} : uX8_byteAt R 17 [x0, x1, x2] (.inl b :: .inl a :: st) M ↔ uX8_byteAt R 18 [x0, x1, x2] (.inl (a * b) :: st) M := zU_step dX8_byteAt_17 (Or.inl rfl)
theorem dX8_byteAt_18 : decode cX8_byteAt 18 = .ok (.iload_n 2, 1) := by decide +kernel
theorem rX8_byteAt_18 {R : zP} {x0 x1 : Option zV} {st : List zV} {M : zM} {a : Int} : uX8_byteAt R 18 [x0, x1, some (.inl a)] st M ↔ uX8_byteAt R 19 [x0, x1, some (.inl a)] (.inl a :: st) M := zU_step dX8_byteAt_18 (Or.inl rfl)
theorem dX8_byteAt_19 : decode cX8_byteAt 19 = .ok (.iadd, 1) := by decide +kernel
theorem rX8_byteAt_19 {R : zP} {x0 x1 x2 : Option zV} {st : List zV} {M : zM} {a b : Int} : uX8_byteAt R 19 [x0, x1, x2] (.inl b :: .inl a :: st) M ↔ uX8_byteAt R 20 [x0, x1, x2] (.inl (a + b) :: st) M := zU_step dX8_byteAt_19 (Or.inl rfl)
theorem dX8_byteAt_20 : decode cX8_byteAt 20 = .ok (.iaload, 1) := by decide +kernel
theorem rX8_byteAt_20 {R : zP} {x0 x1 x2 : Option zV} {st : List zV} {M : zM} {i : Int} {r : Nat} : uX8_byteAt R 20 [x0, x1, x2] (.inl i :: .inr (.inr r) :: st) M ↔ zread fX8 0 r M i (fun v => uX8_byteAt R 21 [x0, x1, x2] (.inl v :: st) M) := zU_step dX8_byteAt_20 (Or.inl rfl)
theorem dX8_byteAt_21 : decode cX8_byteAt 21 = .ok (.goto 4, 3) := by decide +kernel
theorem rX8_byteAt_21 {R : zP} {x0 x1 x2 : Option zV} {st : List zV} {M : zM} : uX8_byteAt R 21 [x0, x1, x2] st M ↔ uX8_byteAt R 25 [x0, x1, x2] st M := Iff.trans (zU_step dX8_byteAt_21 (Or.inl rfl)) ⟨fun h => h.2, fun h => ⟨by decide, h⟩⟩
theorem dX8_byteAt_24 : decode cX8_byteAt 24 = .ok (.iconst (-1), 1) := by decide +kernel
theorem rX8_byteAt_24 {R : zP} {x0 x1 x2 : Option zV} {st : List zV} {M : zM} : uX8_byteAt R 24 [x0, x1, x2] st M ↔ uX8_byteAt R 25 [x0, x1, x2] (.inl (-1) :: st) M := zU_step dX8_byteAt_24 (Or.inl rfl)
theorem dX8_byteAt_25 : decode cX8_byteAt 25 = .ok (.ireturn, 1) := by decide +kernel
theorem rX8_byteAt_25 {R : zP} {x0 x1 x2 : Option zV} {M : zM} {a : Int} : uX8_byteAt R 25 [x0, x1, x2] [.inl a] M ↔ R (some (.inl a)) M := Iff.trans (zU_step dX8_byteAt_25 (Or.inl rfl)) ⟨fun h => h.2.2, fun h => ⟨rfl, Or.inl rfl, h⟩⟩
theorem eX8_byteAt {R : zP} {M : zM} {a0 : Nat} {p0 : Int} {p1 : Int} : tX8_byteAt [.inr (.inr a0), .inl p0, .inl p1] M R ↔ uX8_byteAt R 0 [some (.inr (.inr a0)), some (.inl p0), some (.inl p1)] [] M := ⟨fun h => h.2, fun h => ⟨show 3 ≤ 3 by decide, h⟩⟩
def uX8_kindOf (R : zP) : zK := zU fX8 vX8_kindOf cX8_kindOf R
theorem dX8_kindOf_0 : decode cX8_kindOf 0 = .ok (.iload_n 1, 1) := by decide +kernel
theorem rX8_kindOf_0 {R : zP} {x0 x2 : Option zV} {st : List zV} {M : zM} {a : Int} : uX8_kindOf R 0 [x0, some (.inl a), x2] st M ↔ uX8_kindOf R 1 [x0, some (.inl a), x2] (.inl a :: st) M := zU_step dX8_kindOf_0 (Or.inl rfl)
theorem dX8_kindOf_1 : decode cX8_kindOf 1 = .ok (.ifCond .ne 35, 3) := by decide +kernel
theorem rX8_kindOf_1 {R : zP} {x0 x1 x2 : Option zV} {st : List zV} {M : zM} {a : Int} : uX8_kindOf R 1 [x0, x1, x2] (.inl a :: st) M ↔ (zIR a ∧ if a ≠ 0 then uX8_kindOf R 36 [x0, x1, x2] st M else uX8_kindOf R 4 [x0, x1, x2] st M) := Iff.trans (zU_step dX8_kindOf_1 (Or.inl rfl)) ⟨fun h => ⟨h.1.1, (zite (c := a ≠ 0)).mpr h.2⟩, fun h => ⟨⟨h.1, by decide⟩, (zite (c := a ≠ 0)).mp h.2⟩⟩
theorem dX8_kindOf_4 : decode cX8_kindOf 4 = .ok (.iload_n 2, 1) := by decide +kernel
theorem rX8_kindOf_4 {R : zP} {x0 x1 : Option zV} {st : List zV} {M : zM} {a : Int} : uX8_kindOf R 4 [x0, x1, some (.inl a)] st M ↔ uX8_kindOf R 5 [x0, x1, some (.inl a)] (.inl a :: st) M := zU_step dX8_kindOf_4 (Or.inl rfl)
theorem dX8_kindOf_5 : decode cX8_kindOf 5 = .ok (.bipush 112, 2) := by decide +kernel
theorem rX8_kindOf_5 {R : zP} {x0 x1 x2 : Option zV} {st : List zV} {M : zM} : uX8_kindOf R 5 [x0, x1, x2] st M ↔ uX8_kindOf R 7 [x0, x1, x2] (.inl (112) :: st) M := Iff.trans (zU_step dX8_kindOf_5 (Or.inl rfl)) ⟨fun h => h.2, fun h => ⟨by decide, h⟩⟩
theorem dX8_kindOf_7 : decode cX8_kindOf 7 = .ok (.if_icmp .ne 7, 3) := by decide +kernel
theorem rX8_kindOf_7 {R : zP} {x0 x1 x2 : Option zV} {st : List zV} {M : zM} {a b : Int} : uX8_kindOf R 7 [x0, x1, x2] (.inl b :: .inl a :: st) M ↔ ((zIR a ∧ zIR b) ∧ if a ≠ b then uX8_kindOf R 14 [x0, x1, x2] st M else uX8_kindOf R 10 [x0, x1, x2] st M) := Iff.trans (zU_step dX8_kindOf_7 (Or.inl rfl)) ⟨fun h => ⟨⟨h.1.1, h.1.2.1⟩, (zite (c := a ≠ b)).mpr h.2⟩, fun h => ⟨⟨h.1.1, h.1.2, by decide⟩, (zite (c := a ≠ b)).mp h.2⟩⟩
theorem dX8_kindOf_10 : decode cX8_kindOf 10 = .ok (.iconst 0, 1) := by decide +kernel
theorem rX8_kindOf_10 {R : zP} {x0 x1 x2 : Option zV} {st : List zV} {M : zM} : uX8_kindOf R 10 [x0, x1, x2] st M ↔ uX8_kindOf R 11 [x0, x1, x2] (.inl (0) :: st) M := zU_step dX8_kindOf_10 (Or.inl rfl)
theorem dX8_kindOf_11 : decode cX8_kindOf 11 = .ok (.goto 24, 3) := by decide +kernel
theorem rX8_kindOf_11 {R : zP} {x0 x1 x2 : Option zV} {st : List zV} {M : zM} : uX8_kindOf R 11 [x0, x1, x2] st M ↔ uX8_kindOf R 35 [x0, x1, x2] st M := Iff.trans (zU_step dX8_kindOf_11 (Or.inl rfl)) ⟨fun h => h.2, fun h => ⟨by decide, h⟩⟩
theorem dX8_kindOf_14 : decode cX8_kindOf 14 = .ok (.iload_n 2, 1) := by decide +kernel
theorem rX8_kindOf_14 {R : zP} {x0 x1 : Option zV} {st : List zV} {M : zM} {a : Int} : uX8_kindOf R 14 [x0, x1, some (.inl a)] st M ↔ uX8_kindOf R 15 [x0, x1, some (.inl a)] (.inl a :: st) M := zU_step dX8_kindOf_14 (Or.inl rfl)
theorem dX8_kindOf_15 : decode cX8_kindOf 15 = .ok (.bipush 116, 2) := by decide +kernel
theorem rX8_kindOf_15 {R : zP} {x0 x1 x2 : Option zV} {st : List zV} {M : zM} : uX8_kindOf R 15 [x0, x1, x2] st M ↔ uX8_kindOf R 17 [x0, x1, x2] (.inl (116) :: st) M := Iff.trans (zU_step dX8_kindOf_15 (Or.inl rfl)) ⟨fun h => h.2, fun h => ⟨by decide, h⟩⟩
theorem dX8_kindOf_17 : decode cX8_kindOf 17 = .ok (.if_icmp .ne 7, 3) := by decide +kernel
theorem rX8_kindOf_17 {R : zP} {x0 x1 x2 : Option zV} {st : List zV} {M : zM} {a b : Int} : uX8_kindOf R 17 [x0, x1, x2] (.inl b :: .inl a :: st) M ↔ ((zIR a ∧ zIR b) ∧ if a ≠ b then uX8_kindOf R 24 [x0, x1, x2] st M else uX8_kindOf R 20 [x0, x1, x2] st M) := Iff.trans (zU_step dX8_kindOf_17 (Or.inl rfl)) ⟨fun h => ⟨⟨h.1.1, h.1.2.1⟩, (zite (c := a ≠ b)).mpr h.2⟩, fun h => ⟨⟨h.1.1, h.1.2, by decide⟩, (zite (c := a ≠ b)).mp h.2⟩⟩
theorem dX8_kindOf_20 : decode cX8_kindOf 20 = .ok (.iconst 1, 1) := by decide +kernel
theorem rX8_kindOf_20 {R : zP} {x0 x1 x2 : Option zV} {st : List zV} {M : zM} : uX8_kindOf R 20 [x0, x1, x2] st M ↔ uX8_kindOf R 21 [x0, x1, x2] (.inl (1) :: st) M := zU_step dX8_kindOf_20 (Or.inl rfl)
theorem dX8_kindOf_21 : decode cX8_kindOf 21 = .ok (.goto 14, 3) := by decide +kernel
theorem rX8_kindOf_21 {R : zP} {x0 x1 x2 : Option zV} {st : List zV} {M : zM} : uX8_kindOf R 21 [x0, x1, x2] st M ↔ uX8_kindOf R 35 [x0, x1, x2] st M := Iff.trans (zU_step dX8_kindOf_21 (Or.inl rfl)) ⟨fun h => h.2, fun h => ⟨by decide, h⟩⟩
theorem dX8_kindOf_24 : decode cX8_kindOf 24 = .ok (.iload_n 2, 1) := by decide +kernel
theorem rX8_kindOf_24 {R : zP} {x0 x1 : Option zV} {st : List zV} {M : zM} {a : Int} : uX8_kindOf R 24 [x0, x1, some (.inl a)] st M ↔ uX8_kindOf R 25 [x0, x1, some (.inl a)] (.inl a :: st) M := zU_step dX8_kindOf_24 (Or.inl rfl)
theorem dX8_kindOf_25 : decode cX8_kindOf 25 = .ok (.bipush 105, 2) := by decide +kernel
theorem rX8_kindOf_25 {R : zP} {x0 x1 x2 : Option zV} {st : List zV} {M : zM} : uX8_kindOf R 25 [x0, x1, x2] st M ↔ uX8_kindOf R 27 [x0, x1, x2] (.inl (105) :: st) M := Iff.trans (zU_step dX8_kindOf_25 (Or.inl rfl)) ⟨fun h => h.2, fun h => ⟨by decide, h⟩⟩
theorem dX8_kindOf_27 : decode cX8_kindOf 27 = .ok (.if_icmp .ne 7, 3) := by decide +kernel
theorem rX8_kindOf_27 {R : zP} {x0 x1 x2 : Option zV} {st : List zV} {M : zM} {a b : Int} : uX8_kindOf R 27 [x0, x1, x2] (.inl b :: .inl a :: st) M ↔ ((zIR a ∧ zIR b) ∧ if a ≠ b then uX8_kindOf R 34 [x0, x1, x2] st M else uX8_kindOf R 30 [x0, x1, x2] st M) := Iff.trans (zU_step dX8_kindOf_27 (Or.inl rfl)) ⟨fun h => ⟨⟨h.1.1, h.1.2.1⟩, (zite (c := a ≠ b)).mpr h.2⟩, fun h => ⟨⟨h.1.1, h.1.2, by decide⟩, (zite (c := a ≠ b)).mp h.2⟩⟩
theorem dX8_kindOf_30 : decode cX8_kindOf 30 = .ok (.iconst 2, 1) := by decide +kernel
theorem rX8_kindOf_30 {R : zP} {x0 x1 x2 : Option zV} {st : List zV} {M : zM} : uX8_kindOf R 30 [x0, x1, x2] st M ↔ uX8_kindOf R 31 [x0, x1, x2] (.inl (2) :: st) M := zU_step dX8_kindOf_30 (Or.inl rfl)
theorem dX8_kindOf_31 : decode cX8_kindOf 31 = .ok (.goto 4, 3) := by decide +kernel
theorem rX8_kindOf_31 {R : zP} {x0 x1 x2 : Option zV} {st : List zV} {M : zM} : uX8_kindOf R 31 [x0, x1, x2] st M ↔ uX8_kindOf R 35 [x0, x1, x2] st M := Iff.trans (zU_step dX8_kindOf_31 (Or.inl rfl)) ⟨fun h => h.2, fun h => ⟨by decide, h⟩⟩
theorem dX8_kindOf_34 : decode cX8_kindOf 34 = .ok (.iconst (-1), 1) := by decide +kernel
theorem rX8_kindOf_34 {R : zP} {x0 x1 x2 : Option zV} {st : List zV} {M : zM} : uX8_kindOf R 34 [x0, x1, x2] st M ↔ uX8_kindOf R 35 [x0, x1, x2] (.inl (-1) :: st) M := zU_step dX8_kindOf_34 (Or.inl rfl)
theorem dX8_kindOf_35 : decode cX8_kindOf 35 = .ok (.ireturn, 1) := by decide +kernel
theorem rX8_kindOf_35 {R : zP} {x0 x1 x2 : Option zV} {M : zM} {a : Int} : uX8_kindOf R 35 [x0, x1, x2] [.inl a] M ↔ R (some (.inl a)) M := Iff.trans (zU_step dX8_kindOf_35 (Or.inl rfl)) ⟨fun h => h.2.2, fun h => ⟨rfl, Or.inl rfl, h⟩⟩
theorem dX8_kindOf_36 : decode cX8_kindOf 36 = .ok (.iload_n 2, 1) := by decide +kernel
theorem rX8_kindOf_36 {R : zP} {x0 x1 : Option zV} {st : List zV} {M : zM} {a : Int} : uX8_kindOf R 36 [x0, x1, some (.inl a)] st M ↔ uX8_kindOf R 37 [x0, x1, some (.inl a)] (.inl a :: st) M := zU_step dX8_kindOf_36 (Or.inl rfl)
theorem dX8_kindOf_37 : decode cX8_kindOf 37 = .ok (.bipush 119, 2) := by decide +kernel
theorem rX8_kindOf_37 {R : zP} {x0 x1 x2 : Option zV} {st : List zV} {M : zM} : uX8_kindOf R 37 [x0, x1, x2] st M ↔ uX8_kindOf R 39 [x0, x1, x2] (.inl (119) :: st) M := Iff.trans (zU_step dX8_kindOf_37 (Or.inl rfl)) ⟨fun h => h.2, fun h => ⟨by decide, h⟩⟩
theorem dX8_kindOf_39 : decode cX8_kindOf 39 = .ok (.if_icmp .ne 7, 3) := by decide +kernel
theorem rX8_kindOf_39 {R : zP} {x0 x1 x2 : Option zV} {st : List zV} {M : zM} {a b : Int} : uX8_kindOf R 39 [x0, x1, x2] (.inl b :: .inl a :: st) M ↔ ((zIR a ∧ zIR b) ∧ if a ≠ b then uX8_kindOf R 46 [x0, x1, x2] st M else uX8_kindOf R 42 [x0, x1, x2] st M) := Iff.trans (zU_step dX8_kindOf_39 (Or.inl rfl)) ⟨fun h => ⟨⟨h.1.1, h.1.2.1⟩, (zite (c := a ≠ b)).mpr h.2⟩, fun h => ⟨⟨h.1.1, h.1.2, by decide⟩, (zite (c := a ≠ b)).mp h.2⟩⟩
theorem dX8_kindOf_42 : decode cX8_kindOf 42 = .ok (.iconst 1, 1) := by decide +kernel
theorem rX8_kindOf_42 {R : zP} {x0 x1 x2 : Option zV} {st : List zV} {M : zM} : uX8_kindOf R 42 [x0, x1, x2] st M ↔ uX8_kindOf R 43 [x0, x1, x2] (.inl (1) :: st) M := zU_step dX8_kindOf_42 (Or.inl rfl)
theorem dX8_kindOf_43 : decode cX8_kindOf 43 = .ok (.goto 14, 3) := by decide +kernel
theorem rX8_kindOf_43 {R : zP} {x0 x1 x2 : Option zV} {st : List zV} {M : zM} : uX8_kindOf R 43 [x0, x1, x2] st M ↔ uX8_kindOf R 57 [x0, x1, x2] st M := Iff.trans (zU_step dX8_kindOf_43 (Or.inl rfl)) ⟨fun h => h.2, fun h => ⟨by decide, h⟩⟩
theorem dX8_kindOf_46 : decode cX8_kindOf 46 = .ok (.iload_n 2, 1) := by decide +kernel
theorem rX8_kindOf_46 {R : zP} {x0 x1 : Option zV} {st : List zV} {M : zM} {a : Int} : uX8_kindOf R 46 [x0, x1, some (.inl a)] st M ↔ uX8_kindOf R 47 [x0, x1, some (.inl a)] (.inl a :: st) M := zU_step dX8_kindOf_46 (Or.inl rfl)
theorem dX8_kindOf_47 : decode cX8_kindOf 47 = .ok (.bipush 114, 2) := by decide +kernel
theorem rX8_kindOf_47 {R : zP} {x0 x1 x2 : Option zV} {st : List zV} {M : zM} : uX8_kindOf R 47 [x0, x1, x2] st M ↔ uX8_kindOf R 49 [x0, x1, x2] (.inl (114) :: st) M := Iff.trans (zU_step dX8_kindOf_47 (Or.inl rfl)) ⟨fun h => h.2, fun h => ⟨by decide, h⟩⟩
theorem dX8_kindOf_49 : decode cX8_kindOf 49 = .ok (.if_icmp .ne 7, 3) := by decide +kernel
theorem rX8_kindOf_49 {R : zP} {x0 x1 x2 : Option zV} {st : List zV} {M : zM} {a b : Int} : uX8_kindOf R 49 [x0, x1, x2] (.inl b :: .inl a :: st) M ↔ ((zIR a ∧ zIR b) ∧ if a ≠ b then uX8_kindOf R 56 [x0, x1, x2] st M else uX8_kindOf R 52 [x0, x1, x2] st M) := Iff.trans (zU_step dX8_kindOf_49 (Or.inl rfl)) ⟨fun h => ⟨⟨h.1.1, h.1.2.1⟩, (zite (c := a ≠ b)).mpr h.2⟩, fun h => ⟨⟨h.1.1, h.1.2, by decide⟩, (zite (c := a ≠ b)).mp h.2⟩⟩
theorem dX8_kindOf_52 : decode cX8_kindOf 52 = .ok (.iconst 0, 1) := by decide +kernel
theorem rX8_kindOf_52 {R : zP} {x0 x1 x2 : Option zV} {st : List zV} {M : zM} : uX8_kindOf R 52 [x0, x1, x2] st M ↔ uX8_kindOf R 53 [x0, x1, x2] (.inl (0) :: st) M := zU_step dX8_kindOf_52 (Or.inl rfl)
theorem dX8_kindOf_53 : decode cX8_kindOf 53 = .ok (.goto 4, 3) := by decide +kernel
theorem rX8_kindOf_53 {R : zP} {x0 x1 x2 : Option zV} {st : List zV} {M : zM} : uX8_kindOf R 53 [x0, x1, x2] st M ↔ uX8_kindOf R 57 [x0, x1, x2] st M := Iff.trans (zU_step dX8_kindOf_53 (Or.inl rfl)) ⟨fun h => h.2, fun h => ⟨by decide, h⟩⟩
theorem dX8_kindOf_56 : decode cX8_kindOf 56 = .ok (.iconst (-1), 1) := by decide +kernel
theorem rX8_kindOf_56 {R : zP} {x0 x1 x2 : Option zV} {st : List zV} {M : zM} : uX8_kindOf R 56 [x0, x1, x2] st M ↔ uX8_kindOf R 57 [x0, x1, x2] (.inl (-1) :: st) M := zU_step dX8_kindOf_56 (Or.inl rfl)
theorem dX8_kindOf_57 : decode cX8_kindOf 57 = .ok (.ireturn, 1) := by decide +kernel
theorem rX8_kindOf_57 {R : zP} {x0 x1 x2 : Option zV} {M : zM} {a : Int} : uX8_kindOf R 57 [x0, x1, x2] [.inl a] M ↔ R (some (.inl a)) M := Iff.trans (zU_step dX8_kindOf_57 (Or.inl rfl)) ⟨fun h => h.2.2, fun h => ⟨rfl, Or.inl rfl, h⟩⟩
theorem eX8_kindOf {R : zP} {M : zM} {a0 : Nat} {p0 : Int} {p1 : Int} : tX8_kindOf [.inr (.inr a0), .inl p0, .inl p1] M R ↔ uX8_kindOf R 0 [some (.inr (.inr a0)), some (.inl p0), some (.inl p1)] [] M := ⟨fun h => h.2, fun h => ⟨show 3 ≤ 3 by decide, h⟩⟩
def uX8_readsOne (R : zP) : zK := zU fX8 vX8_readsOne cX8_readsOne R
theorem dX8_readsOne_0 : decode cX8_readsOne 0 = .ok (.aload_n 0, 1) := by decide +kernel
theorem rX8_readsOne_0 {R : zP} {x1 x2 x3 x4 x5 x6 x7 : Option zV} {st : List zV} {M : zM} {a : Nat} : uX8_readsOne R 0 [some (.inr (.inr a)), x1, x2, x3, x4, x5, x6, x7] st M ↔ uX8_readsOne R 1 [some (.inr (.inr a)), x1, x2, x3, x4, x5, x6, x7] (.inr (.inr a) :: st) M := zU_step dX8_readsOne_0 (Or.inl rfl)
theorem dX8_readsOne_1 : decode cX8_readsOne 1 = .ok (.iload_n 1, 1) := by decide +kernel
theorem rX8_readsOne_1 {R : zP} {x0 x2 x3 x4 x5 x6 x7 : Option zV} {st : List zV} {M : zM} {a : Int} : uX8_readsOne R 1 [x0, some (.inl a), x2, x3, x4, x5, x6, x7] st M ↔ uX8_readsOne R 2 [x0, some (.inl a), x2, x3, x4, x5, x6, x7] (.inl a :: st) M := zU_step dX8_readsOne_1 (Or.inl rfl)
theorem dX8_readsOne_2 : decode cX8_readsOne 2 = .ok (.aload_n 0, 1) := by decide +kernel
theorem rX8_readsOne_2 {R : zP} {x1 x2 x3 x4 x5 x6 x7 : Option zV} {st : List zV} {M : zM} {a : Nat} : uX8_readsOne R 2 [some (.inr (.inr a)), x1, x2, x3, x4, x5, x6, x7] st M ↔ uX8_readsOne R 3 [some (.inr (.inr a)), x1, x2, x3, x4, x5, x6, x7] (.inr (.inr a) :: st) M := zU_step dX8_readsOne_2 (Or.inl rfl)
theorem dX8_readsOne_3 : decode cX8_readsOne 3 = .ok (.iload_n 1, 1) := by decide +kernel
theorem rX8_readsOne_3 {R : zP} {x0 x2 x3 x4 x5 x6 x7 : Option zV} {st : List zV} {M : zM} {a : Int} : uX8_readsOne R 3 [x0, some (.inl a), x2, x3, x4, x5, x6, x7] st M ↔ uX8_readsOne R 4 [x0, some (.inl a), x2, x3, x4, x5, x6, x7] (.inl a :: st) M := zU_step dX8_readsOne_3 (Or.inl rfl)
theorem dX8_readsOne_4 : decode cX8_readsOne 4 = .ok (.iload_n 3, 1) := by decide +kernel
theorem rX8_readsOne_4 {R : zP} {x0 x1 x2 x4 x5 x6 x7 : Option zV} {st : List zV} {M : zM} {a : Int} : uX8_readsOne R 4 [x0, x1, x2, some (.inl a), x4, x5, x6, x7] st M ↔ uX8_readsOne R 5 [x0, x1, x2, some (.inl a), x4, x5, x6, x7] (.inl a :: st) M := zU_step dX8_readsOne_4 (Or.inl rfl)
theorem dX8_readsOne_5 : decode cX8_readsOne 5 = .ok (.invokevirtual 120, 3) := by decide +kernel
theorem rX8_readsOne_5 {R : zP} {x0 x1 x2 x3 x4 x5 x6 x7 : Option zV} {st : List zV} {M : zM} {a0 a1 a2 : zV} : uX8_readsOne R 5 [x0, x1, x2, x3, x4, x5, x6, x7] (a2 :: a1 :: a0 :: st) M ↔ (st.length ≤ 4 ∧ zcv (zv 8 tX8_byteAt) [a0, a1, a2] M (fun v M => uX8_readsOne R 8 [x0, x1, x2, x3, x4, x5, x6, x7] (v :: st) M)) := Iff.trans (zU_step dX8_readsOne_5 (Or.inl rfl)) ⟨fun h => ⟨h.2.1, zcv_of h.2.2⟩, fun h => ⟨rfl, h.1, zcv_to h.2⟩⟩
theorem dX8_readsOne_8 : decode cX8_readsOne 8 = .ok (.invokevirtual 124, 3) := by decide +kernel
theorem rX8_readsOne_8 {R : zP} {x0 x1 x2 x3 x4 x5 x6 x7 : Option zV} {st : List zV} {M : zM} {a0 a1 a2 : zV} : uX8_readsOne R 8 [x0, x1, x2, x3, x4, x5, x6, x7] (a2 :: a1 :: a0 :: st) M ↔ (st.length ≤ 4 ∧ zcv (zv 8 tX8_kindOf) [a0, a1, a2] M (fun v M => uX8_readsOne R 11 [x0, x1, x2, x3, x4, x5, x6, x7] (v :: st) M)) := Iff.trans (zU_step dX8_readsOne_8 (Or.inl rfl)) ⟨fun h => ⟨h.2.1, zcv_of h.2.2⟩, fun h => ⟨rfl, h.1, zcv_to h.2⟩⟩
theorem dX8_readsOne_11 : decode cX8_readsOne 11 = .ok (.istore 4, 2) := by decide +kernel
theorem rX8_readsOne_11 {R : zP} {x0 x1 x2 x4 x5 x6 x7 : Option zV} {st : List zV} {M : zM} {a : Int} {y : Int} : uX8_readsOne R 11 [x0, x1, x2, some (.inl y), x4, x5, x6, x7] (.inl a :: st) M ↔ uX8_readsOne R 13 [x0, x1, x2, some (.inl y), some (.inl a), x5, x6, x7] st M := Iff.trans (zU_step dX8_readsOne_11 (Or.inl rfl)) ⟨fun h => h.2, fun h => ⟨show 4 < 8 by decide, h⟩⟩
theorem rX8_readsOne_11z {R : zP} {x0 x1 x2 x3 x4 x5 x6 x7 : Option zV} {st : List zV} {M : zM} {a : Int} : uX8_readsOne R 11 [x0, x1, x2, x3, x4, x5, x6, x7] (.inl a :: st) M ↔ uX8_readsOne R 13 [x0, x1, x2, zkeep x3, some (.inl a), x5, x6, x7] st M := Iff.trans (zU_step dX8_readsOne_11 (Or.inl rfl)) ⟨fun h => h.2, fun h => ⟨show 4 < 8 by decide, h⟩⟩
theorem dX8_readsOne_13 : decode cX8_readsOne 13 = .ok (.iload_n 2, 1) := by decide +kernel
theorem rX8_readsOne_13 {R : zP} {x0 x1 x3 x4 x5 x6 x7 : Option zV} {st : List zV} {M : zM} {a : Int} : uX8_readsOne R 13 [x0, x1, some (.inl a), x3, x4, x5, x6, x7] st M ↔ uX8_readsOne R 14 [x0, x1, some (.inl a), x3, x4, x5, x6, x7] (.inl a :: st) M := zU_step dX8_readsOne_13 (Or.inl rfl)
theorem dX8_readsOne_14 : decode cX8_readsOne 14 = .ok (.bipush 8, 2) := by decide +kernel
theorem rX8_readsOne_14 {R : zP} {x0 x1 x2 x3 x4 x5 x6 x7 : Option zV} {st : List zV} {M : zM} : uX8_readsOne R 14 [x0, x1, x2, x3, x4, x5, x6, x7] st M ↔ uX8_readsOne R 16 [x0, x1, x2, x3, x4, x5, x6, x7] (.inl (8) :: st) M := Iff.trans (zU_step dX8_readsOne_14 (Or.inl rfl)) ⟨fun h => h.2, fun h => ⟨by decide, h⟩⟩
theorem dX8_readsOne_16 : decode cX8_readsOne 16 = .ok (.if_icmp .eq 9, 3) := by decide +kernel
theorem rX8_readsOne_16 {R : zP} {x0 x1 x2 x3 x4 x5 x6 x7 : Option zV} {st : List zV} {M : zM} {a b : Int} : uX8_readsOne R 16 [x0, x1, x2, x3, x4, x5, x6, x7] (.inl b :: .inl a :: st) M ↔ ((zIR a ∧ zIR b) ∧ if a = b then uX8_readsOne R 25 [x0, x1, x2, x3, x4, x5, x6, x7] st M else uX8_readsOne R 19 [x0, x1, x2, x3, x4, x5, x6, x7] st M) := Iff.trans (zU_step dX8_readsOne_16 (Or.inl rfl)) ⟨fun h => ⟨⟨h.1.1, h.1.2.1⟩, (zite (c := a = b)).mpr h.2⟩, fun h => ⟨⟨h.1.1, h.1.2, by decide⟩, (zite (c := a = b)).mp h.2⟩⟩
theorem dX8_readsOne_19 : decode cX8_readsOne 19 = .ok (.iload 4, 2) := by decide +kernel
theorem rX8_readsOne_19 {R : zP} {x0 x1 x2 x3 x5 x6 x7 : Option zV} {st : List zV} {M : zM} {a : Int} : uX8_readsOne R 19 [x0, x1, x2, x3, some (.inl a), x5, x6, x7] st M ↔ uX8_readsOne R 21 [x0, x1, x2, x3, some (.inl a), x5, x6, x7] (.inl a :: st) M := zU_step dX8_readsOne_19 (Or.inl rfl)
theorem dX8_readsOne_21 : decode cX8_readsOne 21 = .ok (.iconst (-1), 1) := by decide +kernel
theorem rX8_readsOne_21 {R : zP} {x0 x1 x2 x3 x4 x5 x6 x7 : Option zV} {st : List zV} {M : zM} : uX8_readsOne R 21 [x0, x1, x2, x3, x4, x5, x6, x7] st M ↔ uX8_readsOne R 22 [x0, x1, x2, x3, x4, x5, x6, x7] (.inl (-1) :: st) M := zU_step dX8_readsOne_21 (Or.inl rfl)
theorem dX8_readsOne_22 : decode cX8_readsOne 22 = .ok (.if_icmp .ne 7, 3) := by decide +kernel
theorem rX8_readsOne_22 {R : zP} {x0 x1 x2 x3 x4 x5 x6 x7 : Option zV} {st : List zV} {M : zM} {a b : Int} : uX8_readsOne R 22 [x0, x1, x2, x3, x4, x5, x6, x7] (.inl b :: .inl a :: st) M ↔ ((zIR a ∧ zIR b) ∧ if a ≠ b then uX8_readsOne R 29 [x0, x1, x2, x3, x4, x5, x6, x7] st M else uX8_readsOne R 25 [x0, x1, x2, x3, x4, x5, x6, x7] st M) := Iff.trans (zU_step dX8_readsOne_22 (Or.inl rfl)) ⟨fun h => ⟨⟨h.1.1, h.1.2.1⟩, (zite (c := a ≠ b)).mpr h.2⟩, fun h => ⟨⟨h.1.1, h.1.2, by decide⟩, (zite (c := a ≠ b)).mp h.2⟩⟩
theorem dX8_readsOne_25 : decode cX8_readsOne 25 = .ok (.iconst 0, 1) := by decide +kernel
theorem rX8_readsOne_25 {R : zP} {x0 x1 x2 x3 x4 x5 x6 x7 : Option zV} {st : List zV} {M : zM} : uX8_readsOne R 25 [x0, x1, x2, x3, x4, x5, x6, x7] st M ↔ uX8_readsOne R 26 [x0, x1, x2, x3, x4, x5, x6, x7] (.inl (0) :: st) M := zU_step dX8_readsOne_25 (Or.inl rfl)
theorem dX8_readsOne_26 : decode cX8_readsOne 26 = .ok (.goto 4, 3) := by decide +kernel
theorem rX8_readsOne_26 {R : zP} {x0 x1 x2 x3 x4 x5 x6 x7 : Option zV} {st : List zV} {M : zM} : uX8_readsOne R 26 [x0, x1, x2, x3, x4, x5, x6, x7] st M ↔ uX8_readsOne R 30 [x0, x1, x2, x3, x4, x5, x6, x7] st M := Iff.trans (zU_step dX8_readsOne_26 (Or.inl rfl)) ⟨fun h => h.2, fun h => ⟨by decide, h⟩⟩
theorem dX8_readsOne_29 : decode cX8_readsOne 29 = .ok (.iconst 1, 1) := by decide +kernel
theorem rX8_readsOne_29 {R : zP} {x0 x1 x2 x3 x4 x5 x6 x7 : Option zV} {st : List zV} {M : zM} : uX8_readsOne R 29 [x0, x1, x2, x3, x4, x5, x6, x7] st M ↔ uX8_readsOne R 30 [x0, x1, x2, x3, x4, x5, x6, x7] (.inl (1) :: st) M := zU_step dX8_readsOne_29 (Or.inl rfl)
theorem dX8_readsOne_30 : decode cX8_readsOne 30 = .ok (.istore 5, 2) := by decide +kernel
theorem rX8_readsOne_30 {R : zP} {x0 x1 x2 x3 x5 x6 x7 : Option zV} {st : List zV} {M : zM} {a : Int} {y : Int} : uX8_readsOne R 30 [x0, x1, x2, x3, some (.inl y), x5, x6, x7] (.inl a :: st) M ↔ uX8_readsOne R 32 [x0, x1, x2, x3, some (.inl y), some (.inl a), x6, x7] st M := Iff.trans (zU_step dX8_readsOne_30 (Or.inl rfl)) ⟨fun h => h.2, fun h => ⟨show 5 < 8 by decide, h⟩⟩
theorem rX8_readsOne_30z {R : zP} {x0 x1 x2 x3 x4 x5 x6 x7 : Option zV} {st : List zV} {M : zM} {a : Int} : uX8_readsOne R 30 [x0, x1, x2, x3, x4, x5, x6, x7] (.inl a :: st) M ↔ uX8_readsOne R 32 [x0, x1, x2, x3, zkeep x4, some (.inl a), x6, x7] st M := Iff.trans (zU_step dX8_readsOne_30 (Or.inl rfl)) ⟨fun h => h.2, fun h => ⟨show 5 < 8 by decide, h⟩⟩
theorem dX8_readsOne_32 : decode cX8_readsOne 32 = .ok (.iload 5, 2) := by decide +kernel
theorem rX8_readsOne_32 {R : zP} {x0 x1 x2 x3 x4 x6 x7 : Option zV} {st : List zV} {M : zM} {a : Int} : uX8_readsOne R 32 [x0, x1, x2, x3, x4, some (.inl a), x6, x7] st M ↔ uX8_readsOne R 34 [x0, x1, x2, x3, x4, some (.inl a), x6, x7] (.inl a :: st) M := zU_step dX8_readsOne_32 (Or.inl rfl)
theorem dX8_readsOne_34 : decode cX8_readsOne 34 = .ok (.ifCond .le 34, 3) := by decide +kernel
theorem rX8_readsOne_34 {R : zP} {x0 x1 x2 x3 x4 x5 x6 x7 : Option zV} {st : List zV} {M : zM} {a : Int} : uX8_readsOne R 34 [x0, x1, x2, x3, x4, x5, x6, x7] (.inl a :: st) M ↔ (zIR a ∧ if a ≤ 0 then uX8_readsOne R 68 [x0, x1, x2, x3, x4, x5, x6, x7] st M else uX8_readsOne R 37 [x0, x1, x2, x3, x4, x5, x6, x7] st M) := Iff.trans (zU_step dX8_readsOne_34 (Or.inl rfl)) ⟨fun h => ⟨h.1.1, (zite (c := a ≤ 0)).mpr h.2⟩, fun h => ⟨⟨h.1, by decide⟩, (zite (c := a ≤ 0)).mp h.2⟩⟩
theorem dX8_readsOne_37 : decode cX8_readsOne 37 = .ok (.iload 5, 2) := by decide +kernel
theorem rX8_readsOne_37 {R : zP} {x0 x1 x2 x3 x4 x6 x7 : Option zV} {st : List zV} {M : zM} {a : Int} : uX8_readsOne R 37 [x0, x1, x2, x3, x4, some (.inl a), x6, x7] st M ↔ uX8_readsOne R 39 [x0, x1, x2, x3, x4, some (.inl a), x6, x7] (.inl a :: st) M := zU_step dX8_readsOne_37 (Or.inl rfl)
theorem dX8_readsOne_39 : decode cX8_readsOne 39 = .ok (.iconst 5, 1) := by decide +kernel
theorem rX8_readsOne_39 {R : zP} {x0 x1 x2 x3 x4 x5 x6 x7 : Option zV} {st : List zV} {M : zM} : uX8_readsOne R 39 [x0, x1, x2, x3, x4, x5, x6, x7] st M ↔ uX8_readsOne R 40 [x0, x1, x2, x3, x4, x5, x6, x7] (.inl (5) :: st) M := zU_step dX8_readsOne_39 (Or.inl rfl)
theorem dX8_readsOne_40 : decode cX8_readsOne 40 = .ok (.if_icmp .ge 28, 3) := by decide +kernel
theorem rX8_readsOne_40 {R : zP} {x0 x1 x2 x3 x4 x5 x6 x7 : Option zV} {st : List zV} {M : zM} {a b : Int} : uX8_readsOne R 40 [x0, x1, x2, x3, x4, x5, x6, x7] (.inl b :: .inl a :: st) M ↔ ((zIR a ∧ zIR b) ∧ if b ≤ a then uX8_readsOne R 68 [x0, x1, x2, x3, x4, x5, x6, x7] st M else uX8_readsOne R 43 [x0, x1, x2, x3, x4, x5, x6, x7] st M) := Iff.trans (zU_step dX8_readsOne_40 (Or.inl rfl)) ⟨fun h => ⟨⟨h.1.1, h.1.2.1⟩, (zite (c := b ≤ a)).mpr h.2⟩, fun h => ⟨⟨h.1.1, h.1.2, by decide⟩, (zite (c := b ≤ a)).mp h.2⟩⟩
theorem dX8_readsOne_43 : decode cX8_readsOne 43 = .ok (.aload_n 0, 1) := by decide +kernel
theorem rX8_readsOne_43 {R : zP} {x1 x2 x3 x4 x5 x6 x7 : Option zV} {st : List zV} {M : zM} {a : Nat} : uX8_readsOne R 43 [some (.inr (.inr a)), x1, x2, x3, x4, x5, x6, x7] st M ↔ uX8_readsOne R 44 [some (.inr (.inr a)), x1, x2, x3, x4, x5, x6, x7] (.inr (.inr a) :: st) M := zU_step dX8_readsOne_43 (Or.inl rfl)
theorem dX8_readsOne_44 : decode cX8_readsOne 44 = .ok (.iload_n 1, 1) := by decide +kernel
theorem rX8_readsOne_44 {R : zP} {x0 x2 x3 x4 x5 x6 x7 : Option zV} {st : List zV} {M : zM} {a : Int} : uX8_readsOne R 44 [x0, some (.inl a), x2, x3, x4, x5, x6, x7] st M ↔ uX8_readsOne R 45 [x0, some (.inl a), x2, x3, x4, x5, x6, x7] (.inl a :: st) M := zU_step dX8_readsOne_44 (Or.inl rfl)
theorem dX8_readsOne_45 : decode cX8_readsOne 45 = .ok (.iload_n 3, 1) := by decide +kernel
theorem rX8_readsOne_45 {R : zP} {x0 x1 x2 x4 x5 x6 x7 : Option zV} {st : List zV} {M : zM} {a : Int} : uX8_readsOne R 45 [x0, x1, x2, some (.inl a), x4, x5, x6, x7] st M ↔ uX8_readsOne R 46 [x0, x1, x2, some (.inl a), x4, x5, x6, x7] (.inl a :: st) M := zU_step dX8_readsOne_45 (Or.inl rfl)
theorem dX8_readsOne_46 : decode cX8_readsOne 46 = .ok (.iload 5, 2) := by decide +kernel
theorem rX8_readsOne_46 {R : zP} {x0 x1 x2 x3 x4 x6 x7 : Option zV} {st : List zV} {M : zM} {a : Int} : uX8_readsOne R 46 [x0, x1, x2, x3, x4, some (.inl a), x6, x7] st M ↔ uX8_readsOne R 48 [x0, x1, x2, x3, x4, some (.inl a), x6, x7] (.inl a :: st) M := zU_step dX8_readsOne_46 (Or.inl rfl)
theorem dX8_readsOne_48 : decode cX8_readsOne 48 = .ok (.iadd, 1) := by decide +kernel
theorem rX8_readsOne_48 {R : zP} {x0 x1 x2 x3 x4 x5 x6 x7 : Option zV} {st : List zV} {M : zM} {a b : Int} : uX8_readsOne R 48 [x0, x1, x2, x3, x4, x5, x6, x7] (.inl b :: .inl a :: st) M ↔ uX8_readsOne R 49 [x0, x1, x2, x3, x4, x5, x6, x7] (.inl (a + b) :: st) M := zU_step dX8_readsOne_48 (Or.inl rfl)
theorem dX8_readsOne_49 : decode cX8_readsOne 49 = .ok (.invokevirtual 120, 3) := by decide +kernel
theorem rX8_readsOne_49 {R : zP} {x0 x1 x2 x3 x4 x5 x6 x7 : Option zV} {st : List zV} {M : zM} {a0 a1 a2 : zV} : uX8_readsOne R 49 [x0, x1, x2, x3, x4, x5, x6, x7] (a2 :: a1 :: a0 :: st) M ↔ (st.length ≤ 4 ∧ zcv (zv 8 tX8_byteAt) [a0, a1, a2] M (fun v M => uX8_readsOne R 52 [x0, x1, x2, x3, x4, x5, x6, x7] (v :: st) M)) := Iff.trans (zU_step dX8_readsOne_49 (Or.inl rfl)) ⟨fun h => ⟨h.2.1, zcv_of h.2.2⟩, fun h => ⟨rfl, h.1, zcv_to h.2⟩⟩
theorem dX8_readsOne_52 : decode cX8_readsOne 52 = .ok (.bipush 48, 2) := by decide +kernel
theorem rX8_readsOne_52 {R : zP} {x0 x1 x2 x3 x4 x5 x6 x7 : Option zV} {st : List zV} {M : zM} : uX8_readsOne R 52 [x0, x1, x2, x3, x4, x5, x6, x7] st M ↔ uX8_readsOne R 54 [x0, x1, x2, x3, x4, x5, x6, x7] (.inl (48) :: st) M := Iff.trans (zU_step dX8_readsOne_52 (Or.inl rfl)) ⟨fun h => h.2, fun h => ⟨by decide, h⟩⟩
theorem dX8_readsOne_54 : decode cX8_readsOne 54 = .ok (.bipush 57, 2) := by decide +kernel
theorem rX8_readsOne_54 {R : zP} {x0 x1 x2 x3 x4 x5 x6 x7 : Option zV} {st : List zV} {M : zM} : uX8_readsOne R 54 [x0, x1, x2, x3, x4, x5, x6, x7] st M ↔ uX8_readsOne R 56 [x0, x1, x2, x3, x4, x5, x6, x7] (.inl (57) :: st) M := Iff.trans (zU_step dX8_readsOne_54 (Or.inl rfl)) ⟨fun h => h.2, fun h => ⟨by decide, h⟩⟩
theorem dX8_readsOne_56 : decode cX8_readsOne 56 = .ok (.invokestatic 112, 3) := by decide +kernel
theorem rX8_readsOne_56 {R : zP} {x0 x1 x2 x3 x4 x5 x6 x7 : Option zV} {st : List zV} {M : zM} {a0 a1 a2 : zV} : uX8_readsOne R 56 [x0, x1, x2, x3, x4, x5, x6, x7] (a2 :: a1 :: a0 :: st) M ↔ (st.length ≤ 4 ∧ zcv tX8_in [a0, a1, a2] M (fun v M => uX8_readsOne R 59 [x0, x1, x2, x3, x4, x5, x6, x7] (v :: st) M)) := Iff.trans (zU_step dX8_readsOne_56 (Or.inl rfl)) ⟨fun h => ⟨h.2.1, zcv_of h.2.2⟩, fun h => ⟨rfl, h.1, zcv_to h.2⟩⟩
theorem dX8_readsOne_59 : decode cX8_readsOne 59 = .ok (.ifCond .eq 9, 3) := by decide +kernel
theorem rX8_readsOne_59 {R : zP} {x0 x1 x2 x3 x4 x5 x6 x7 : Option zV} {st : List zV} {M : zM} {a : Int} : uX8_readsOne R 59 [x0, x1, x2, x3, x4, x5, x6, x7] (.inl a :: st) M ↔ (zIR a ∧ if a = 0 then uX8_readsOne R 68 [x0, x1, x2, x3, x4, x5, x6, x7] st M else uX8_readsOne R 62 [x0, x1, x2, x3, x4, x5, x6, x7] st M) := Iff.trans (zU_step dX8_readsOne_59 (Or.inl rfl)) ⟨fun h => ⟨h.1.1, (zite (c := a = 0)).mpr h.2⟩, fun h => ⟨⟨h.1, by decide⟩, (zite (c := a = 0)).mp h.2⟩⟩
theorem dX8_readsOne_62 : decode cX8_readsOne 62 = .ok (.iinc 5 1, 3) := by decide +kernel
theorem rX8_readsOne_62 {R : zP} {x0 x1 x2 x3 x6 x7 : Option zV} {st : List zV} {M : zM} {a : Int} {y : Int} : uX8_readsOne R 62 [x0, x1, x2, x3, some (.inl y), some (.inl a), x6, x7] st M ↔ uX8_readsOne R 65 [x0, x1, x2, x3, some (.inl y), some (.inl (a + (1))), x6, x7] st M := Iff.trans (zU_step dX8_readsOne_62 (Or.inl rfl)) ⟨fun h => h.2, fun h => ⟨show 5 < 8 by decide, h⟩⟩
theorem rX8_readsOne_62z {R : zP} {x0 x1 x2 x3 x4 x6 x7 : Option zV} {st : List zV} {M : zM} {a : Int} : uX8_readsOne R 62 [x0, x1, x2, x3, x4, some (.inl a), x6, x7] st M ↔ uX8_readsOne R 65 [x0, x1, x2, x3, zkeep x4, some (.inl (a + (1))), x6, x7] st M := Iff.trans (zU_step dX8_readsOne_62 (Or.inl rfl)) ⟨fun h => h.2, fun h => ⟨show 5 < 8 by decide, h⟩⟩
theorem dX8_readsOne_65 : decode cX8_readsOne 65 = .ok (.goto (-33), 3) := by decide +kernel
theorem rX8_readsOne_65 {R : zP} {x0 x1 x2 x3 x4 x5 x6 x7 : Option zV} {st : List zV} {M : zM} : uX8_readsOne R 65 [x0, x1, x2, x3, x4, x5, x6, x7] st M ↔ uX8_readsOne R 32 [x0, x1, x2, x3, x4, x5, x6, x7] st M := Iff.trans (zU_step dX8_readsOne_65 (Or.inl rfl)) ⟨fun h => h.2, fun h => ⟨by decide, h⟩⟩
theorem dX8_readsOne_68 : decode cX8_readsOne 68 = .ok (.iconst 0, 1) := by decide +kernel
theorem rX8_readsOne_68 {R : zP} {x0 x1 x2 x3 x4 x5 x6 x7 : Option zV} {st : List zV} {M : zM} : uX8_readsOne R 68 [x0, x1, x2, x3, x4, x5, x6, x7] st M ↔ uX8_readsOne R 69 [x0, x1, x2, x3, x4, x5, x6, x7] (.inl (0) :: st) M := zU_step dX8_readsOne_68 (Or.inl rfl)
theorem dX8_readsOne_69 : decode cX8_readsOne 69 = .ok (.istore 6, 2) := by decide +kernel
theorem rX8_readsOne_69 {R : zP} {x0 x1 x2 x3 x4 x6 x7 : Option zV} {st : List zV} {M : zM} {a : Int} {y : Int} : uX8_readsOne R 69 [x0, x1, x2, x3, x4, some (.inl y), x6, x7] (.inl a :: st) M ↔ uX8_readsOne R 71 [x0, x1, x2, x3, x4, some (.inl y), some (.inl a), x7] st M := Iff.trans (zU_step dX8_readsOne_69 (Or.inl rfl)) ⟨fun h => h.2, fun h => ⟨show 6 < 8 by decide, h⟩⟩
theorem rX8_readsOne_69z {R : zP} {x0 x1 x2 x3 x4 x5 x6 x7 : Option zV} {st : List zV} {M : zM} {a : Int} : uX8_readsOne R 69 [x0, x1, x2, x3, x4, x5, x6, x7] (.inl a :: st) M ↔ uX8_readsOne R 71 [x0, x1, x2, x3, x4, zkeep x5, some (.inl a), x7] st M := Iff.trans (zU_step dX8_readsOne_69 (Or.inl rfl)) ⟨fun h => h.2, fun h => ⟨show 6 < 8 by decide, h⟩⟩
theorem dX8_readsOne_71 : decode cX8_readsOne 71 = .ok (.iload 6, 2) := by decide +kernel
theorem rX8_readsOne_71 {R : zP} {x0 x1 x2 x3 x4 x5 x7 : Option zV} {st : List zV} {M : zM} {a : Int} : uX8_readsOne R 71 [x0, x1, x2, x3, x4, x5, some (.inl a), x7] st M ↔ uX8_readsOne R 73 [x0, x1, x2, x3, x4, x5, some (.inl a), x7] (.inl a :: st) M := zU_step dX8_readsOne_71 (Or.inl rfl)
theorem dX8_readsOne_73 : decode cX8_readsOne 73 = .ok (.iconst 4, 1) := by decide +kernel
theorem rX8_readsOne_73 {R : zP} {x0 x1 x2 x3 x4 x5 x6 x7 : Option zV} {st : List zV} {M : zM} : uX8_readsOne R 73 [x0, x1, x2, x3, x4, x5, x6, x7] st M ↔ uX8_readsOne R 74 [x0, x1, x2, x3, x4, x5, x6, x7] (.inl (4) :: st) M := zU_step dX8_readsOne_73 (Or.inl rfl)
theorem dX8_readsOne_74 : decode cX8_readsOne 74 = .ok (.if_icmp .ge 80, 3) := by decide +kernel
theorem rX8_readsOne_74 {R : zP} {x0 x1 x2 x3 x4 x5 x6 x7 : Option zV} {st : List zV} {M : zM} {a b : Int} : uX8_readsOne R 74 [x0, x1, x2, x3, x4, x5, x6, x7] (.inl b :: .inl a :: st) M ↔ ((zIR a ∧ zIR b) ∧ if b ≤ a then uX8_readsOne R 154 [x0, x1, x2, x3, x4, x5, x6, x7] st M else uX8_readsOne R 77 [x0, x1, x2, x3, x4, x5, x6, x7] st M) := Iff.trans (zU_step dX8_readsOne_74 (Or.inl rfl)) ⟨fun h => ⟨⟨h.1.1, h.1.2.1⟩, (zite (c := b ≤ a)).mpr h.2⟩, fun h => ⟨⟨h.1.1, h.1.2, by decide⟩, (zite (c := b ≤ a)).mp h.2⟩⟩
theorem dX8_readsOne_77 : decode cX8_readsOne 77 = .ok (.iload 5, 2) := by decide +kernel
theorem rX8_readsOne_77 {R : zP} {x0 x1 x2 x3 x4 x6 x7 : Option zV} {st : List zV} {M : zM} {a : Int} : uX8_readsOne R 77 [x0, x1, x2, x3, x4, some (.inl a), x6, x7] st M ↔ uX8_readsOne R 79 [x0, x1, x2, x3, x4, some (.inl a), x6, x7] (.inl a :: st) M := zU_step dX8_readsOne_77 (Or.inl rfl)
theorem dX8_readsOne_79 : decode cX8_readsOne 79 = .ok (.iconst 5, 1) := by decide +kernel
theorem rX8_readsOne_79 {R : zP} {x0 x1 x2 x3 x4 x5 x6 x7 : Option zV} {st : List zV} {M : zM} : uX8_readsOne R 79 [x0, x1, x2, x3, x4, x5, x6, x7] st M ↔ uX8_readsOne R 80 [x0, x1, x2, x3, x4, x5, x6, x7] (.inl (5) :: st) M := zU_step dX8_readsOne_79 (Or.inl rfl)
theorem dX8_readsOne_80 : decode cX8_readsOne 80 = .ok (.if_icmp .ne 74, 3) := by decide +kernel
theorem rX8_readsOne_80 {R : zP} {x0 x1 x2 x3 x4 x5 x6 x7 : Option zV} {st : List zV} {M : zM} {a b : Int} : uX8_readsOne R 80 [x0, x1, x2, x3, x4, x5, x6, x7] (.inl b :: .inl a :: st) M ↔ ((zIR a ∧ zIR b) ∧ if a ≠ b then uX8_readsOne R 154 [x0, x1, x2, x3, x4, x5, x6, x7] st M else uX8_readsOne R 83 [x0, x1, x2, x3, x4, x5, x6, x7] st M) := Iff.trans (zU_step dX8_readsOne_80 (Or.inl rfl)) ⟨fun h => ⟨⟨h.1.1, h.1.2.1⟩, (zite (c := a ≠ b)).mpr h.2⟩, fun h => ⟨⟨h.1.1, h.1.2, by decide⟩, (zite (c := a ≠ b)).mp h.2⟩⟩
theorem dX8_readsOne_83 : decode cX8_readsOne 83 = .ok (.aload_n 0, 1) := by decide +kernel
theorem rX8_readsOne_83 {R : zP} {x1 x2 x3 x4 x5 x6 x7 : Option zV} {st : List zV} {M : zM} {a : Nat} : uX8_readsOne R 83 [some (.inr (.inr a)), x1, x2, x3, x4, x5, x6, x7] st M ↔ uX8_readsOne R 84 [some (.inr (.inr a)), x1, x2, x3, x4, x5, x6, x7] (.inr (.inr a) :: st) M := zU_step dX8_readsOne_83 (Or.inl rfl)
theorem dX8_readsOne_84 : decode cX8_readsOne 84 = .ok (.iload_n 1, 1) := by decide +kernel
theorem rX8_readsOne_84 {R : zP} {x0 x2 x3 x4 x5 x6 x7 : Option zV} {st : List zV} {M : zM} {a : Int} : uX8_readsOne R 84 [x0, some (.inl a), x2, x3, x4, x5, x6, x7] st M ↔ uX8_readsOne R 85 [x0, some (.inl a), x2, x3, x4, x5, x6, x7] (.inl a :: st) M := zU_step dX8_readsOne_84 (Or.inl rfl)
theorem dX8_readsOne_85 : decode cX8_readsOne 85 = .ok (.iload_n 3, 1) := by decide +kernel
theorem rX8_readsOne_85 {R : zP} {x0 x1 x2 x4 x5 x6 x7 : Option zV} {st : List zV} {M : zM} {a : Int} : uX8_readsOne R 85 [x0, x1, x2, some (.inl a), x4, x5, x6, x7] st M ↔ uX8_readsOne R 86 [x0, x1, x2, some (.inl a), x4, x5, x6, x7] (.inl a :: st) M := zU_step dX8_readsOne_85 (Or.inl rfl)
theorem dX8_readsOne_86 : decode cX8_readsOne 86 = .ok (.iconst 1, 1) := by decide +kernel
theorem rX8_readsOne_86 {R : zP} {x0 x1 x2 x3 x4 x5 x6 x7 : Option zV} {st : List zV} {M : zM} : uX8_readsOne R 86 [x0, x1, x2, x3, x4, x5, x6, x7] st M ↔ uX8_readsOne R 87 [x0, x1, x2, x3, x4, x5, x6, x7] (.inl (1) :: st) M := zU_step dX8_readsOne_86 (Or.inl rfl)
theorem dX8_readsOne_87 : decode cX8_readsOne 87 = .ok (.iadd, 1) := by decide +kernel
theorem rX8_readsOne_87 {R : zP} {x0 x1 x2 x3 x4 x5 x6 x7 : Option zV} {st : List zV} {M : zM} {a b : Int} : uX8_readsOne R 87 [x0, x1, x2, x3, x4, x5, x6, x7] (.inl b :: .inl a :: st) M ↔ uX8_readsOne R 88 [x0, x1, x2, x3, x4, x5, x6, x7] (.inl (a + b) :: st) M := zU_step dX8_readsOne_87 (Or.inl rfl)
theorem dX8_readsOne_88 : decode cX8_readsOne 88 = .ok (.iload 6, 2) := by decide +kernel
theorem rX8_readsOne_88 {R : zP} {x0 x1 x2 x3 x4 x5 x7 : Option zV} {st : List zV} {M : zM} {a : Int} : uX8_readsOne R 88 [x0, x1, x2, x3, x4, x5, some (.inl a), x7] st M ↔ uX8_readsOne R 90 [x0, x1, x2, x3, x4, x5, some (.inl a), x7] (.inl a :: st) M := zU_step dX8_readsOne_88 (Or.inl rfl)
theorem dX8_readsOne_90 : decode cX8_readsOne 90 = .ok (.iadd, 1) := by decide +kernel
theorem rX8_readsOne_90 {R : zP} {x0 x1 x2 x3 x4 x5 x6 x7 : Option zV} {st : List zV} {M : zM} {a b : Int} : uX8_readsOne R 90 [x0, x1, x2, x3, x4, x5, x6, x7] (.inl b :: .inl a :: st) M ↔ uX8_readsOne R 91 [x0, x1, x2, x3, x4, x5, x6, x7] (.inl (a + b) :: st) M := zU_step dX8_readsOne_90 (Or.inl rfl)
theorem dX8_readsOne_91 : decode cX8_readsOne 91 = .ok (.invokevirtual 120, 3) := by decide +kernel
theorem rX8_readsOne_91 {R : zP} {x0 x1 x2 x3 x4 x5 x6 x7 : Option zV} {st : List zV} {M : zM} {a0 a1 a2 : zV} : uX8_readsOne R 91 [x0, x1, x2, x3, x4, x5, x6, x7] (a2 :: a1 :: a0 :: st) M ↔ (st.length ≤ 4 ∧ zcv (zv 8 tX8_byteAt) [a0, a1, a2] M (fun v M => uX8_readsOne R 94 [x0, x1, x2, x3, x4, x5, x6, x7] (v :: st) M)) := Iff.trans (zU_step dX8_readsOne_91 (Or.inl rfl)) ⟨fun h => ⟨h.2.1, zcv_of h.2.2⟩, fun h => ⟨rfl, h.1, zcv_to h.2⟩⟩
theorem dX8_readsOne_94 : decode cX8_readsOne 94 = .ok (.bipush 48, 2) := by decide +kernel
theorem rX8_readsOne_94 {R : zP} {x0 x1 x2 x3 x4 x5 x6 x7 : Option zV} {st : List zV} {M : zM} : uX8_readsOne R 94 [x0, x1, x2, x3, x4, x5, x6, x7] st M ↔ uX8_readsOne R 96 [x0, x1, x2, x3, x4, x5, x6, x7] (.inl (48) :: st) M := Iff.trans (zU_step dX8_readsOne_94 (Or.inl rfl)) ⟨fun h => h.2, fun h => ⟨by decide, h⟩⟩
theorem dX8_readsOne_96 : decode cX8_readsOne 96 = .ok (.isub, 1) := by decide +kernel
theorem rX8_readsOne_96 {R : zP} {x0 x1 x2 x3 x4 x5 x6 x7 : Option zV} {st : List zV} {M : zM} {a b : Int} : uX8_readsOne R 96 [x0, x1, x2, x3, x4, x5, x6, x7] (.inl b :: .inl a :: st) M ↔ uX8_readsOne R 97 [x0, x1, x2, x3, x4, x5, x6, x7] (.inl (a - b) :: st) M := zU_step dX8_readsOne_96 (Or.inl rfl)
theorem dX8_readsOne_97 : decode cX8_readsOne 97 = .ok (.istore 7, 2) := by decide +kernel
theorem rX8_readsOne_97 {R : zP} {x0 x1 x2 x3 x4 x5 x7 : Option zV} {st : List zV} {M : zM} {a : Int} {y : Int} : uX8_readsOne R 97 [x0, x1, x2, x3, x4, x5, some (.inl y), x7] (.inl a :: st) M ↔ uX8_readsOne R 99 [x0, x1, x2, x3, x4, x5, some (.inl y), some (.inl a)] st M := Iff.trans (zU_step dX8_readsOne_97 (Or.inl rfl)) ⟨fun h => h.2, fun h => ⟨show 7 < 8 by decide, h⟩⟩
theorem rX8_readsOne_97z {R : zP} {x0 x1 x2 x3 x4 x5 x6 x7 : Option zV} {st : List zV} {M : zM} {a : Int} : uX8_readsOne R 97 [x0, x1, x2, x3, x4, x5, x6, x7] (.inl a :: st) M ↔ uX8_readsOne R 99 [x0, x1, x2, x3, x4, x5, zkeep x6, some (.inl a)] st M := Iff.trans (zU_step dX8_readsOne_97 (Or.inl rfl)) ⟨fun h => h.2, fun h => ⟨show 7 < 8 by decide, h⟩⟩
theorem dX8_readsOne_99 : decode cX8_readsOne 99 = .ok (.iload_n 1, 1) := by decide +kernel
theorem rX8_readsOne_99 {R : zP} {x0 x2 x3 x4 x5 x6 x7 : Option zV} {st : List zV} {M : zM} {a : Int} : uX8_readsOne R 99 [x0, some (.inl a), x2, x3, x4, x5, x6, x7] st M ↔ uX8_readsOne R 100 [x0, some (.inl a), x2, x3, x4, x5, x6, x7] (.inl a :: st) M := zU_step dX8_readsOne_99 (Or.inl rfl)
theorem dX8_readsOne_100 : decode cX8_readsOne 100 = .ok (.ifCond .ne 27, 3) := by decide +kernel
theorem rX8_readsOne_100 {R : zP} {x0 x1 x2 x3 x4 x5 x6 x7 : Option zV} {st : List zV} {M : zM} {a : Int} : uX8_readsOne R 100 [x0, x1, x2, x3, x4, x5, x6, x7] (.inl a :: st) M ↔ (zIR a ∧ if a ≠ 0 then uX8_readsOne R 127 [x0, x1, x2, x3, x4, x5, x6, x7] st M else uX8_readsOne R 103 [x0, x1, x2, x3, x4, x5, x6, x7] st M) := Iff.trans (zU_step dX8_readsOne_100 (Or.inl rfl)) ⟨fun h => ⟨h.1.1, (zite (c := a ≠ 0)).mpr h.2⟩, fun h => ⟨⟨h.1, by decide⟩, (zite (c := a ≠ 0)).mp h.2⟩⟩
theorem dX8_readsOne_103 : decode cX8_readsOne 103 = .ok (.aload_n 0, 1) := by decide +kernel
theorem rX8_readsOne_103 {R : zP} {x1 x2 x3 x4 x5 x6 x7 : Option zV} {st : List zV} {M : zM} {a : Nat} : uX8_readsOne R 103 [some (.inr (.inr a)), x1, x2, x3, x4, x5, x6, x7] st M ↔ uX8_readsOne R 104 [some (.inr (.inr a)), x1, x2, x3, x4, x5, x6, x7] (.inr (.inr a) :: st) M := zU_step dX8_readsOne_103 (Or.inl rfl)
theorem dX8_readsOne_104 : decode cX8_readsOne 104 = .ok (.getfield 19, 3) := by decide +kernel
theorem rX8_readsOne_104 {R : zP} {x0 x1 x2 x3 x4 x5 x6 x7 : Option zV} {st : List zV} {M : zM} {r : Nat} : uX8_readsOne R 104 [x0, x1, x2, x3, x4, x5, x6, x7] (.inr (.inr r) :: st) M ↔ zgetx fX8 19 r M (fun v => uX8_readsOne R 107 [x0, x1, x2, x3, x4, x5, x6, x7] (v :: st) M) := zU_step dX8_readsOne_104 (Or.inl rfl)
theorem dX8_readsOne_107 : decode cX8_readsOne 107 = .ok (.iconst 4, 1) := by decide +kernel
theorem rX8_readsOne_107 {R : zP} {x0 x1 x2 x3 x4 x5 x6 x7 : Option zV} {st : List zV} {M : zM} : uX8_readsOne R 107 [x0, x1, x2, x3, x4, x5, x6, x7] st M ↔ uX8_readsOne R 108 [x0, x1, x2, x3, x4, x5, x6, x7] (.inl (4) :: st) M := zU_step dX8_readsOne_107 (Or.inl rfl)
theorem dX8_readsOne_108 : decode cX8_readsOne 108 = .ok (.iload_n 2, 1) := by decide +kernel
theorem rX8_readsOne_108 {R : zP} {x0 x1 x3 x4 x5 x6 x7 : Option zV} {st : List zV} {M : zM} {a : Int} : uX8_readsOne R 108 [x0, x1, some (.inl a), x3, x4, x5, x6, x7] st M ↔ uX8_readsOne R 109 [x0, x1, some (.inl a), x3, x4, x5, x6, x7] (.inl a :: st) M := zU_step dX8_readsOne_108 (Or.inl rfl)
theorem dX8_readsOne_109 : decode cX8_readsOne 109 = .ok (.imul, 1) := by decide +kernel
theorem rX8_readsOne_109 {R : zP} {x0 x1 x2 x3 x4 x5 x6 x7 : Option zV} {st : List zV} {M : zM} {a b : Int} : uX8_readsOne R 109 [x0, x1, x2, x3, x4, x5, x6, x7] (.inl b :: .inl a :: st) M ↔ uX8_readsOne R 110 [x0, x1, x2, x3, x4, x5, x6, x7] (.inl (a * b) :: st) M := zU_step dX8_readsOne_109 (Or.inl rfl)
theorem dX8_readsOne_110 : decode cX8_readsOne 110 = .ok (.iload 6, 2) := by decide +kernel
theorem rX8_readsOne_110 {R : zP} {x0 x1 x2 x3 x4 x5 x7 : Option zV} {st : List zV} {M : zM} {a : Int} : uX8_readsOne R 110 [x0, x1, x2, x3, x4, x5, some (.inl a), x7] st M ↔ uX8_readsOne R 112 [x0, x1, x2, x3, x4, x5, some (.inl a), x7] (.inl a :: st) M := zU_step dX8_readsOne_110 (Or.inl rfl)
theorem dX8_readsOne_112 : decode cX8_readsOne 112 = .ok (.iadd, 1) := by decide +kernel
theorem rX8_readsOne_112 {R : zP} {x0 x1 x2 x3 x4 x5 x6 x7 : Option zV} {st : List zV} {M : zM} {a b : Int} : uX8_readsOne R 112 [x0, x1, x2, x3, x4, x5, x6, x7] (.inl b :: .inl a :: st) M ↔ uX8_readsOne R 113 [x0, x1, x2, x3, x4, x5, x6, x7] (.inl (a + b) :: st) M := zU_step dX8_readsOne_112 (Or.inl rfl)
theorem dX8_readsOne_113 : decode cX8_readsOne 113 = .ok (.iload 7, 2) := by decide +kernel
theorem rX8_readsOne_113 {R : zP} {x0 x1 x2 x3 x4 x5 x6 : Option zV} {st : List zV} {M : zM} {a : Int} : uX8_readsOne R 113 [x0, x1, x2, x3, x4, x5, x6, some (.inl a)] st M ↔ uX8_readsOne R 115 [x0, x1, x2, x3, x4, x5, x6, some (.inl a)] (.inl a :: st) M := zU_step dX8_readsOne_113 (Or.inl rfl)
theorem dX8_readsOne_115 : decode cX8_readsOne 115 = .ok (.iastore, 1) := by decide +kernel
theorem rX8_readsOne_115 {R : zP} {x0 x1 x2 x3 x4 x5 x6 x7 : Option zV} {st : List zV} {M : zM} {i v : Int} {r : Nat} : uX8_readsOne R 115 [x0, x1, x2, x3, x4, x5, x6, x7] (.inl v :: .inl i :: .inr (.inr r) :: st) M ↔ zwrite 0 r i (uX8_readsOne R 116 [x0, x1, x2, x3, x4, x5, x6, x7] st (zup M r i v)) := zU_step dX8_readsOne_115 (Or.inl rfl)
theorem dX8_readsOne_116 : decode cX8_readsOne 116 = .ok (.aload_n 0, 1) := by decide +kernel
theorem rX8_readsOne_116 {R : zP} {x1 x2 x3 x4 x5 x6 x7 : Option zV} {st : List zV} {M : zM} {a : Nat} : uX8_readsOne R 116 [some (.inr (.inr a)), x1, x2, x3, x4, x5, x6, x7] st M ↔ uX8_readsOne R 117 [some (.inr (.inr a)), x1, x2, x3, x4, x5, x6, x7] (.inr (.inr a) :: st) M := zU_step dX8_readsOne_116 (Or.inl rfl)
theorem dX8_readsOne_117 : decode cX8_readsOne 117 = .ok (.getfield 16, 3) := by decide +kernel
theorem rX8_readsOne_117 {R : zP} {x0 x1 x2 x3 x4 x5 x6 x7 : Option zV} {st : List zV} {M : zM} {r : Nat} : uX8_readsOne R 117 [x0, x1, x2, x3, x4, x5, x6, x7] (.inr (.inr r) :: st) M ↔ zgetx fX8 16 r M (fun v => uX8_readsOne R 120 [x0, x1, x2, x3, x4, x5, x6, x7] (v :: st) M) := zU_step dX8_readsOne_117 (Or.inl rfl)
theorem dX8_readsOne_120 : decode cX8_readsOne 120 = .ok (.iload_n 2, 1) := by decide +kernel
theorem rX8_readsOne_120 {R : zP} {x0 x1 x3 x4 x5 x6 x7 : Option zV} {st : List zV} {M : zM} {a : Int} : uX8_readsOne R 120 [x0, x1, some (.inl a), x3, x4, x5, x6, x7] st M ↔ uX8_readsOne R 121 [x0, x1, some (.inl a), x3, x4, x5, x6, x7] (.inl a :: st) M := zU_step dX8_readsOne_120 (Or.inl rfl)
theorem dX8_readsOne_121 : decode cX8_readsOne 121 = .ok (.iload 4, 2) := by decide +kernel
theorem rX8_readsOne_121 {R : zP} {x0 x1 x2 x3 x5 x6 x7 : Option zV} {st : List zV} {M : zM} {a : Int} : uX8_readsOne R 121 [x0, x1, x2, x3, some (.inl a), x5, x6, x7] st M ↔ uX8_readsOne R 123 [x0, x1, x2, x3, some (.inl a), x5, x6, x7] (.inl a :: st) M := zU_step dX8_readsOne_121 (Or.inl rfl)
theorem dX8_readsOne_123 : decode cX8_readsOne 123 = .ok (.iastore, 1) := by decide +kernel
theorem rX8_readsOne_123 {R : zP} {x0 x1 x2 x3 x4 x5 x6 x7 : Option zV} {st : List zV} {M : zM} {i v : Int} {r : Nat} : uX8_readsOne R 123 [x0, x1, x2, x3, x4, x5, x6, x7] (.inl v :: .inl i :: .inr (.inr r) :: st) M ↔ zwrite 0 r i (uX8_readsOne R 124 [x0, x1, x2, x3, x4, x5, x6, x7] st (zup M r i v)) := zU_step dX8_readsOne_123 (Or.inl rfl)
theorem dX8_readsOne_124 : decode cX8_readsOne 124 = .ok (.goto 24, 3) := by decide +kernel
theorem rX8_readsOne_124 {R : zP} {x0 x1 x2 x3 x4 x5 x6 x7 : Option zV} {st : List zV} {M : zM} : uX8_readsOne R 124 [x0, x1, x2, x3, x4, x5, x6, x7] st M ↔ uX8_readsOne R 148 [x0, x1, x2, x3, x4, x5, x6, x7] st M := Iff.trans (zU_step dX8_readsOne_124 (Or.inl rfl)) ⟨fun h => h.2, fun h => ⟨by decide, h⟩⟩
theorem dX8_readsOne_127 : decode cX8_readsOne 127 = .ok (.aload_n 0, 1) := by decide +kernel
theorem rX8_readsOne_127 {R : zP} {x1 x2 x3 x4 x5 x6 x7 : Option zV} {st : List zV} {M : zM} {a : Nat} : uX8_readsOne R 127 [some (.inr (.inr a)), x1, x2, x3, x4, x5, x6, x7] st M ↔ uX8_readsOne R 128 [some (.inr (.inr a)), x1, x2, x3, x4, x5, x6, x7] (.inr (.inr a) :: st) M := zU_step dX8_readsOne_127 (Or.inl rfl)
theorem dX8_readsOne_128 : decode cX8_readsOne 128 = .ok (.getfield 25, 3) := by decide +kernel
theorem rX8_readsOne_128 {R : zP} {x0 x1 x2 x3 x4 x5 x6 x7 : Option zV} {st : List zV} {M : zM} {r : Nat} : uX8_readsOne R 128 [x0, x1, x2, x3, x4, x5, x6, x7] (.inr (.inr r) :: st) M ↔ zgetx fX8 25 r M (fun v => uX8_readsOne R 131 [x0, x1, x2, x3, x4, x5, x6, x7] (v :: st) M) := zU_step dX8_readsOne_128 (Or.inl rfl)
theorem dX8_readsOne_131 : decode cX8_readsOne 131 = .ok (.iconst 4, 1) := by decide +kernel
theorem rX8_readsOne_131 {R : zP} {x0 x1 x2 x3 x4 x5 x6 x7 : Option zV} {st : List zV} {M : zM} : uX8_readsOne R 131 [x0, x1, x2, x3, x4, x5, x6, x7] st M ↔ uX8_readsOne R 132 [x0, x1, x2, x3, x4, x5, x6, x7] (.inl (4) :: st) M := zU_step dX8_readsOne_131 (Or.inl rfl)
theorem dX8_readsOne_132 : decode cX8_readsOne 132 = .ok (.iload_n 2, 1) := by decide +kernel
theorem rX8_readsOne_132 {R : zP} {x0 x1 x3 x4 x5 x6 x7 : Option zV} {st : List zV} {M : zM} {a : Int} : uX8_readsOne R 132 [x0, x1, some (.inl a), x3, x4, x5, x6, x7] st M ↔ uX8_readsOne R 133 [x0, x1, some (.inl a), x3, x4, x5, x6, x7] (.inl a :: st) M := zU_step dX8_readsOne_132 (Or.inl rfl)
theorem dX8_readsOne_133 : decode cX8_readsOne 133 = .ok (.imul, 1) := by decide +kernel
theorem rX8_readsOne_133 {R : zP} {x0 x1 x2 x3 x4 x5 x6 x7 : Option zV} {st : List zV} {M : zM} {a b : Int} : uX8_readsOne R 133 [x0, x1, x2, x3, x4, x5, x6, x7] (.inl b :: .inl a :: st) M ↔ uX8_readsOne R 134 [x0, x1, x2, x3, x4, x5, x6, x7] (.inl (a * b) :: st) M := zU_step dX8_readsOne_133 (Or.inl rfl)
theorem dX8_readsOne_134 : decode cX8_readsOne 134 = .ok (.iload 6, 2) := by decide +kernel
theorem rX8_readsOne_134 {R : zP} {x0 x1 x2 x3 x4 x5 x7 : Option zV} {st : List zV} {M : zM} {a : Int} : uX8_readsOne R 134 [x0, x1, x2, x3, x4, x5, some (.inl a), x7] st M ↔ uX8_readsOne R 136 [x0, x1, x2, x3, x4, x5, some (.inl a), x7] (.inl a :: st) M := zU_step dX8_readsOne_134 (Or.inl rfl)
theorem dX8_readsOne_136 : decode cX8_readsOne 136 = .ok (.iadd, 1) := by decide +kernel
theorem rX8_readsOne_136 {R : zP} {x0 x1 x2 x3 x4 x5 x6 x7 : Option zV} {st : List zV} {M : zM} {a b : Int} : uX8_readsOne R 136 [x0, x1, x2, x3, x4, x5, x6, x7] (.inl b :: .inl a :: st) M ↔ uX8_readsOne R 137 [x0, x1, x2, x3, x4, x5, x6, x7] (.inl (a + b) :: st) M := zU_step dX8_readsOne_136 (Or.inl rfl)
theorem dX8_readsOne_137 : decode cX8_readsOne 137 = .ok (.iload 7, 2) := by decide +kernel
theorem rX8_readsOne_137 {R : zP} {x0 x1 x2 x3 x4 x5 x6 : Option zV} {st : List zV} {M : zM} {a : Int} : uX8_readsOne R 137 [x0, x1, x2, x3, x4, x5, x6, some (.inl a)] st M ↔ uX8_readsOne R 139 [x0, x1, x2, x3, x4, x5, x6, some (.inl a)] (.inl a :: st) M := zU_step dX8_readsOne_137 (Or.inl rfl)
theorem dX8_readsOne_139 : decode cX8_readsOne 139 = .ok (.iastore, 1) := by decide +kernel
theorem rX8_readsOne_139 {R : zP} {x0 x1 x2 x3 x4 x5 x6 x7 : Option zV} {st : List zV} {M : zM} {i v : Int} {r : Nat} : uX8_readsOne R 139 [x0, x1, x2, x3, x4, x5, x6, x7] (.inl v :: .inl i :: .inr (.inr r) :: st) M ↔ zwrite 0 r i (uX8_readsOne R 140 [x0, x1, x2, x3, x4, x5, x6, x7] st (zup M r i v)) := zU_step dX8_readsOne_139 (Or.inl rfl)
theorem dX8_readsOne_140 : decode cX8_readsOne 140 = .ok (.aload_n 0, 1) := by decide +kernel
theorem rX8_readsOne_140 {R : zP} {x1 x2 x3 x4 x5 x6 x7 : Option zV} {st : List zV} {M : zM} {a : Nat} : uX8_readsOne R 140 [some (.inr (.inr a)), x1, x2, x3, x4, x5, x6, x7] st M ↔ uX8_readsOne R 141 [some (.inr (.inr a)), x1, x2, x3, x4, x5, x6, x7] (.inr (.inr a) :: st) M := zU_step dX8_readsOne_140 (Or.inl rfl)
theorem dX8_readsOne_141 : decode cX8_readsOne 141 = .ok (.getfield 22, 3) := by decide +kernel
theorem rX8_readsOne_141 {R : zP} {x0 x1 x2 x3 x4 x5 x6 x7 : Option zV} {st : List zV} {M : zM} {r : Nat} : uX8_readsOne R 141 [x0, x1, x2, x3, x4, x5, x6, x7] (.inr (.inr r) :: st) M ↔ zgetx fX8 22 r M (fun v => uX8_readsOne R 144 [x0, x1, x2, x3, x4, x5, x6, x7] (v :: st) M) := zU_step dX8_readsOne_141 (Or.inl rfl)
theorem dX8_readsOne_144 : decode cX8_readsOne 144 = .ok (.iload_n 2, 1) := by decide +kernel
theorem rX8_readsOne_144 {R : zP} {x0 x1 x3 x4 x5 x6 x7 : Option zV} {st : List zV} {M : zM} {a : Int} : uX8_readsOne R 144 [x0, x1, some (.inl a), x3, x4, x5, x6, x7] st M ↔ uX8_readsOne R 145 [x0, x1, some (.inl a), x3, x4, x5, x6, x7] (.inl a :: st) M := zU_step dX8_readsOne_144 (Or.inl rfl)
theorem dX8_readsOne_145 : decode cX8_readsOne 145 = .ok (.iload 4, 2) := by decide +kernel
theorem rX8_readsOne_145 {R : zP} {x0 x1 x2 x3 x5 x6 x7 : Option zV} {st : List zV} {M : zM} {a : Int} : uX8_readsOne R 145 [x0, x1, x2, x3, some (.inl a), x5, x6, x7] st M ↔ uX8_readsOne R 147 [x0, x1, x2, x3, some (.inl a), x5, x6, x7] (.inl a :: st) M := zU_step dX8_readsOne_145 (Or.inl rfl)
theorem dX8_readsOne_147 : decode cX8_readsOne 147 = .ok (.iastore, 1) := by decide +kernel
theorem rX8_readsOne_147 {R : zP} {x0 x1 x2 x3 x4 x5 x6 x7 : Option zV} {st : List zV} {M : zM} {i v : Int} {r : Nat} : uX8_readsOne R 147 [x0, x1, x2, x3, x4, x5, x6, x7] (.inl v :: .inl i :: .inr (.inr r) :: st) M ↔ zwrite 0 r i (uX8_readsOne R 148 [x0, x1, x2, x3, x4, x5, x6, x7] st (zup M r i v)) := zU_step dX8_readsOne_147 (Or.inl rfl)
theorem dX8_readsOne_148 : decode cX8_readsOne 148 = .ok (.iinc 6 1, 3) := by decide +kernel
theorem rX8_readsOne_148 {R : zP} {x0 x1 x2 x3 x4 x7 : Option zV} {st : List zV} {M : zM} {a : Int} {y : Int} : uX8_readsOne R 148 [x0, x1, x2, x3, x4, some (.inl y), some (.inl a), x7] st M ↔ uX8_readsOne R 151 [x0, x1, x2, x3, x4, some (.inl y), some (.inl (a + (1))), x7] st M := Iff.trans (zU_step dX8_readsOne_148 (Or.inl rfl)) ⟨fun h => h.2, fun h => ⟨show 6 < 8 by decide, h⟩⟩
theorem rX8_readsOne_148z {R : zP} {x0 x1 x2 x3 x4 x5 x7 : Option zV} {st : List zV} {M : zM} {a : Int} : uX8_readsOne R 148 [x0, x1, x2, x3, x4, x5, some (.inl a), x7] st M ↔ uX8_readsOne R 151 [x0, x1, x2, x3, x4, zkeep x5, some (.inl (a + (1))), x7] st M := Iff.trans (zU_step dX8_readsOne_148 (Or.inl rfl)) ⟨fun h => h.2, fun h => ⟨show 6 < 8 by decide, h⟩⟩
theorem dX8_readsOne_151 : decode cX8_readsOne 151 = .ok (.goto (-80), 3) := by decide +kernel
theorem rX8_readsOne_151 {R : zP} {x0 x1 x2 x3 x4 x5 x6 x7 : Option zV} {st : List zV} {M : zM} : uX8_readsOne R 151 [x0, x1, x2, x3, x4, x5, x6, x7] st M ↔ uX8_readsOne R 71 [x0, x1, x2, x3, x4, x5, x6, x7] st M := Iff.trans (zU_step dX8_readsOne_151 (Or.inl rfl)) ⟨fun h => h.2, fun h => ⟨by decide, h⟩⟩
theorem dX8_readsOne_154 : decode cX8_readsOne 154 = .ok (.iload 5, 2) := by decide +kernel
theorem rX8_readsOne_154 {R : zP} {x0 x1 x2 x3 x4 x6 x7 : Option zV} {st : List zV} {M : zM} {a : Int} : uX8_readsOne R 154 [x0, x1, x2, x3, x4, some (.inl a), x6, x7] st M ↔ uX8_readsOne R 156 [x0, x1, x2, x3, x4, some (.inl a), x6, x7] (.inl a :: st) M := zU_step dX8_readsOne_154 (Or.inl rfl)
theorem dX8_readsOne_156 : decode cX8_readsOne 156 = .ok (.ireturn, 1) := by decide +kernel
theorem rX8_readsOne_156 {R : zP} {x0 x1 x2 x3 x4 x5 x6 x7 : Option zV} {M : zM} {a : Int} : uX8_readsOne R 156 [x0, x1, x2, x3, x4, x5, x6, x7] [.inl a] M ↔ R (some (.inl a)) M := Iff.trans (zU_step dX8_readsOne_156 (Or.inl rfl)) ⟨fun h => h.2.2, fun h => ⟨rfl, Or.inl rfl, h⟩⟩
theorem eX8_readsOne {R : zP} {M : zM} {a0 : Nat} {p0 : Int} {p1 : Int} {p2 : Int} : tX8_readsOne [.inr (.inr a0), .inl p0, .inl p1, .inl p2] M R ↔ uX8_readsOne R 0 [some (.inr (.inr a0)), some (.inl p0), some (.inl p1), some (.inl p2), none, none, none, none] [] M := ⟨fun h => h.2, fun h => ⟨show 4 ≤ 8 by decide, h⟩⟩
def uX8_readsAll (R : zP) : zK := zU fX8 vX8_readsAll cX8_readsAll R
theorem dX8_readsAll_0 : decode cX8_readsAll 0 = .ok (.iconst 0, 1) := by decide +kernel
theorem rX8_readsAll_0 {R : zP} {x0 x1 x2 x3 x4 : Option zV} {st : List zV} {M : zM} : uX8_readsAll R 0 [x0, x1, x2, x3, x4] st M ↔ uX8_readsAll R 1 [x0, x1, x2, x3, x4] (.inl (0) :: st) M := zU_step dX8_readsAll_0 (Or.inl rfl)
theorem dX8_readsAll_1 : decode cX8_readsAll 1 = .ok (.istore_n 2, 1) := by decide +kernel
theorem rX8_readsAll_1 {R : zP} {x0 x2 x3 x4 : Option zV} {st : List zV} {M : zM} {a : Int} {y : Int} : uX8_readsAll R 1 [x0, some (.inl y), x2, x3, x4] (.inl a :: st) M ↔ uX8_readsAll R 2 [x0, some (.inl y), some (.inl a), x3, x4] st M := Iff.trans (zU_step dX8_readsAll_1 (Or.inl rfl)) ⟨fun h => h.2, fun h => ⟨show 2 < 5 by decide, h⟩⟩
theorem rX8_readsAll_1z {R : zP} {x0 x1 x2 x3 x4 : Option zV} {st : List zV} {M : zM} {a : Int} : uX8_readsAll R 1 [x0, x1, x2, x3, x4] (.inl a :: st) M ↔ uX8_readsAll R 2 [x0, zkeep x1, some (.inl a), x3, x4] st M := Iff.trans (zU_step dX8_readsAll_1 (Or.inl rfl)) ⟨fun h => h.2, fun h => ⟨show 2 < 5 by decide, h⟩⟩
theorem dX8_readsAll_2 : decode cX8_readsAll 2 = .ok (.iconst 0, 1) := by decide +kernel
theorem rX8_readsAll_2 {R : zP} {x0 x1 x2 x3 x4 : Option zV} {st : List zV} {M : zM} : uX8_readsAll R 2 [x0, x1, x2, x3, x4] st M ↔ uX8_readsAll R 3 [x0, x1, x2, x3, x4] (.inl (0) :: st) M := zU_step dX8_readsAll_2 (Or.inl rfl)
theorem dX8_readsAll_3 : decode cX8_readsAll 3 = .ok (.istore_n 3, 1) := by decide +kernel
theorem rX8_readsAll_3 {R : zP} {x0 x1 x3 x4 : Option zV} {st : List zV} {M : zM} {a : Int} {y : Int} : uX8_readsAll R 3 [x0, x1, some (.inl y), x3, x4] (.inl a :: st) M ↔ uX8_readsAll R 4 [x0, x1, some (.inl y), some (.inl a), x4] st M := Iff.trans (zU_step dX8_readsAll_3 (Or.inl rfl)) ⟨fun h => h.2, fun h => ⟨show 3 < 5 by decide, h⟩⟩
theorem rX8_readsAll_3z {R : zP} {x0 x1 x2 x3 x4 : Option zV} {st : List zV} {M : zM} {a : Int} : uX8_readsAll R 3 [x0, x1, x2, x3, x4] (.inl a :: st) M ↔ uX8_readsAll R 4 [x0, x1, zkeep x2, some (.inl a), x4] st M := Iff.trans (zU_step dX8_readsAll_3 (Or.inl rfl)) ⟨fun h => h.2, fun h => ⟨show 3 < 5 by decide, h⟩⟩
theorem dX8_readsAll_4 : decode cX8_readsAll 4 = .ok (.aload_n 0, 1) := by decide +kernel
theorem rX8_readsAll_4 {R : zP} {x1 x2 x3 x4 : Option zV} {st : List zV} {M : zM} {a : Nat} : uX8_readsAll R 4 [some (.inr (.inr a)), x1, x2, x3, x4] st M ↔ uX8_readsAll R 5 [some (.inr (.inr a)), x1, x2, x3, x4] (.inr (.inr a) :: st) M := zU_step dX8_readsAll_4 (Or.inl rfl)
theorem dX8_readsAll_5 : decode cX8_readsAll 5 = .ok (.iload_n 1, 1) := by decide +kernel
theorem rX8_readsAll_5 {R : zP} {x0 x2 x3 x4 : Option zV} {st : List zV} {M : zM} {a : Int} : uX8_readsAll R 5 [x0, some (.inl a), x2, x3, x4] st M ↔ uX8_readsAll R 6 [x0, some (.inl a), x2, x3, x4] (.inl a :: st) M := zU_step dX8_readsAll_5 (Or.inl rfl)
theorem dX8_readsAll_6 : decode cX8_readsAll 6 = .ok (.ifCond .ne 7, 3) := by decide +kernel
theorem rX8_readsAll_6 {R : zP} {x0 x1 x2 x3 x4 : Option zV} {st : List zV} {M : zM} {a : Int} : uX8_readsAll R 6 [x0, x1, x2, x3, x4] (.inl a :: st) M ↔ (zIR a ∧ if a ≠ 0 then uX8_readsAll R 13 [x0, x1, x2, x3, x4] st M else uX8_readsAll R 9 [x0, x1, x2, x3, x4] st M) := Iff.trans (zU_step dX8_readsAll_6 (Or.inl rfl)) ⟨fun h => ⟨h.1.1, (zite (c := a ≠ 0)).mpr h.2⟩, fun h => ⟨⟨h.1, by decide⟩, (zite (c := a ≠ 0)).mp h.2⟩⟩
theorem dX8_readsAll_9 : decode cX8_readsAll 9 = .ok (.iconst 0, 1) := by decide +kernel
theorem rX8_readsAll_9 {R : zP} {x0 x1 x2 x3 x4 : Option zV} {st : List zV} {M : zM} : uX8_readsAll R 9 [x0, x1, x2, x3, x4] st M ↔ uX8_readsAll R 10 [x0, x1, x2, x3, x4] (.inl (0) :: st) M := zU_step dX8_readsAll_9 (Or.inl rfl)
theorem dX8_readsAll_10 : decode cX8_readsAll 10 = .ok (.goto 7, 3) := by decide +kernel
theorem rX8_readsAll_10 {R : zP} {x0 x1 x2 x3 x4 : Option zV} {st : List zV} {M : zM} : uX8_readsAll R 10 [x0, x1, x2, x3, x4] st M ↔ uX8_readsAll R 17 [x0, x1, x2, x3, x4] st M := Iff.trans (zU_step dX8_readsAll_10 (Or.inl rfl)) ⟨fun h => h.2, fun h => ⟨by decide, h⟩⟩
theorem dX8_readsAll_13 : decode cX8_readsAll 13 = .ok (.aload_n 0, 1) := by decide +kernel
theorem rX8_readsAll_13 {R : zP} {x1 x2 x3 x4 : Option zV} {st : List zV} {M : zM} {a : Nat} : uX8_readsAll R 13 [some (.inr (.inr a)), x1, x2, x3, x4] st M ↔ uX8_readsAll R 14 [some (.inr (.inr a)), x1, x2, x3, x4] (.inr (.inr a) :: st) M := zU_step dX8_readsAll_13 (Or.inl rfl)
theorem dX8_readsAll_14 : decode cX8_readsAll 14 = .ok (.getfield 127, 3) := by decide +kernel
theorem rX8_readsAll_14 {R : zP} {x0 x1 x2 x3 x4 : Option zV} {st : List zV} {M : zM} {r : Nat} : uX8_readsAll R 14 [x0, x1, x2, x3, x4] (.inr (.inr r) :: st) M ↔ zgetx fX8 127 r M (fun v => uX8_readsAll R 17 [x0, x1, x2, x3, x4] (v :: st) M) := zU_step dX8_readsAll_14 (Or.inl rfl)
theorem dX8_readsAll_17 : decode cX8_readsAll 17 = .ok (.putfield 127, 3) := by decide +kernel
theorem rX8_readsAll_17 {R : zP} {x0 x1 x2 x3 x4 : Option zV} {st : List zV} {M : zM} {r : Nat} {v : zV} : uX8_readsAll R 17 [x0, x1, x2, x3, x4] (v :: .inr (.inr r) :: st) M ↔ zputx fX8 127 r M v (fun M => uX8_readsAll R 20 [x0, x1, x2, x3, x4] st M) := zU_step dX8_readsAll_17 (Or.inl rfl)
theorem dX8_readsAll_20 : decode cX8_readsAll 20 = .ok (.aload_n 0, 1) := by decide +kernel
theorem rX8_readsAll_20 {R : zP} {x1 x2 x3 x4 : Option zV} {st : List zV} {M : zM} {a : Nat} : uX8_readsAll R 20 [some (.inr (.inr a)), x1, x2, x3, x4] st M ↔ uX8_readsAll R 21 [some (.inr (.inr a)), x1, x2, x3, x4] (.inr (.inr a) :: st) M := zU_step dX8_readsAll_20 (Or.inl rfl)
theorem dX8_readsAll_21 : decode cX8_readsAll 21 = .ok (.iload_n 1, 1) := by decide +kernel
theorem rX8_readsAll_21 {R : zP} {x0 x2 x3 x4 : Option zV} {st : List zV} {M : zM} {a : Int} : uX8_readsAll R 21 [x0, some (.inl a), x2, x3, x4] st M ↔ uX8_readsAll R 22 [x0, some (.inl a), x2, x3, x4] (.inl a :: st) M := zU_step dX8_readsAll_21 (Or.inl rfl)
theorem dX8_readsAll_22 : decode cX8_readsAll 22 = .ok (.iconst 1, 1) := by decide +kernel
theorem rX8_readsAll_22 {R : zP} {x0 x1 x2 x3 x4 : Option zV} {st : List zV} {M : zM} : uX8_readsAll R 22 [x0, x1, x2, x3, x4] st M ↔ uX8_readsAll R 23 [x0, x1, x2, x3, x4] (.inl (1) :: st) M := zU_step dX8_readsAll_22 (Or.inl rfl)
theorem dX8_readsAll_23 : decode cX8_readsAll 23 = .ok (.if_icmp .ne 7, 3) := by decide +kernel
theorem rX8_readsAll_23 {R : zP} {x0 x1 x2 x3 x4 : Option zV} {st : List zV} {M : zM} {a b : Int} : uX8_readsAll R 23 [x0, x1, x2, x3, x4] (.inl b :: .inl a :: st) M ↔ ((zIR a ∧ zIR b) ∧ if a ≠ b then uX8_readsAll R 30 [x0, x1, x2, x3, x4] st M else uX8_readsAll R 26 [x0, x1, x2, x3, x4] st M) := Iff.trans (zU_step dX8_readsAll_23 (Or.inl rfl)) ⟨fun h => ⟨⟨h.1.1, h.1.2.1⟩, (zite (c := a ≠ b)).mpr h.2⟩, fun h => ⟨⟨h.1.1, h.1.2, by decide⟩, (zite (c := a ≠ b)).mp h.2⟩⟩
theorem dX8_readsAll_26 : decode cX8_readsAll 26 = .ok (.iconst 0, 1) := by decide +kernel
theorem rX8_readsAll_26 {R : zP} {x0 x1 x2 x3 x4 : Option zV} {st : List zV} {M : zM} : uX8_readsAll R 26 [x0, x1, x2, x3, x4] st M ↔ uX8_readsAll R 27 [x0, x1, x2, x3, x4] (.inl (0) :: st) M := zU_step dX8_readsAll_26 (Or.inl rfl)
theorem dX8_readsAll_27 : decode cX8_readsAll 27 = .ok (.goto 7, 3) := by decide +kernel
theorem rX8_readsAll_27 {R : zP} {x0 x1 x2 x3 x4 : Option zV} {st : List zV} {M : zM} : uX8_readsAll R 27 [x0, x1, x2, x3, x4] st M ↔ uX8_readsAll R 34 [x0, x1, x2, x3, x4] st M := Iff.trans (zU_step dX8_readsAll_27 (Or.inl rfl)) ⟨fun h => h.2, fun h => ⟨by decide, h⟩⟩
theorem dX8_readsAll_30 : decode cX8_readsAll 30 = .ok (.aload_n 0, 1) := by decide +kernel
theorem rX8_readsAll_30 {R : zP} {x1 x2 x3 x4 : Option zV} {st : List zV} {M : zM} {a : Nat} : uX8_readsAll R 30 [some (.inr (.inr a)), x1, x2, x3, x4] st M ↔ uX8_readsAll R 31 [some (.inr (.inr a)), x1, x2, x3, x4] (.inr (.inr a) :: st) M := zU_step dX8_readsAll_30 (Or.inl rfl)
theorem dX8_readsAll_31 : decode cX8_readsAll 31 = .ok (.getfield 131, 3) := by decide +kernel
theorem rX8_readsAll_31 {R : zP} {x0 x1 x2 x3 x4 : Option zV} {st : List zV} {M : zM} {r : Nat} : uX8_readsAll R 31 [x0, x1, x2, x3, x4] (.inr (.inr r) :: st) M ↔ zgetx fX8 131 r M (fun v => uX8_readsAll R 34 [x0, x1, x2, x3, x4] (v :: st) M) := zU_step dX8_readsAll_31 (Or.inl rfl)
theorem dX8_readsAll_34 : decode cX8_readsAll 34 = .ok (.putfield 131, 3) := by decide +kernel
theorem rX8_readsAll_34 {R : zP} {x0 x1 x2 x3 x4 : Option zV} {st : List zV} {M : zM} {r : Nat} {v : zV} : uX8_readsAll R 34 [x0, x1, x2, x3, x4] (v :: .inr (.inr r) :: st) M ↔ zputx fX8 131 r M v (fun M => uX8_readsAll R 37 [x0, x1, x2, x3, x4] st M) := zU_step dX8_readsAll_34 (Or.inl rfl)
theorem dX8_readsAll_37 : decode cX8_readsAll 37 = .ok (.iload_n 3, 1) := by decide +kernel
theorem rX8_readsAll_37 {R : zP} {x0 x1 x2 x4 : Option zV} {st : List zV} {M : zM} {a : Int} : uX8_readsAll R 37 [x0, x1, x2, some (.inl a), x4] st M ↔ uX8_readsAll R 38 [x0, x1, x2, some (.inl a), x4] (.inl a :: st) M := zU_step dX8_readsAll_37 (Or.inl rfl)
theorem dX8_readsAll_38 : decode cX8_readsAll 38 = .ok (.aload_n 0, 1) := by decide +kernel
theorem rX8_readsAll_38 {R : zP} {x1 x2 x3 x4 : Option zV} {st : List zV} {M : zM} {a : Nat} : uX8_readsAll R 38 [some (.inr (.inr a)), x1, x2, x3, x4] st M ↔ uX8_readsAll R 39 [some (.inr (.inr a)), x1, x2, x3, x4] (.inr (.inr a) :: st) M := zU_step dX8_readsAll_38 (Or.inl rfl)
theorem dX8_readsAll_39 : decode cX8_readsAll 39 = .ok (.getfield 7, 3) := by decide +kernel
theorem rX8_readsAll_39 {R : zP} {x0 x1 x2 x3 x4 : Option zV} {st : List zV} {M : zM} {r : Nat} : uX8_readsAll R 39 [x0, x1, x2, x3, x4] (.inr (.inr r) :: st) M ↔ zgetx fX8 7 r M (fun v => uX8_readsAll R 42 [x0, x1, x2, x3, x4] (v :: st) M) := zU_step dX8_readsAll_39 (Or.inl rfl)
theorem dX8_readsAll_42 : decode cX8_readsAll 42 = .ok (.iload_n 1, 1) := by decide +kernel
theorem rX8_readsAll_42 {R : zP} {x0 x2 x3 x4 : Option zV} {st : List zV} {M : zM} {a : Int} : uX8_readsAll R 42 [x0, some (.inl a), x2, x3, x4] st M ↔ uX8_readsAll R 43 [x0, some (.inl a), x2, x3, x4] (.inl a :: st) M := zU_step dX8_readsAll_42 (Or.inl rfl)
theorem dX8_readsAll_43 : decode cX8_readsAll 43 = .ok (.iaload, 1) := by decide +kernel
theorem rX8_readsAll_43 {R : zP} {x0 x1 x2 x3 x4 : Option zV} {st : List zV} {M : zM} {i : Int} {r : Nat} : uX8_readsAll R 43 [x0, x1, x2, x3, x4] (.inl i :: .inr (.inr r) :: st) M ↔ zread fX8 0 r M i (fun v => uX8_readsAll R 44 [x0, x1, x2, x3, x4] (.inl v :: st) M) := zU_step dX8_readsAll_43 (Or.inl rfl)
theorem dX8_readsAll_44 : decode cX8_readsAll 44 = .ok (.if_icmp .lt 7, 3) := by decide +kernel
theorem rX8_readsAll_44 {R : zP} {x0 x1 x2 x3 x4 : Option zV} {st : List zV} {M : zM} {a b : Int} : uX8_readsAll R 44 [x0, x1, x2, x3, x4] (.inl b :: .inl a :: st) M ↔ ((zIR a ∧ zIR b) ∧ if a < b then uX8_readsAll R 51 [x0, x1, x2, x3, x4] st M else uX8_readsAll R 47 [x0, x1, x2, x3, x4] st M) := Iff.trans (zU_step dX8_readsAll_44 (Or.inl rfl)) ⟨fun h => ⟨⟨h.1.1, h.1.2.1⟩, (zite (c := a < b)).mpr h.2⟩, fun h => ⟨⟨h.1.1, h.1.2, by decide⟩, (zite (c := a < b)).mp h.2⟩⟩
theorem dX8_readsAll_47 : decode cX8_readsAll 47 = .ok (.iload_n 3, 1) := by decide +kernel
theorem rX8_readsAll_47 {R : zP} {x0 x1 x2 x4 : Option zV} {st : List zV} {M : zM} {a : Int} : uX8_readsAll R 47 [x0, x1, x2, some (.inl a), x4] st M ↔ uX8_readsAll R 48 [x0, x1, x2, some (.inl a), x4] (.inl a :: st) M := zU_step dX8_readsAll_47 (Or.inl rfl)
theorem dX8_readsAll_48 : decode cX8_readsAll 48 = .ok (.ifCond .le 93, 3) := by decide +kernel
theorem rX8_readsAll_48 {R : zP} {x0 x1 x2 x3 x4 : Option zV} {st : List zV} {M : zM} {a : Int} : uX8_readsAll R 48 [x0, x1, x2, x3, x4] (.inl a :: st) M ↔ (zIR a ∧ if a ≤ 0 then uX8_readsAll R 141 [x0, x1, x2, x3, x4] st M else uX8_readsAll R 51 [x0, x1, x2, x3, x4] st M) := Iff.trans (zU_step dX8_readsAll_48 (Or.inl rfl)) ⟨fun h => ⟨h.1.1, (zite (c := a ≤ 0)).mpr h.2⟩, fun h => ⟨⟨h.1, by decide⟩, (zite (c := a ≤ 0)).mp h.2⟩⟩
theorem dX8_readsAll_51 : decode cX8_readsAll 51 = .ok (.aload_n 0, 1) := by decide +kernel
theorem rX8_readsAll_51 {R : zP} {x1 x2 x3 x4 : Option zV} {st : List zV} {M : zM} {a : Nat} : uX8_readsAll R 51 [some (.inr (.inr a)), x1, x2, x3, x4] st M ↔ uX8_readsAll R 52 [some (.inr (.inr a)), x1, x2, x3, x4] (.inr (.inr a) :: st) M := zU_step dX8_readsAll_51 (Or.inl rfl)
theorem dX8_readsAll_52 : decode cX8_readsAll 52 = .ok (.iload_n 1, 1) := by decide +kernel
theorem rX8_readsAll_52 {R : zP} {x0 x2 x3 x4 : Option zV} {st : List zV} {M : zM} {a : Int} : uX8_readsAll R 52 [x0, some (.inl a), x2, x3, x4] st M ↔ uX8_readsAll R 53 [x0, some (.inl a), x2, x3, x4] (.inl a :: st) M := zU_step dX8_readsAll_52 (Or.inl rfl)
theorem dX8_readsAll_53 : decode cX8_readsAll 53 = .ok (.iload_n 2, 1) := by decide +kernel
theorem rX8_readsAll_53 {R : zP} {x0 x1 x3 x4 : Option zV} {st : List zV} {M : zM} {a : Int} : uX8_readsAll R 53 [x0, x1, some (.inl a), x3, x4] st M ↔ uX8_readsAll R 54 [x0, x1, some (.inl a), x3, x4] (.inl a :: st) M := zU_step dX8_readsAll_53 (Or.inl rfl)
theorem dX8_readsAll_54 : decode cX8_readsAll 54 = .ok (.iload_n 3, 1) := by decide +kernel
theorem rX8_readsAll_54 {R : zP} {x0 x1 x2 x4 : Option zV} {st : List zV} {M : zM} {a : Int} : uX8_readsAll R 54 [x0, x1, x2, some (.inl a), x4] st M ↔ uX8_readsAll R 55 [x0, x1, x2, some (.inl a), x4] (.inl a :: st) M := zU_step dX8_readsAll_54 (Or.inl rfl)
theorem dX8_readsAll_55 : decode cX8_readsAll 55 = .ok (.invokevirtual 134, 3) := by decide +kernel
theorem rX8_readsAll_55 {R : zP} {x0 x1 x2 x3 x4 : Option zV} {st : List zV} {M : zM} {a0 a1 a2 a3 : zV} : uX8_readsAll R 55 [x0, x1, x2, x3, x4] (a3 :: a2 :: a1 :: a0 :: st) M ↔ (st.length ≤ 4 ∧ zcv (zv 8 tX8_readsOne) [a0, a1, a2, a3] M (fun v M => uX8_readsAll R 58 [x0, x1, x2, x3, x4] (v :: st) M)) := Iff.trans (zU_step dX8_readsAll_55 (Or.inl rfl)) ⟨fun h => ⟨h.2.1, zcv_of h.2.2⟩, fun h => ⟨rfl, h.1, zcv_to h.2⟩⟩
theorem dX8_readsAll_58 : decode cX8_readsAll 58 = .ok (.istore 4, 2) := by decide +kernel
theorem rX8_readsAll_58 {R : zP} {x0 x1 x2 x4 : Option zV} {st : List zV} {M : zM} {a : Int} {y : Int} : uX8_readsAll R 58 [x0, x1, x2, some (.inl y), x4] (.inl a :: st) M ↔ uX8_readsAll R 60 [x0, x1, x2, some (.inl y), some (.inl a)] st M := Iff.trans (zU_step dX8_readsAll_58 (Or.inl rfl)) ⟨fun h => h.2, fun h => ⟨show 4 < 5 by decide, h⟩⟩
theorem rX8_readsAll_58z {R : zP} {x0 x1 x2 x3 x4 : Option zV} {st : List zV} {M : zM} {a : Int} : uX8_readsAll R 58 [x0, x1, x2, x3, x4] (.inl a :: st) M ↔ uX8_readsAll R 60 [x0, x1, x2, zkeep x3, some (.inl a)] st M := Iff.trans (zU_step dX8_readsAll_58 (Or.inl rfl)) ⟨fun h => h.2, fun h => ⟨show 4 < 5 by decide, h⟩⟩
theorem dX8_readsAll_60 : decode cX8_readsAll 60 = .ok (.iload 4, 2) := by decide +kernel
theorem rX8_readsAll_60 {R : zP} {x0 x1 x2 x3 : Option zV} {st : List zV} {M : zM} {a : Int} : uX8_readsAll R 60 [x0, x1, x2, x3, some (.inl a)] st M ↔ uX8_readsAll R 62 [x0, x1, x2, x3, some (.inl a)] (.inl a :: st) M := zU_step dX8_readsAll_60 (Or.inl rfl)
theorem dX8_readsAll_62 : decode cX8_readsAll 62 = .ok (.iconst 5, 1) := by decide +kernel
theorem rX8_readsAll_62 {R : zP} {x0 x1 x2 x3 x4 : Option zV} {st : List zV} {M : zM} : uX8_readsAll R 62 [x0, x1, x2, x3, x4] st M ↔ uX8_readsAll R 63 [x0, x1, x2, x3, x4] (.inl (5) :: st) M := zU_step dX8_readsAll_62 (Or.inl rfl)
theorem dX8_readsAll_63 : decode cX8_readsAll 63 = .ok (.if_icmp .ge 8, 3) := by decide +kernel
theorem rX8_readsAll_63 {R : zP} {x0 x1 x2 x3 x4 : Option zV} {st : List zV} {M : zM} {a b : Int} : uX8_readsAll R 63 [x0, x1, x2, x3, x4] (.inl b :: .inl a :: st) M ↔ ((zIR a ∧ zIR b) ∧ if b ≤ a then uX8_readsAll R 71 [x0, x1, x2, x3, x4] st M else uX8_readsAll R 66 [x0, x1, x2, x3, x4] st M) := Iff.trans (zU_step dX8_readsAll_63 (Or.inl rfl)) ⟨fun h => ⟨⟨h.1.1, h.1.2.1⟩, (zite (c := b ≤ a)).mpr h.2⟩, fun h => ⟨⟨h.1.1, h.1.2, by decide⟩, (zite (c := b ≤ a)).mp h.2⟩⟩
theorem dX8_readsAll_66 : decode cX8_readsAll 66 = .ok (.iload_n 3, 1) := by decide +kernel
theorem rX8_readsAll_66 {R : zP} {x0 x1 x2 x4 : Option zV} {st : List zV} {M : zM} {a : Int} : uX8_readsAll R 66 [x0, x1, x2, some (.inl a), x4] st M ↔ uX8_readsAll R 67 [x0, x1, x2, some (.inl a), x4] (.inl a :: st) M := zU_step dX8_readsAll_66 (Or.inl rfl)
theorem dX8_readsAll_67 : decode cX8_readsAll 67 = .ok (.iload 4, 2) := by decide +kernel
theorem rX8_readsAll_67 {R : zP} {x0 x1 x2 x3 : Option zV} {st : List zV} {M : zM} {a : Int} : uX8_readsAll R 67 [x0, x1, x2, x3, some (.inl a)] st M ↔ uX8_readsAll R 69 [x0, x1, x2, x3, some (.inl a)] (.inl a :: st) M := zU_step dX8_readsAll_67 (Or.inl rfl)
theorem dX8_readsAll_69 : decode cX8_readsAll 69 = .ok (.iadd, 1) := by decide +kernel
theorem rX8_readsAll_69 {R : zP} {x0 x1 x2 x3 x4 : Option zV} {st : List zV} {M : zM} {a b : Int} : uX8_readsAll R 69 [x0, x1, x2, x3, x4] (.inl b :: .inl a :: st) M ↔ uX8_readsAll R 70 [x0, x1, x2, x3, x4] (.inl (a + b) :: st) M := zU_step dX8_readsAll_69 (Or.inl rfl)
theorem dX8_readsAll_70 : decode cX8_readsAll 70 = .ok (.ireturn, 1) := by decide +kernel
theorem rX8_readsAll_70 {R : zP} {x0 x1 x2 x3 x4 : Option zV} {M : zM} {a : Int} : uX8_readsAll R 70 [x0, x1, x2, x3, x4] [.inl a] M ↔ R (some (.inl a)) M := Iff.trans (zU_step dX8_readsAll_70 (Or.inl rfl)) ⟨fun h => h.2.2, fun h => ⟨rfl, Or.inl rfl, h⟩⟩
theorem dX8_readsAll_71 : decode cX8_readsAll 71 = .ok (.iinc 2 1, 3) := by decide +kernel
theorem rX8_readsAll_71 {R : zP} {x0 x3 x4 : Option zV} {st : List zV} {M : zM} {a : Int} {y : Int} : uX8_readsAll R 71 [x0, some (.inl y), some (.inl a), x3, x4] st M ↔ uX8_readsAll R 74 [x0, some (.inl y), some (.inl (a + (1))), x3, x4] st M := Iff.trans (zU_step dX8_readsAll_71 (Or.inl rfl)) ⟨fun h => h.2, fun h => ⟨show 2 < 5 by decide, h⟩⟩
theorem rX8_readsAll_71z {R : zP} {x0 x1 x3 x4 : Option zV} {st : List zV} {M : zM} {a : Int} : uX8_readsAll R 71 [x0, x1, some (.inl a), x3, x4] st M ↔ uX8_readsAll R 74 [x0, zkeep x1, some (.inl (a + (1))), x3, x4] st M := Iff.trans (zU_step dX8_readsAll_71 (Or.inl rfl)) ⟨fun h => h.2, fun h => ⟨show 2 < 5 by decide, h⟩⟩
theorem dX8_readsAll_74 : decode cX8_readsAll 74 = .ok (.iinc 3 5, 3) := by decide +kernel
theorem rX8_readsAll_74 {R : zP} {x0 x1 x4 : Option zV} {st : List zV} {M : zM} {a : Int} {y : Int} : uX8_readsAll R 74 [x0, x1, some (.inl y), some (.inl a), x4] st M ↔ uX8_readsAll R 77 [x0, x1, some (.inl y), some (.inl (a + (5))), x4] st M := Iff.trans (zU_step dX8_readsAll_74 (Or.inl rfl)) ⟨fun h => h.2, fun h => ⟨show 3 < 5 by decide, h⟩⟩
theorem rX8_readsAll_74z {R : zP} {x0 x1 x2 x4 : Option zV} {st : List zV} {M : zM} {a : Int} : uX8_readsAll R 74 [x0, x1, x2, some (.inl a), x4] st M ↔ uX8_readsAll R 77 [x0, x1, zkeep x2, some (.inl (a + (5))), x4] st M := Iff.trans (zU_step dX8_readsAll_74 (Or.inl rfl)) ⟨fun h => h.2, fun h => ⟨show 3 < 5 by decide, h⟩⟩
theorem dX8_readsAll_77 : decode cX8_readsAll 77 = .ok (.iload_n 3, 1) := by decide +kernel
theorem rX8_readsAll_77 {R : zP} {x0 x1 x2 x4 : Option zV} {st : List zV} {M : zM} {a : Int} : uX8_readsAll R 77 [x0, x1, x2, some (.inl a), x4] st M ↔ uX8_readsAll R 78 [x0, x1, x2, some (.inl a), x4] (.inl a :: st) M := zU_step dX8_readsAll_77 (Or.inl rfl)
theorem dX8_readsAll_78 : decode cX8_readsAll 78 = .ok (.aload_n 0, 1) := by decide +kernel
theorem rX8_readsAll_78 {R : zP} {x1 x2 x3 x4 : Option zV} {st : List zV} {M : zM} {a : Nat} : uX8_readsAll R 78 [some (.inr (.inr a)), x1, x2, x3, x4] st M ↔ uX8_readsAll R 79 [some (.inr (.inr a)), x1, x2, x3, x4] (.inr (.inr a) :: st) M := zU_step dX8_readsAll_78 (Or.inl rfl)
theorem dX8_readsAll_79 : decode cX8_readsAll 79 = .ok (.getfield 7, 3) := by decide +kernel
theorem rX8_readsAll_79 {R : zP} {x0 x1 x2 x3 x4 : Option zV} {st : List zV} {M : zM} {r : Nat} : uX8_readsAll R 79 [x0, x1, x2, x3, x4] (.inr (.inr r) :: st) M ↔ zgetx fX8 7 r M (fun v => uX8_readsAll R 82 [x0, x1, x2, x3, x4] (v :: st) M) := zU_step dX8_readsAll_79 (Or.inl rfl)
theorem dX8_readsAll_82 : decode cX8_readsAll 82 = .ok (.iload_n 1, 1) := by decide +kernel
theorem rX8_readsAll_82 {R : zP} {x0 x2 x3 x4 : Option zV} {st : List zV} {M : zM} {a : Int} : uX8_readsAll R 82 [x0, some (.inl a), x2, x3, x4] st M ↔ uX8_readsAll R 83 [x0, some (.inl a), x2, x3, x4] (.inl a :: st) M := zU_step dX8_readsAll_82 (Or.inl rfl)
theorem dX8_readsAll_83 : decode cX8_readsAll 83 = .ok (.iaload, 1) := by decide +kernel
theorem rX8_readsAll_83 {R : zP} {x0 x1 x2 x3 x4 : Option zV} {st : List zV} {M : zM} {i : Int} {r : Nat} : uX8_readsAll R 83 [x0, x1, x2, x3, x4] (.inl i :: .inr (.inr r) :: st) M ↔ zread fX8 0 r M i (fun v => uX8_readsAll R 84 [x0, x1, x2, x3, x4] (.inl v :: st) M) := zU_step dX8_readsAll_83 (Or.inl rfl)
theorem dX8_readsAll_84 : decode cX8_readsAll 84 = .ok (.if_icmp .ne 38, 3) := by decide +kernel
theorem rX8_readsAll_84 {R : zP} {x0 x1 x2 x3 x4 : Option zV} {st : List zV} {M : zM} {a b : Int} : uX8_readsAll R 84 [x0, x1, x2, x3, x4] (.inl b :: .inl a :: st) M ↔ ((zIR a ∧ zIR b) ∧ if a ≠ b then uX8_readsAll R 122 [x0, x1, x2, x3, x4] st M else uX8_readsAll R 87 [x0, x1, x2, x3, x4] st M) := Iff.trans (zU_step dX8_readsAll_84 (Or.inl rfl)) ⟨fun h => ⟨⟨h.1.1, h.1.2.1⟩, (zite (c := a ≠ b)).mpr h.2⟩, fun h => ⟨⟨h.1.1, h.1.2, by decide⟩, (zite (c := a ≠ b)).mp h.2⟩⟩
theorem dX8_readsAll_87 : decode cX8_readsAll 87 = .ok (.aload_n 0, 1) := by decide +kernel
theorem rX8_readsAll_87 {R : zP} {x1 x2 x3 x4 : Option zV} {st : List zV} {M : zM} {a : Nat} : uX8_readsAll R 87 [some (.inr (.inr a)), x1, x2, x3, x4] st M ↔ uX8_readsAll R 88 [some (.inr (.inr a)), x1, x2, x3, x4] (.inr (.inr a) :: st) M := zU_step dX8_readsAll_87 (Or.inl rfl)
theorem dX8_readsAll_88 : decode cX8_readsAll 88 = .ok (.iload_n 1, 1) := by decide +kernel
theorem rX8_readsAll_88 {R : zP} {x0 x2 x3 x4 : Option zV} {st : List zV} {M : zM} {a : Int} : uX8_readsAll R 88 [x0, some (.inl a), x2, x3, x4] st M ↔ uX8_readsAll R 89 [x0, some (.inl a), x2, x3, x4] (.inl a :: st) M := zU_step dX8_readsAll_88 (Or.inl rfl)
theorem dX8_readsAll_89 : decode cX8_readsAll 89 = .ok (.ifCond .ne 7, 3) := by decide +kernel
theorem rX8_readsAll_89 {R : zP} {x0 x1 x2 x3 x4 : Option zV} {st : List zV} {M : zM} {a : Int} : uX8_readsAll R 89 [x0, x1, x2, x3, x4] (.inl a :: st) M ↔ (zIR a ∧ if a ≠ 0 then uX8_readsAll R 96 [x0, x1, x2, x3, x4] st M else uX8_readsAll R 92 [x0, x1, x2, x3, x4] st M) := Iff.trans (zU_step dX8_readsAll_89 (Or.inl rfl)) ⟨fun h => ⟨h.1.1, (zite (c := a ≠ 0)).mpr h.2⟩, fun h => ⟨⟨h.1, by decide⟩, (zite (c := a ≠ 0)).mp h.2⟩⟩
theorem dX8_readsAll_92 : decode cX8_readsAll 92 = .ok (.iload_n 2, 1) := by decide +kernel
theorem rX8_readsAll_92 {R : zP} {x0 x1 x3 x4 : Option zV} {st : List zV} {M : zM} {a : Int} : uX8_readsAll R 92 [x0, x1, some (.inl a), x3, x4] st M ↔ uX8_readsAll R 93 [x0, x1, some (.inl a), x3, x4] (.inl a :: st) M := zU_step dX8_readsAll_92 (Or.inl rfl)
theorem dX8_readsAll_93 : decode cX8_readsAll 93 = .ok (.goto 7, 3) := by decide +kernel
theorem rX8_readsAll_93 {R : zP} {x0 x1 x2 x3 x4 : Option zV} {st : List zV} {M : zM} : uX8_readsAll R 93 [x0, x1, x2, x3, x4] st M ↔ uX8_readsAll R 100 [x0, x1, x2, x3, x4] st M := Iff.trans (zU_step dX8_readsAll_93 (Or.inl rfl)) ⟨fun h => h.2, fun h => ⟨by decide, h⟩⟩
theorem dX8_readsAll_96 : decode cX8_readsAll 96 = .ok (.aload_n 0, 1) := by decide +kernel
theorem rX8_readsAll_96 {R : zP} {x1 x2 x3 x4 : Option zV} {st : List zV} {M : zM} {a : Nat} : uX8_readsAll R 96 [some (.inr (.inr a)), x1, x2, x3, x4] st M ↔ uX8_readsAll R 97 [some (.inr (.inr a)), x1, x2, x3, x4] (.inr (.inr a) :: st) M := zU_step dX8_readsAll_96 (Or.inl rfl)
theorem dX8_readsAll_97 : decode cX8_readsAll 97 = .ok (.getfield 127, 3) := by decide +kernel
theorem rX8_readsAll_97 {R : zP} {x0 x1 x2 x3 x4 : Option zV} {st : List zV} {M : zM} {r : Nat} : uX8_readsAll R 97 [x0, x1, x2, x3, x4] (.inr (.inr r) :: st) M ↔ zgetx fX8 127 r M (fun v => uX8_readsAll R 100 [x0, x1, x2, x3, x4] (v :: st) M) := zU_step dX8_readsAll_97 (Or.inl rfl)
theorem dX8_readsAll_100 : decode cX8_readsAll 100 = .ok (.putfield 127, 3) := by decide +kernel
theorem rX8_readsAll_100 {R : zP} {x0 x1 x2 x3 x4 : Option zV} {st : List zV} {M : zM} {r : Nat} {v : zV} : uX8_readsAll R 100 [x0, x1, x2, x3, x4] (v :: .inr (.inr r) :: st) M ↔ zputx fX8 127 r M v (fun M => uX8_readsAll R 103 [x0, x1, x2, x3, x4] st M) := zU_step dX8_readsAll_100 (Or.inl rfl)
theorem dX8_readsAll_103 : decode cX8_readsAll 103 = .ok (.aload_n 0, 1) := by decide +kernel
theorem rX8_readsAll_103 {R : zP} {x1 x2 x3 x4 : Option zV} {st : List zV} {M : zM} {a : Nat} : uX8_readsAll R 103 [some (.inr (.inr a)), x1, x2, x3, x4] st M ↔ uX8_readsAll R 104 [some (.inr (.inr a)), x1, x2, x3, x4] (.inr (.inr a) :: st) M := zU_step dX8_readsAll_103 (Or.inl rfl)
theorem dX8_readsAll_104 : decode cX8_readsAll 104 = .ok (.iload_n 1, 1) := by decide +kernel
theorem rX8_readsAll_104 {R : zP} {x0 x2 x3 x4 : Option zV} {st : List zV} {M : zM} {a : Int} : uX8_readsAll R 104 [x0, some (.inl a), x2, x3, x4] st M ↔ uX8_readsAll R 105 [x0, some (.inl a), x2, x3, x4] (.inl a :: st) M := zU_step dX8_readsAll_104 (Or.inl rfl)
theorem dX8_readsAll_105 : decode cX8_readsAll 105 = .ok (.iconst 1, 1) := by decide +kernel
theorem rX8_readsAll_105 {R : zP} {x0 x1 x2 x3 x4 : Option zV} {st : List zV} {M : zM} : uX8_readsAll R 105 [x0, x1, x2, x3, x4] st M ↔ uX8_readsAll R 106 [x0, x1, x2, x3, x4] (.inl (1) :: st) M := zU_step dX8_readsAll_105 (Or.inl rfl)
theorem dX8_readsAll_106 : decode cX8_readsAll 106 = .ok (.if_icmp .ne 7, 3) := by decide +kernel
theorem rX8_readsAll_106 {R : zP} {x0 x1 x2 x3 x4 : Option zV} {st : List zV} {M : zM} {a b : Int} : uX8_readsAll R 106 [x0, x1, x2, x3, x4] (.inl b :: .inl a :: st) M ↔ ((zIR a ∧ zIR b) ∧ if a ≠ b then uX8_readsAll R 113 [x0, x1, x2, x3, x4] st M else uX8_readsAll R 109 [x0, x1, x2, x3, x4] st M) := Iff.trans (zU_step dX8_readsAll_106 (Or.inl rfl)) ⟨fun h => ⟨⟨h.1.1, h.1.2.1⟩, (zite (c := a ≠ b)).mpr h.2⟩, fun h => ⟨⟨h.1.1, h.1.2, by decide⟩, (zite (c := a ≠ b)).mp h.2⟩⟩
theorem dX8_readsAll_109 : decode cX8_readsAll 109 = .ok (.iload_n 2, 1) := by decide +kernel
theorem rX8_readsAll_109 {R : zP} {x0 x1 x3 x4 : Option zV} {st : List zV} {M : zM} {a : Int} : uX8_readsAll R 109 [x0, x1, some (.inl a), x3, x4] st M ↔ uX8_readsAll R 110 [x0, x1, some (.inl a), x3, x4] (.inl a :: st) M := zU_step dX8_readsAll_109 (Or.inl rfl)
theorem dX8_readsAll_110 : decode cX8_readsAll 110 = .ok (.goto 7, 3) := by decide +kernel
theorem rX8_readsAll_110 {R : zP} {x0 x1 x2 x3 x4 : Option zV} {st : List zV} {M : zM} : uX8_readsAll R 110 [x0, x1, x2, x3, x4] st M ↔ uX8_readsAll R 117 [x0, x1, x2, x3, x4] st M := Iff.trans (zU_step dX8_readsAll_110 (Or.inl rfl)) ⟨fun h => h.2, fun h => ⟨by decide, h⟩⟩
theorem dX8_readsAll_113 : decode cX8_readsAll 113 = .ok (.aload_n 0, 1) := by decide +kernel
theorem rX8_readsAll_113 {R : zP} {x1 x2 x3 x4 : Option zV} {st : List zV} {M : zM} {a : Nat} : uX8_readsAll R 113 [some (.inr (.inr a)), x1, x2, x3, x4] st M ↔ uX8_readsAll R 114 [some (.inr (.inr a)), x1, x2, x3, x4] (.inr (.inr a) :: st) M := zU_step dX8_readsAll_113 (Or.inl rfl)
theorem dX8_readsAll_114 : decode cX8_readsAll 114 = .ok (.getfield 131, 3) := by decide +kernel
theorem rX8_readsAll_114 {R : zP} {x0 x1 x2 x3 x4 : Option zV} {st : List zV} {M : zM} {r : Nat} : uX8_readsAll R 114 [x0, x1, x2, x3, x4] (.inr (.inr r) :: st) M ↔ zgetx fX8 131 r M (fun v => uX8_readsAll R 117 [x0, x1, x2, x3, x4] (v :: st) M) := zU_step dX8_readsAll_114 (Or.inl rfl)
theorem dX8_readsAll_117 : decode cX8_readsAll 117 = .ok (.putfield 131, 3) := by decide +kernel
theorem rX8_readsAll_117 {R : zP} {x0 x1 x2 x3 x4 : Option zV} {st : List zV} {M : zM} {r : Nat} {v : zV} : uX8_readsAll R 117 [x0, x1, x2, x3, x4] (v :: .inr (.inr r) :: st) M ↔ zputx fX8 131 r M v (fun M => uX8_readsAll R 120 [x0, x1, x2, x3, x4] st M) := zU_step dX8_readsAll_117 (Or.inl rfl)
theorem dX8_readsAll_120 : decode cX8_readsAll 120 = .ok (.iconst (-1), 1) := by decide +kernel
theorem rX8_readsAll_120 {R : zP} {x0 x1 x2 x3 x4 : Option zV} {st : List zV} {M : zM} : uX8_readsAll R 120 [x0, x1, x2, x3, x4] st M ↔ uX8_readsAll R 121 [x0, x1, x2, x3, x4] (.inl (-1) :: st) M := zU_step dX8_readsAll_120 (Or.inl rfl)
theorem dX8_readsAll_121 : decode cX8_readsAll 121 = .ok (.ireturn, 1) := by decide +kernel
theorem rX8_readsAll_121 {R : zP} {x0 x1 x2 x3 x4 : Option zV} {M : zM} {a : Int} : uX8_readsAll R 121 [x0, x1, x2, x3, x4] [.inl a] M ↔ R (some (.inl a)) M := Iff.trans (zU_step dX8_readsAll_121 (Or.inl rfl)) ⟨fun h => h.2.2, fun h => ⟨rfl, Or.inl rfl, h⟩⟩
theorem dX8_readsAll_122 : decode cX8_readsAll 122 = .ok (.aload_n 0, 1) := by decide +kernel
theorem rX8_readsAll_122 {R : zP} {x1 x2 x3 x4 : Option zV} {st : List zV} {M : zM} {a : Nat} : uX8_readsAll R 122 [some (.inr (.inr a)), x1, x2, x3, x4] st M ↔ uX8_readsAll R 123 [some (.inr (.inr a)), x1, x2, x3, x4] (.inr (.inr a) :: st) M := zU_step dX8_readsAll_122 (Or.inl rfl)
theorem dX8_readsAll_123 : decode cX8_readsAll 123 = .ok (.iload_n 1, 1) := by decide +kernel
theorem rX8_readsAll_123 {R : zP} {x0 x2 x3 x4 : Option zV} {st : List zV} {M : zM} {a : Int} : uX8_readsAll R 123 [x0, some (.inl a), x2, x3, x4] st M ↔ uX8_readsAll R 124 [x0, some (.inl a), x2, x3, x4] (.inl a :: st) M := zU_step dX8_readsAll_123 (Or.inl rfl)
theorem dX8_readsAll_124 : decode cX8_readsAll 124 = .ok (.iload_n 3, 1) := by decide +kernel
theorem rX8_readsAll_124 {R : zP} {x0 x1 x2 x4 : Option zV} {st : List zV} {M : zM} {a : Int} : uX8_readsAll R 124 [x0, x1, x2, some (.inl a), x4] st M ↔ uX8_readsAll R 125 [x0, x1, x2, some (.inl a), x4] (.inl a :: st) M := zU_step dX8_readsAll_124 (Or.inl rfl)
theorem dX8_readsAll_125 : decode cX8_readsAll 125 = .ok (.invokevirtual 120, 3) := by decide +kernel
theorem rX8_readsAll_125 {R : zP} {x0 x1 x2 x3 x4 : Option zV} {st : List zV} {M : zM} {a0 a1 a2 : zV} : uX8_readsAll R 125 [x0, x1, x2, x3, x4] (a2 :: a1 :: a0 :: st) M ↔ (st.length ≤ 4 ∧ zcv (zv 8 tX8_byteAt) [a0, a1, a2] M (fun v M => uX8_readsAll R 128 [x0, x1, x2, x3, x4] (v :: st) M)) := Iff.trans (zU_step dX8_readsAll_125 (Or.inl rfl)) ⟨fun h => ⟨h.2.1, zcv_of h.2.2⟩, fun h => ⟨rfl, h.1, zcv_to h.2⟩⟩
theorem dX8_readsAll_128 : decode cX8_readsAll 128 = .ok (.bipush 59, 2) := by decide +kernel
theorem rX8_readsAll_128 {R : zP} {x0 x1 x2 x3 x4 : Option zV} {st : List zV} {M : zM} : uX8_readsAll R 128 [x0, x1, x2, x3, x4] st M ↔ uX8_readsAll R 130 [x0, x1, x2, x3, x4] (.inl (59) :: st) M := Iff.trans (zU_step dX8_readsAll_128 (Or.inl rfl)) ⟨fun h => h.2, fun h => ⟨by decide, h⟩⟩
theorem dX8_readsAll_130 : decode cX8_readsAll 130 = .ok (.if_icmp .eq 5, 3) := by decide +kernel
theorem rX8_readsAll_130 {R : zP} {x0 x1 x2 x3 x4 : Option zV} {st : List zV} {M : zM} {a b : Int} : uX8_readsAll R 130 [x0, x1, x2, x3, x4] (.inl b :: .inl a :: st) M ↔ ((zIR a ∧ zIR b) ∧ if a = b then uX8_readsAll R 135 [x0, x1, x2, x3, x4] st M else uX8_readsAll R 133 [x0, x1, x2, x3, x4] st M) := Iff.trans (zU_step dX8_readsAll_130 (Or.inl rfl)) ⟨fun h => ⟨⟨h.1.1, h.1.2.1⟩, (zite (c := a = b)).mpr h.2⟩, fun h => ⟨⟨h.1.1, h.1.2, by decide⟩, (zite (c := a = b)).mp h.2⟩⟩
theorem dX8_readsAll_133 : decode cX8_readsAll 133 = .ok (.iload_n 3, 1) := by decide +kernel
theorem rX8_readsAll_133 {R : zP} {x0 x1 x2 x4 : Option zV} {st : List zV} {M : zM} {a : Int} : uX8_readsAll R 133 [x0, x1, x2, some (.inl a), x4] st M ↔ uX8_readsAll R 134 [x0, x1, x2, some (.inl a), x4] (.inl a :: st) M := zU_step dX8_readsAll_133 (Or.inl rfl)
theorem dX8_readsAll_134 : decode cX8_readsAll 134 = .ok (.ireturn, 1) := by decide +kernel
theorem rX8_readsAll_134 {R : zP} {x0 x1 x2 x3 x4 : Option zV} {M : zM} {a : Int} : uX8_readsAll R 134 [x0, x1, x2, x3, x4] [.inl a] M ↔ R (some (.inl a)) M := Iff.trans (zU_step dX8_readsAll_134 (Or.inl rfl)) ⟨fun h => h.2.2, fun h => ⟨rfl, Or.inl rfl, h⟩⟩
theorem dX8_readsAll_135 : decode cX8_readsAll 135 = .ok (.iinc 3 1, 3) := by decide +kernel
theorem rX8_readsAll_135 {R : zP} {x0 x1 x4 : Option zV} {st : List zV} {M : zM} {a : Int} {y : Int} : uX8_readsAll R 135 [x0, x1, some (.inl y), some (.inl a), x4] st M ↔ uX8_readsAll R 138 [x0, x1, some (.inl y), some (.inl (a + (1))), x4] st M := Iff.trans (zU_step dX8_readsAll_135 (Or.inl rfl)) ⟨fun h => h.2, fun h => ⟨show 3 < 5 by decide, h⟩⟩
theorem rX8_readsAll_135z {R : zP} {x0 x1 x2 x4 : Option zV} {st : List zV} {M : zM} {a : Int} : uX8_readsAll R 135 [x0, x1, x2, some (.inl a), x4] st M ↔ uX8_readsAll R 138 [x0, x1, zkeep x2, some (.inl (a + (1))), x4] st M := Iff.trans (zU_step dX8_readsAll_135 (Or.inl rfl)) ⟨fun h => h.2, fun h => ⟨show 3 < 5 by decide, h⟩⟩
theorem dX8_readsAll_138 : decode cX8_readsAll 138 = .ok (.goto (-101), 3) := by decide +kernel
theorem rX8_readsAll_138 {R : zP} {x0 x1 x2 x3 x4 : Option zV} {st : List zV} {M : zM} : uX8_readsAll R 138 [x0, x1, x2, x3, x4] st M ↔ uX8_readsAll R 37 [x0, x1, x2, x3, x4] st M := Iff.trans (zU_step dX8_readsAll_138 (Or.inl rfl)) ⟨fun h => h.2, fun h => ⟨by decide, h⟩⟩
theorem dX8_readsAll_141 : decode cX8_readsAll 141 = .ok (.iconst (-1), 1) := by decide +kernel
theorem rX8_readsAll_141 {R : zP} {x0 x1 x2 x3 x4 : Option zV} {st : List zV} {M : zM} : uX8_readsAll R 141 [x0, x1, x2, x3, x4] st M ↔ uX8_readsAll R 142 [x0, x1, x2, x3, x4] (.inl (-1) :: st) M := zU_step dX8_readsAll_141 (Or.inl rfl)
theorem dX8_readsAll_142 : decode cX8_readsAll 142 = .ok (.ireturn, 1) := by decide +kernel
theorem rX8_readsAll_142 {R : zP} {x0 x1 x2 x3 x4 : Option zV} {M : zM} {a : Int} : uX8_readsAll R 142 [x0, x1, x2, x3, x4] [.inl a] M ↔ R (some (.inl a)) M := Iff.trans (zU_step dX8_readsAll_142 (Or.inl rfl)) ⟨fun h => h.2.2, fun h => ⟨rfl, Or.inl rfl, h⟩⟩
theorem eX8_readsAll {R : zP} {M : zM} {a0 : Nat} {p0 : Int} : tX8_readsAll [.inr (.inr a0), .inl p0] M R ↔ uX8_readsAll R 0 [some (.inr (.inr a0)), some (.inl p0), none, none, none] [] M := ⟨fun h => h.2, fun h => ⟨show 2 ≤ 5 by decide, h⟩⟩
def uX8_faultOf (R : zP) : zK := zU fX8 vX8_faultOf cX8_faultOf R
theorem dX8_faultOf_0 : decode cX8_faultOf 0 = .ok (.aload_n 0, 1) := by decide +kernel
theorem rX8_faultOf_0 {R : zP} {x1 x2 x3 : Option zV} {st : List zV} {M : zM} {a : Nat} : uX8_faultOf R 0 [some (.inr (.inr a)), x1, x2, x3] st M ↔ uX8_faultOf R 1 [some (.inr (.inr a)), x1, x2, x3] (.inr (.inr a) :: st) M := zU_step dX8_faultOf_0 (Or.inl rfl)
theorem dX8_faultOf_1 : decode cX8_faultOf 1 = .ok (.iconst 0, 1) := by decide +kernel
theorem rX8_faultOf_1 {R : zP} {x0 x1 x2 x3 : Option zV} {st : List zV} {M : zM} : uX8_faultOf R 1 [x0, x1, x2, x3] st M ↔ uX8_faultOf R 2 [x0, x1, x2, x3] (.inl (0) :: st) M := zU_step dX8_faultOf_1 (Or.inl rfl)
theorem dX8_faultOf_2 : decode cX8_faultOf 2 = .ok (.invokevirtual 138, 3) := by decide +kernel
theorem rX8_faultOf_2 {R : zP} {x0 x1 x2 x3 : Option zV} {st : List zV} {M : zM} {a0 a1 : zV} : uX8_faultOf R 2 [x0, x1, x2, x3] (a1 :: a0 :: st) M ↔ (st.length ≤ 4 ∧ zcv (zv 8 tX8_readsAll) [a0, a1] M (fun v M => uX8_faultOf R 5 [x0, x1, x2, x3] (v :: st) M)) := Iff.trans (zU_step dX8_faultOf_2 (Or.inl rfl)) ⟨fun h => ⟨h.2.1, zcv_of h.2.2⟩, fun h => ⟨rfl, h.1, zcv_to h.2⟩⟩
theorem dX8_faultOf_5 : decode cX8_faultOf 5 = .ok (.istore_n 2, 1) := by decide +kernel
theorem rX8_faultOf_5 {R : zP} {x0 x2 x3 : Option zV} {st : List zV} {M : zM} {a : Int} {y : Int} : uX8_faultOf R 5 [x0, some (.inl y), x2, x3] (.inl a :: st) M ↔ uX8_faultOf R 6 [x0, some (.inl y), some (.inl a), x3] st M := Iff.trans (zU_step dX8_faultOf_5 (Or.inl rfl)) ⟨fun h => h.2, fun h => ⟨show 2 < 4 by decide, h⟩⟩
theorem rX8_faultOf_5z {R : zP} {x0 x1 x2 x3 : Option zV} {st : List zV} {M : zM} {a : Int} : uX8_faultOf R 5 [x0, x1, x2, x3] (.inl a :: st) M ↔ uX8_faultOf R 6 [x0, zkeep x1, some (.inl a), x3] st M := Iff.trans (zU_step dX8_faultOf_5 (Or.inl rfl)) ⟨fun h => h.2, fun h => ⟨show 2 < 4 by decide, h⟩⟩
theorem dX8_faultOf_6 : decode cX8_faultOf 6 = .ok (.aload_n 0, 1) := by decide +kernel
theorem rX8_faultOf_6 {R : zP} {x1 x2 x3 : Option zV} {st : List zV} {M : zM} {a : Nat} : uX8_faultOf R 6 [some (.inr (.inr a)), x1, x2, x3] st M ↔ uX8_faultOf R 7 [some (.inr (.inr a)), x1, x2, x3] (.inr (.inr a) :: st) M := zU_step dX8_faultOf_6 (Or.inl rfl)
theorem dX8_faultOf_7 : decode cX8_faultOf 7 = .ok (.iconst 1, 1) := by decide +kernel
theorem rX8_faultOf_7 {R : zP} {x0 x1 x2 x3 : Option zV} {st : List zV} {M : zM} : uX8_faultOf R 7 [x0, x1, x2, x3] st M ↔ uX8_faultOf R 8 [x0, x1, x2, x3] (.inl (1) :: st) M := zU_step dX8_faultOf_7 (Or.inl rfl)
theorem dX8_faultOf_8 : decode cX8_faultOf 8 = .ok (.invokevirtual 138, 3) := by decide +kernel
theorem rX8_faultOf_8 {R : zP} {x0 x1 x2 x3 : Option zV} {st : List zV} {M : zM} {a0 a1 : zV} : uX8_faultOf R 8 [x0, x1, x2, x3] (a1 :: a0 :: st) M ↔ (st.length ≤ 4 ∧ zcv (zv 8 tX8_readsAll) [a0, a1] M (fun v M => uX8_faultOf R 11 [x0, x1, x2, x3] (v :: st) M)) := Iff.trans (zU_step dX8_faultOf_8 (Or.inl rfl)) ⟨fun h => ⟨h.2.1, zcv_of h.2.2⟩, fun h => ⟨rfl, h.1, zcv_to h.2⟩⟩
theorem dX8_faultOf_11 : decode cX8_faultOf 11 = .ok (.istore_n 3, 1) := by decide +kernel
theorem rX8_faultOf_11 {R : zP} {x0 x1 x3 : Option zV} {st : List zV} {M : zM} {a : Int} {y : Int} : uX8_faultOf R 11 [x0, x1, some (.inl y), x3] (.inl a :: st) M ↔ uX8_faultOf R 12 [x0, x1, some (.inl y), some (.inl a)] st M := Iff.trans (zU_step dX8_faultOf_11 (Or.inl rfl)) ⟨fun h => h.2, fun h => ⟨show 3 < 4 by decide, h⟩⟩
theorem rX8_faultOf_11z {R : zP} {x0 x1 x2 x3 : Option zV} {st : List zV} {M : zM} {a : Int} : uX8_faultOf R 11 [x0, x1, x2, x3] (.inl a :: st) M ↔ uX8_faultOf R 12 [x0, x1, zkeep x2, some (.inl a)] st M := Iff.trans (zU_step dX8_faultOf_11 (Or.inl rfl)) ⟨fun h => h.2, fun h => ⟨show 3 < 4 by decide, h⟩⟩
theorem dX8_faultOf_12 : decode cX8_faultOf 12 = .ok (.iload_n 1, 1) := by decide +kernel
theorem rX8_faultOf_12 {R : zP} {x0 x2 x3 : Option zV} {st : List zV} {M : zM} {a : Int} : uX8_faultOf R 12 [x0, some (.inl a), x2, x3] st M ↔ uX8_faultOf R 13 [x0, some (.inl a), x2, x3] (.inl a :: st) M := zU_step dX8_faultOf_12 (Or.inl rfl)
theorem dX8_faultOf_13 : decode cX8_faultOf 13 = .ok (.ifCond .ne 7, 3) := by decide +kernel
theorem rX8_faultOf_13 {R : zP} {x0 x1 x2 x3 : Option zV} {st : List zV} {M : zM} {a : Int} : uX8_faultOf R 13 [x0, x1, x2, x3] (.inl a :: st) M ↔ (zIR a ∧ if a ≠ 0 then uX8_faultOf R 20 [x0, x1, x2, x3] st M else uX8_faultOf R 16 [x0, x1, x2, x3] st M) := Iff.trans (zU_step dX8_faultOf_13 (Or.inl rfl)) ⟨fun h => ⟨h.1.1, (zite (c := a ≠ 0)).mpr h.2⟩, fun h => ⟨⟨h.1, by decide⟩, (zite (c := a ≠ 0)).mp h.2⟩⟩
theorem dX8_faultOf_16 : decode cX8_faultOf 16 = .ok (.iload_n 2, 1) := by decide +kernel
theorem rX8_faultOf_16 {R : zP} {x0 x1 x3 : Option zV} {st : List zV} {M : zM} {a : Int} : uX8_faultOf R 16 [x0, x1, some (.inl a), x3] st M ↔ uX8_faultOf R 17 [x0, x1, some (.inl a), x3] (.inl a :: st) M := zU_step dX8_faultOf_16 (Or.inl rfl)
theorem dX8_faultOf_17 : decode cX8_faultOf 17 = .ok (.goto 4, 3) := by decide +kernel
theorem rX8_faultOf_17 {R : zP} {x0 x1 x2 x3 : Option zV} {st : List zV} {M : zM} : uX8_faultOf R 17 [x0, x1, x2, x3] st M ↔ uX8_faultOf R 21 [x0, x1, x2, x3] st M := Iff.trans (zU_step dX8_faultOf_17 (Or.inl rfl)) ⟨fun h => h.2, fun h => ⟨by decide, h⟩⟩
theorem dX8_faultOf_20 : decode cX8_faultOf 20 = .ok (.iload_n 3, 1) := by decide +kernel
theorem rX8_faultOf_20 {R : zP} {x0 x1 x2 : Option zV} {st : List zV} {M : zM} {a : Int} : uX8_faultOf R 20 [x0, x1, x2, some (.inl a)] st M ↔ uX8_faultOf R 21 [x0, x1, x2, some (.inl a)] (.inl a :: st) M := zU_step dX8_faultOf_20 (Or.inl rfl)
theorem dX8_faultOf_21 : decode cX8_faultOf 21 = .ok (.ireturn, 1) := by decide +kernel
theorem rX8_faultOf_21 {R : zP} {x0 x1 x2 x3 : Option zV} {M : zM} {a : Int} : uX8_faultOf R 21 [x0, x1, x2, x3] [.inl a] M ↔ R (some (.inl a)) M := Iff.trans (zU_step dX8_faultOf_21 (Or.inl rfl)) ⟨fun h => h.2.2, fun h => ⟨rfl, Or.inl rfl, h⟩⟩
theorem eX8_faultOf {R : zP} {M : zM} {a0 : Nat} {p0 : Int} : tX8_faultOf [.inr (.inr a0), .inl p0] M R ↔ uX8_faultOf R 0 [some (.inr (.inr a0)), some (.inl p0), none, none] [] M := ⟨fun h => h.2, fun h => ⟨show 2 ≤ 4 by decide, h⟩⟩
def uX8_reads (R : zP) : zK := zU fX8 vX8_reads cX8_reads R
theorem dX8_reads_0 : decode cX8_reads 0 = .ok (.aload_n 0, 1) := by decide +kernel
theorem rX8_reads_0 {R : zP} {x1 : Option zV} {st : List zV} {M : zM} {a : Nat} : uX8_reads R 0 [some (.inr (.inr a)), x1] st M ↔ uX8_reads R 1 [some (.inr (.inr a)), x1] (.inr (.inr a) :: st) M := zU_step dX8_reads_0 (Or.inl rfl)
theorem dX8_reads_1 : decode cX8_reads 1 = .ok (.iconst 0, 1) := by decide +kernel
theorem rX8_reads_1 {R : zP} {x0 x1 : Option zV} {st : List zV} {M : zM} : uX8_reads R 1 [x0, x1] st M ↔ uX8_reads R 2 [x0, x1] (.inl (0) :: st) M := zU_step dX8_reads_1 (Or.inl rfl)
theorem dX8_reads_2 : decode cX8_reads 2 = .ok (.invokevirtual 142, 3) := by decide +kernel
theorem rX8_reads_2 {R : zP} {x0 x1 : Option zV} {st : List zV} {M : zM} {a0 a1 : zV} : uX8_reads R 2 [x0, x1] (a1 :: a0 :: st) M ↔ (st.length ≤ 4 ∧ zcv (zv 8 tX8_faultOf) [a0, a1] M (fun v M => uX8_reads R 5 [x0, x1] (v :: st) M)) := Iff.trans (zU_step dX8_reads_2 (Or.inl rfl)) ⟨fun h => ⟨h.2.1, zcv_of h.2.2⟩, fun h => ⟨rfl, h.1, zcv_to h.2⟩⟩
theorem dX8_reads_5 : decode cX8_reads 5 = .ok (.istore_n 1, 1) := by decide +kernel
theorem rX8_reads_5 {R : zP} {x1 : Option zV} {st : List zV} {M : zM} {a : Int} {y : Nat} : uX8_reads R 5 [some (.inr (.inr y)), x1] (.inl a :: st) M ↔ uX8_reads R 6 [some (.inr (.inr y)), some (.inl a)] st M := Iff.trans (zU_step dX8_reads_5 (Or.inl rfl)) ⟨fun h => h.2, fun h => ⟨show 1 < 2 by decide, h⟩⟩
theorem rX8_reads_5z {R : zP} {x0 x1 : Option zV} {st : List zV} {M : zM} {a : Int} : uX8_reads R 5 [x0, x1] (.inl a :: st) M ↔ uX8_reads R 6 [zkeep x0, some (.inl a)] st M := Iff.trans (zU_step dX8_reads_5 (Or.inl rfl)) ⟨fun h => h.2, fun h => ⟨show 1 < 2 by decide, h⟩⟩
theorem dX8_reads_6 : decode cX8_reads 6 = .ok (.return_, 1) := by decide +kernel
theorem rX8_reads_6 {R : zP} {x0 x1 : Option zV} {M : zM} : uX8_reads R 6 [x0, x1] [] M ↔ R none M := Iff.trans (zU_step dX8_reads_6 (Or.inl rfl)) ⟨fun h => h.2.2, fun h => ⟨rfl, rfl, h⟩⟩
theorem eX8_reads {R : zP} {M : zM} {a0 : Nat} : tX8_reads [.inr (.inr a0)] M R ↔ uX8_reads R 0 [some (.inr (.inr a0)), none] [] M := ⟨fun h => h.2, fun h => ⟨show 1 ≤ 2 by decide, h⟩⟩
def uX8_fault (R : zP) : zK := zU fX8 vX8_fault cX8_fault R
theorem dX8_fault_0 : decode cX8_fault 0 = .ok (.iload_n 1, 1) := by decide +kernel
theorem rX8_fault_0 {R : zP} {x0 : Option zV} {st : List zV} {M : zM} {a : Int} : uX8_fault R 0 [x0, some (.inl a)] st M ↔ uX8_fault R 1 [x0, some (.inl a)] (.inl a :: st) M := zU_step dX8_fault_0 (Or.inl rfl)
theorem dX8_fault_1 : decode cX8_fault 1 = .ok (.invokestatic 116, 3) := by decide +kernel
theorem rX8_fault_1 {R : zP} {x0 x1 : Option zV} {st : List zV} {M : zM} {a0 : zV} : uX8_fault R 1 [x0, x1] (a0 :: st) M ↔ (st.length ≤ 4 ∧ zcv tX8_isText [a0] M (fun v M => uX8_fault R 4 [x0, x1] (v :: st) M)) := Iff.trans (zU_step dX8_fault_1 (Or.inl rfl)) ⟨fun h => ⟨h.2.1, zcv_of h.2.2⟩, fun h => ⟨rfl, h.1, zcv_to h.2⟩⟩
theorem dX8_fault_4 : decode cX8_fault 4 = .ok (.ifCond .eq 11, 3) := by decide +kernel
theorem rX8_fault_4 {R : zP} {x0 x1 : Option zV} {st : List zV} {M : zM} {a : Int} : uX8_fault R 4 [x0, x1] (.inl a :: st) M ↔ (zIR a ∧ if a = 0 then uX8_fault R 15 [x0, x1] st M else uX8_fault R 7 [x0, x1] st M) := Iff.trans (zU_step dX8_fault_4 (Or.inl rfl)) ⟨fun h => ⟨h.1.1, (zite (c := a = 0)).mpr h.2⟩, fun h => ⟨⟨h.1, by decide⟩, (zite (c := a = 0)).mp h.2⟩⟩
theorem dX8_fault_7 : decode cX8_fault 7 = .ok (.aload_n 0, 1) := by decide +kernel
theorem rX8_fault_7 {R : zP} {x1 : Option zV} {st : List zV} {M : zM} {a : Nat} : uX8_fault R 7 [some (.inr (.inr a)), x1] st M ↔ uX8_fault R 8 [some (.inr (.inr a)), x1] (.inr (.inr a) :: st) M := zU_step dX8_fault_7 (Or.inl rfl)
theorem dX8_fault_8 : decode cX8_fault 8 = .ok (.iload_n 1, 1) := by decide +kernel
theorem rX8_fault_8 {R : zP} {x0 : Option zV} {st : List zV} {M : zM} {a : Int} : uX8_fault R 8 [x0, some (.inl a)] st M ↔ uX8_fault R 9 [x0, some (.inl a)] (.inl a :: st) M := zU_step dX8_fault_8 (Or.inl rfl)
theorem dX8_fault_9 : decode cX8_fault 9 = .ok (.invokevirtual 142, 3) := by decide +kernel
theorem rX8_fault_9 {R : zP} {x0 x1 : Option zV} {st : List zV} {M : zM} {a0 a1 : zV} : uX8_fault R 9 [x0, x1] (a1 :: a0 :: st) M ↔ (st.length ≤ 4 ∧ zcv (zv 8 tX8_faultOf) [a0, a1] M (fun v M => uX8_fault R 12 [x0, x1] (v :: st) M)) := Iff.trans (zU_step dX8_fault_9 (Or.inl rfl)) ⟨fun h => ⟨h.2.1, zcv_of h.2.2⟩, fun h => ⟨rfl, h.1, zcv_to h.2⟩⟩
theorem dX8_fault_12 : decode cX8_fault 12 = .ok (.goto 5, 3) := by decide +kernel
theorem rX8_fault_12 {R : zP} {x0 x1 : Option zV} {st : List zV} {M : zM} : uX8_fault R 12 [x0, x1] st M ↔ uX8_fault R 17 [x0, x1] st M := Iff.trans (zU_step dX8_fault_12 (Or.inl rfl)) ⟨fun h => h.2, fun h => ⟨by decide, h⟩⟩
theorem dX8_fault_15 : decode cX8_fault 15 = .ok (.bipush (-2), 2) := by decide +kernel
theorem rX8_fault_15 {R : zP} {x0 x1 : Option zV} {st : List zV} {M : zM} : uX8_fault R 15 [x0, x1] st M ↔ uX8_fault R 17 [x0, x1] (.inl (-2) :: st) M := Iff.trans (zU_step dX8_fault_15 (Or.inl rfl)) ⟨fun h => h.2, fun h => ⟨by decide, h⟩⟩
theorem dX8_fault_17 : decode cX8_fault 17 = .ok (.ireturn, 1) := by decide +kernel
theorem rX8_fault_17 {R : zP} {x0 x1 : Option zV} {M : zM} {a : Int} : uX8_fault R 17 [x0, x1] [.inl a] M ↔ R (some (.inl a)) M := Iff.trans (zU_step dX8_fault_17 (Or.inl rfl)) ⟨fun h => h.2.2, fun h => ⟨rfl, Or.inl rfl, h⟩⟩
theorem eX8_fault {R : zP} {M : zM} {a0 : Nat} {p0 : Int} : tX8_fault [.inr (.inr a0), .inl p0] M R ↔ uX8_fault R 0 [some (.inr (.inr a0)), some (.inl p0)] [] M := ⟨fun h => h.2, fun h => ⟨show 2 ≤ 2 by decide, h⟩⟩
def uX8_isMember (R : zP) : zK := zU fX8 vX8_isMember cX8_isMember R
theorem dX8_isMember_0 : decode cX8_isMember 0 = .ok (.aload_n 0, 1) := by decide +kernel
theorem rX8_isMember_0 {R : zP} {x1 : Option zV} {st : List zV} {M : zM} {a : Nat} : uX8_isMember R 0 [some (.inr (.inr a)), x1] st M ↔ uX8_isMember R 1 [some (.inr (.inr a)), x1] (.inr (.inr a) :: st) M := zU_step dX8_isMember_0 (Or.inl rfl)
theorem dX8_isMember_1 : decode cX8_isMember 1 = .ok (.invokevirtual 145, 3) := by decide +kernel
theorem rX8_isMember_1 {R : zP} {x0 x1 : Option zV} {st : List zV} {M : zM} {a0 : zV} : uX8_isMember R 1 [x0, x1] (a0 :: st) M ↔ (st.length ≤ 4 ∧ zcn (zv 8 tX8_reads) [a0] M (fun M => uX8_isMember R 4 [x0, x1] st M)) := Iff.trans (zU_step dX8_isMember_1 (Or.inl rfl)) ⟨fun h => ⟨h.2.1, zcn_of h.2.2⟩, fun h => ⟨rfl, h.1, zcn_to h.2⟩⟩
theorem dX8_isMember_4 : decode cX8_isMember 4 = .ok (.iload_n 1, 1) := by decide +kernel
theorem rX8_isMember_4 {R : zP} {x0 : Option zV} {st : List zV} {M : zM} {a : Int} : uX8_isMember R 4 [x0, some (.inl a)] st M ↔ uX8_isMember R 5 [x0, some (.inl a)] (.inl a :: st) M := zU_step dX8_isMember_4 (Or.inl rfl)
theorem dX8_isMember_5 : decode cX8_isMember 5 = .ok (.iconst 0, 1) := by decide +kernel
theorem rX8_isMember_5 {R : zP} {x0 x1 : Option zV} {st : List zV} {M : zM} : uX8_isMember R 5 [x0, x1] st M ↔ uX8_isMember R 6 [x0, x1] (.inl (0) :: st) M := zU_step dX8_isMember_5 (Or.inl rfl)
theorem dX8_isMember_6 : decode cX8_isMember 6 = .ok (.aload_n 0, 1) := by decide +kernel
theorem rX8_isMember_6 {R : zP} {x1 : Option zV} {st : List zV} {M : zM} {a : Nat} : uX8_isMember R 6 [some (.inr (.inr a)), x1] st M ↔ uX8_isMember R 7 [some (.inr (.inr a)), x1] (.inr (.inr a) :: st) M := zU_step dX8_isMember_6 (Or.inl rfl)
theorem dX8_isMember_7 : decode cX8_isMember 7 = .ok (.getfield 127, 3) := by decide +kernel
theorem rX8_isMember_7 {R : zP} {x0 x1 : Option zV} {st : List zV} {M : zM} {r : Nat} : uX8_isMember R 7 [x0, x1] (.inr (.inr r) :: st) M ↔ zgetx fX8 127 r M (fun v => uX8_isMember R 10 [x0, x1] (v :: st) M) := zU_step dX8_isMember_7 (Or.inl rfl)
theorem dX8_isMember_10 : decode cX8_isMember 10 = .ok (.iconst 1, 1) := by decide +kernel
theorem rX8_isMember_10 {R : zP} {x0 x1 : Option zV} {st : List zV} {M : zM} : uX8_isMember R 10 [x0, x1] st M ↔ uX8_isMember R 11 [x0, x1] (.inl (1) :: st) M := zU_step dX8_isMember_10 (Or.inl rfl)
theorem dX8_isMember_11 : decode cX8_isMember 11 = .ok (.isub, 1) := by decide +kernel
theorem rX8_isMember_11 {R : zP} {x0 x1 : Option zV} {st : List zV} {M : zM} {a b : Int} : uX8_isMember R 11 [x0, x1] (.inl b :: .inl a :: st) M ↔ uX8_isMember R 12 [x0, x1] (.inl (a - b) :: st) M := zU_step dX8_isMember_11 (Or.inl rfl)
theorem dX8_isMember_12 : decode cX8_isMember 12 = .ok (.invokestatic 112, 3) := by decide +kernel
theorem rX8_isMember_12 {R : zP} {x0 x1 : Option zV} {st : List zV} {M : zM} {a0 a1 a2 : zV} : uX8_isMember R 12 [x0, x1] (a2 :: a1 :: a0 :: st) M ↔ (st.length ≤ 4 ∧ zcv tX8_in [a0, a1, a2] M (fun v M => uX8_isMember R 15 [x0, x1] (v :: st) M)) := Iff.trans (zU_step dX8_isMember_12 (Or.inl rfl)) ⟨fun h => ⟨h.2.1, zcv_of h.2.2⟩, fun h => ⟨rfl, h.1, zcv_to h.2⟩⟩
theorem dX8_isMember_15 : decode cX8_isMember 15 = .ok (.ireturn, 1) := by decide +kernel
theorem rX8_isMember_15 {R : zP} {x0 x1 : Option zV} {M : zM} {a : Int} : uX8_isMember R 15 [x0, x1] [.inl a] M ↔ ((a = 0 ∨ a = 1) ∧ R (some (.inl a)) M) := Iff.trans (zU_step dX8_isMember_15 (Or.inl rfl)) ⟨fun h => ⟨zret2 rfl h.2.1, h.2.2⟩, fun h => ⟨rfl, Or.inr (Or.inl ⟨rfl, h.1⟩), h.2⟩⟩
theorem eX8_isMember {R : zP} {M : zM} {a0 : Nat} {p0 : Int} : tX8_isMember [.inr (.inr a0), .inl p0] M R ↔ uX8_isMember R 0 [some (.inr (.inr a0)), some (.inl p0)] [] M := ⟨fun h => h.2, fun h => ⟨show 2 ≤ 2 by decide, h⟩⟩
def uX8_isCow (R : zP) : zK := zU fX8 vX8_isCow cX8_isCow R
theorem dX8_isCow_0 : decode cX8_isCow 0 = .ok (.aload_n 0, 1) := by decide +kernel
theorem rX8_isCow_0 {R : zP} {x1 : Option zV} {st : List zV} {M : zM} {a : Nat} : uX8_isCow R 0 [some (.inr (.inr a)), x1] st M ↔ uX8_isCow R 1 [some (.inr (.inr a)), x1] (.inr (.inr a) :: st) M := zU_step dX8_isCow_0 (Or.inl rfl)
theorem dX8_isCow_1 : decode cX8_isCow 1 = .ok (.invokevirtual 145, 3) := by decide +kernel
theorem rX8_isCow_1 {R : zP} {x0 x1 : Option zV} {st : List zV} {M : zM} {a0 : zV} : uX8_isCow R 1 [x0, x1] (a0 :: st) M ↔ (st.length ≤ 4 ∧ zcn (zv 8 tX8_reads) [a0] M (fun M => uX8_isCow R 4 [x0, x1] st M)) := Iff.trans (zU_step dX8_isCow_1 (Or.inl rfl)) ⟨fun h => ⟨h.2.1, zcn_of h.2.2⟩, fun h => ⟨rfl, h.1, zcn_to h.2⟩⟩
theorem dX8_isCow_4 : decode cX8_isCow 4 = .ok (.iload_n 1, 1) := by decide +kernel
theorem rX8_isCow_4 {R : zP} {x0 : Option zV} {st : List zV} {M : zM} {a : Int} : uX8_isCow R 4 [x0, some (.inl a)] st M ↔ uX8_isCow R 5 [x0, some (.inl a)] (.inl a :: st) M := zU_step dX8_isCow_4 (Or.inl rfl)
theorem dX8_isCow_5 : decode cX8_isCow 5 = .ok (.iconst 0, 1) := by decide +kernel
theorem rX8_isCow_5 {R : zP} {x0 x1 : Option zV} {st : List zV} {M : zM} : uX8_isCow R 5 [x0, x1] st M ↔ uX8_isCow R 6 [x0, x1] (.inl (0) :: st) M := zU_step dX8_isCow_5 (Or.inl rfl)
theorem dX8_isCow_6 : decode cX8_isCow 6 = .ok (.aload_n 0, 1) := by decide +kernel
theorem rX8_isCow_6 {R : zP} {x1 : Option zV} {st : List zV} {M : zM} {a : Nat} : uX8_isCow R 6 [some (.inr (.inr a)), x1] st M ↔ uX8_isCow R 7 [some (.inr (.inr a)), x1] (.inr (.inr a) :: st) M := zU_step dX8_isCow_6 (Or.inl rfl)
theorem dX8_isCow_7 : decode cX8_isCow 7 = .ok (.getfield 131, 3) := by decide +kernel
theorem rX8_isCow_7 {R : zP} {x0 x1 : Option zV} {st : List zV} {M : zM} {r : Nat} : uX8_isCow R 7 [x0, x1] (.inr (.inr r) :: st) M ↔ zgetx fX8 131 r M (fun v => uX8_isCow R 10 [x0, x1] (v :: st) M) := zU_step dX8_isCow_7 (Or.inl rfl)
theorem dX8_isCow_10 : decode cX8_isCow 10 = .ok (.iconst 1, 1) := by decide +kernel
theorem rX8_isCow_10 {R : zP} {x0 x1 : Option zV} {st : List zV} {M : zM} : uX8_isCow R 10 [x0, x1] st M ↔ uX8_isCow R 11 [x0, x1] (.inl (1) :: st) M := zU_step dX8_isCow_10 (Or.inl rfl)
theorem dX8_isCow_11 : decode cX8_isCow 11 = .ok (.isub, 1) := by decide +kernel
theorem rX8_isCow_11 {R : zP} {x0 x1 : Option zV} {st : List zV} {M : zM} {a b : Int} : uX8_isCow R 11 [x0, x1] (.inl b :: .inl a :: st) M ↔ uX8_isCow R 12 [x0, x1] (.inl (a - b) :: st) M := zU_step dX8_isCow_11 (Or.inl rfl)
theorem dX8_isCow_12 : decode cX8_isCow 12 = .ok (.invokestatic 112, 3) := by decide +kernel
theorem rX8_isCow_12 {R : zP} {x0 x1 : Option zV} {st : List zV} {M : zM} {a0 a1 a2 : zV} : uX8_isCow R 12 [x0, x1] (a2 :: a1 :: a0 :: st) M ↔ (st.length ≤ 4 ∧ zcv tX8_in [a0, a1, a2] M (fun v M => uX8_isCow R 15 [x0, x1] (v :: st) M)) := Iff.trans (zU_step dX8_isCow_12 (Or.inl rfl)) ⟨fun h => ⟨h.2.1, zcv_of h.2.2⟩, fun h => ⟨rfl, h.1, zcv_to h.2⟩⟩
theorem dX8_isCow_15 : decode cX8_isCow 15 = .ok (.ireturn, 1) := by decide +kernel
theorem rX8_isCow_15 {R : zP} {x0 x1 : Option zV} {M : zM} {a : Int} : uX8_isCow R 15 [x0, x1] [.inl a] M ↔ ((a = 0 ∨ a = 1) ∧ R (some (.inl a)) M) := Iff.trans (zU_step dX8_isCow_15 (Or.inl rfl)) ⟨fun h => ⟨zret2 rfl h.2.1, h.2.2⟩, fun h => ⟨rfl, Or.inr (Or.inl ⟨rfl, h.1⟩), h.2⟩⟩
theorem eX8_isCow {R : zP} {M : zM} {a0 : Nat} {p0 : Int} : tX8_isCow [.inr (.inr a0), .inl p0] M R ↔ uX8_isCow R 0 [some (.inr (.inr a0)), some (.inl p0)] [] M := ⟨fun h => h.2, fun h => ⟨show 2 ≤ 2 by decide, h⟩⟩
def uX8_memberOf (R : zP) : zK := zU fX8 vX8_memberOf cX8_memberOf R
theorem dX8_memberOf_0 : decode cX8_memberOf 0 = .ok (.iload_n 2, 1) := by decide +kernel
theorem rX8_memberOf_0 {R : zP} {x0 x1 : Option zV} {st : List zV} {M : zM} {a : Int} : uX8_memberOf R 0 [x0, x1, some (.inl a)] st M ↔ uX8_memberOf R 1 [x0, x1, some (.inl a)] (.inl a :: st) M := zU_step dX8_memberOf_0 (Or.inl rfl)
theorem dX8_memberOf_1 : decode cX8_memberOf 1 = .ok (.ifCond .ne 12, 3) := by decide +kernel
theorem rX8_memberOf_1 {R : zP} {x0 x1 x2 : Option zV} {st : List zV} {M : zM} {a : Int} : uX8_memberOf R 1 [x0, x1, x2] (.inl a :: st) M ↔ (zIR a ∧ if a ≠ 0 then uX8_memberOf R 13 [x0, x1, x2] st M else uX8_memberOf R 4 [x0, x1, x2] st M) := Iff.trans (zU_step dX8_memberOf_1 (Or.inl rfl)) ⟨fun h => ⟨h.1.1, (zite (c := a ≠ 0)).mpr h.2⟩, fun h => ⟨⟨h.1, by decide⟩, (zite (c := a ≠ 0)).mp h.2⟩⟩
theorem dX8_memberOf_4 : decode cX8_memberOf 4 = .ok (.aload_n 0, 1) := by decide +kernel
theorem rX8_memberOf_4 {R : zP} {x1 x2 : Option zV} {st : List zV} {M : zM} {a : Nat} : uX8_memberOf R 4 [some (.inr (.inr a)), x1, x2] st M ↔ uX8_memberOf R 5 [some (.inr (.inr a)), x1, x2] (.inr (.inr a) :: st) M := zU_step dX8_memberOf_4 (Or.inl rfl)
theorem dX8_memberOf_5 : decode cX8_memberOf 5 = .ok (.getfield 16, 3) := by decide +kernel
theorem rX8_memberOf_5 {R : zP} {x0 x1 x2 : Option zV} {st : List zV} {M : zM} {r : Nat} : uX8_memberOf R 5 [x0, x1, x2] (.inr (.inr r) :: st) M ↔ zgetx fX8 16 r M (fun v => uX8_memberOf R 8 [x0, x1, x2] (v :: st) M) := zU_step dX8_memberOf_5 (Or.inl rfl)
theorem dX8_memberOf_8 : decode cX8_memberOf 8 = .ok (.iload_n 1, 1) := by decide +kernel
theorem rX8_memberOf_8 {R : zP} {x0 x2 : Option zV} {st : List zV} {M : zM} {a : Int} : uX8_memberOf R 8 [x0, some (.inl a), x2] st M ↔ uX8_memberOf R 9 [x0, some (.inl a), x2] (.inl a :: st) M := zU_step dX8_memberOf_8 (Or.inl rfl)
theorem dX8_memberOf_9 : decode cX8_memberOf 9 = .ok (.iaload, 1) := by decide +kernel
theorem rX8_memberOf_9 {R : zP} {x0 x1 x2 : Option zV} {st : List zV} {M : zM} {i : Int} {r : Nat} : uX8_memberOf R 9 [x0, x1, x2] (.inl i :: .inr (.inr r) :: st) M ↔ zread fX8 0 r M i (fun v => uX8_memberOf R 10 [x0, x1, x2] (.inl v :: st) M) := zU_step dX8_memberOf_9 (Or.inl rfl)
theorem dX8_memberOf_10 : decode cX8_memberOf 10 = .ok (.goto 15, 3) := by decide +kernel
theorem rX8_memberOf_10 {R : zP} {x0 x1 x2 : Option zV} {st : List zV} {M : zM} : uX8_memberOf R 10 [x0, x1, x2] st M ↔ uX8_memberOf R 25 [x0, x1, x2] st M := Iff.trans (zU_step dX8_memberOf_10 (Or.inl rfl)) ⟨fun h => h.2, fun h => ⟨by decide, h⟩⟩
theorem dX8_memberOf_13 : decode cX8_memberOf 13 = .ok (.aload_n 0, 1) := by decide +kernel
theorem rX8_memberOf_13 {R : zP} {x1 x2 : Option zV} {st : List zV} {M : zM} {a : Nat} : uX8_memberOf R 13 [some (.inr (.inr a)), x1, x2] st M ↔ uX8_memberOf R 14 [some (.inr (.inr a)), x1, x2] (.inr (.inr a) :: st) M := zU_step dX8_memberOf_13 (Or.inl rfl)
theorem dX8_memberOf_14 : decode cX8_memberOf 14 = .ok (.getfield 19, 3) := by decide +kernel
theorem rX8_memberOf_14 {R : zP} {x0 x1 x2 : Option zV} {st : List zV} {M : zM} {r : Nat} : uX8_memberOf R 14 [x0, x1, x2] (.inr (.inr r) :: st) M ↔ zgetx fX8 19 r M (fun v => uX8_memberOf R 17 [x0, x1, x2] (v :: st) M) := zU_step dX8_memberOf_14 (Or.inl rfl)
theorem dX8_memberOf_17 : decode cX8_memberOf 17 = .ok (.iconst 4, 1) := by decide +kernel
theorem rX8_memberOf_17 {R : zP} {x0 x1 x2 : Option zV} {st : List zV} {M : zM} : uX8_memberOf R 17 [x0, x1, x2] st M ↔ uX8_memberOf R 18 [x0, x1, x2] (.inl (4) :: st) M := zU_step dX8_memberOf_17 (Or.inl rfl)
theorem dX8_memberOf_18 : decode cX8_memberOf 18 = .ok (.iload_n 1, 1) := by decide +kernel
theorem rX8_memberOf_18 {R : zP} {x0 x2 : Option zV} {st : List zV} {M : zM} {a : Int} : uX8_memberOf R 18 [x0, some (.inl a), x2] st M ↔ uX8_memberOf R 19 [x0, some (.inl a), x2] (.inl a :: st) M := zU_step dX8_memberOf_18 (Or.inl rfl)
theorem dX8_memberOf_19 : decode cX8_memberOf 19 = .ok (.imul, 1) := by decide +kernel
theorem rX8_memberOf_19 {R : zP} {x0 x1 x2 : Option zV} {st : List zV} {M : zM} {a b : Int} : uX8_memberOf R 19 [x0, x1, x2] (.inl b :: .inl a :: st) M ↔ uX8_memberOf R 20 [x0, x1, x2] (.inl (a * b) :: st) M := zU_step dX8_memberOf_19 (Or.inl rfl)
theorem dX8_memberOf_20 : decode cX8_memberOf 20 = .ok (.iload_n 2, 1) := by decide +kernel
theorem rX8_memberOf_20 {R : zP} {x0 x1 : Option zV} {st : List zV} {M : zM} {a : Int} : uX8_memberOf R 20 [x0, x1, some (.inl a)] st M ↔ uX8_memberOf R 21 [x0, x1, some (.inl a)] (.inl a :: st) M := zU_step dX8_memberOf_20 (Or.inl rfl)
theorem dX8_memberOf_21 : decode cX8_memberOf 21 = .ok (.iadd, 1) := by decide +kernel
theorem rX8_memberOf_21 {R : zP} {x0 x1 x2 : Option zV} {st : List zV} {M : zM} {a b : Int} : uX8_memberOf R 21 [x0, x1, x2] (.inl b :: .inl a :: st) M ↔ uX8_memberOf R 22 [x0, x1, x2] (.inl (a + b) :: st) M := zU_step dX8_memberOf_21 (Or.inl rfl)
theorem dX8_memberOf_22 : decode cX8_memberOf 22 = .ok (.iconst 1, 1) := by decide +kernel
theorem rX8_memberOf_22 {R : zP} {x0 x1 x2 : Option zV} {st : List zV} {M : zM} : uX8_memberOf R 22 [x0, x1, x2] st M ↔ uX8_memberOf R 23 [x0, x1, x2] (.inl (1) :: st) M := zU_step dX8_memberOf_22 (Or.inl rfl)
theorem dX8_memberOf_23 : decode cX8_memberOf 23 = .ok (.isub, 1) := by decide +kernel
theorem rX8_memberOf_23 {R : zP} {x0 x1 x2 : Option zV} {st : List zV} {M : zM} {a b : Int} : uX8_memberOf R 23 [x0, x1, x2] (.inl b :: .inl a :: st) M ↔ uX8_memberOf R 24 [x0, x1, x2] (.inl (a - b) :: st) M := zU_step dX8_memberOf_23 (Or.inl rfl)
theorem dX8_memberOf_24 : decode cX8_memberOf 24 = .ok (.iaload, 1) := by decide +kernel
theorem rX8_memberOf_24 {R : zP} {x0 x1 x2 : Option zV} {st : List zV} {M : zM} {i : Int} {r : Nat} : uX8_memberOf R 24 [x0, x1, x2] (.inl i :: .inr (.inr r) :: st) M ↔ zread fX8 0 r M i (fun v => uX8_memberOf R 25 [x0, x1, x2] (.inl v :: st) M) := zU_step dX8_memberOf_24 (Or.inl rfl)
theorem dX8_memberOf_25 : decode cX8_memberOf 25 = .ok (.ireturn, 1) := by decide +kernel
theorem rX8_memberOf_25 {R : zP} {x0 x1 x2 : Option zV} {M : zM} {a : Int} : uX8_memberOf R 25 [x0, x1, x2] [.inl a] M ↔ R (some (.inl a)) M := Iff.trans (zU_step dX8_memberOf_25 (Or.inl rfl)) ⟨fun h => h.2.2, fun h => ⟨rfl, Or.inl rfl, h⟩⟩
theorem eX8_memberOf {R : zP} {M : zM} {a0 : Nat} {p0 : Int} {p1 : Int} : tX8_memberOf [.inr (.inr a0), .inl p0, .inl p1] M R ↔ uX8_memberOf R 0 [some (.inr (.inr a0)), some (.inl p0), some (.inl p1)] [] M := ⟨fun h => h.2, fun h => ⟨show 3 ≤ 3 by decide, h⟩⟩
def uX8_member (R : zP) : zK := zU fX8 vX8_member cX8_member R
theorem dX8_member_0 : decode cX8_member 0 = .ok (.aload_n 0, 1) := by decide +kernel
theorem rX8_member_0 {R : zP} {x1 x2 : Option zV} {st : List zV} {M : zM} {a : Nat} : uX8_member R 0 [some (.inr (.inr a)), x1, x2] st M ↔ uX8_member R 1 [some (.inr (.inr a)), x1, x2] (.inr (.inr a) :: st) M := zU_step dX8_member_0 (Or.inl rfl)
theorem dX8_member_1 : decode cX8_member 1 = .ok (.iload_n 1, 1) := by decide +kernel
theorem rX8_member_1 {R : zP} {x0 x2 : Option zV} {st : List zV} {M : zM} {a : Int} : uX8_member R 1 [x0, some (.inl a), x2] st M ↔ uX8_member R 2 [x0, some (.inl a), x2] (.inl a :: st) M := zU_step dX8_member_1 (Or.inl rfl)
theorem dX8_member_2 : decode cX8_member 2 = .ok (.invokevirtual 148, 3) := by decide +kernel
theorem rX8_member_2 {R : zP} {x0 x1 x2 : Option zV} {st : List zV} {M : zM} {a0 a1 : zV} : uX8_member R 2 [x0, x1, x2] (a1 :: a0 :: st) M ↔ (st.length ≤ 4 ∧ zcv (zv 8 tX8_isMember) [a0, a1] M (fun v M => uX8_member R 5 [x0, x1, x2] (v :: st) M)) := Iff.trans (zU_step dX8_member_2 (Or.inl rfl)) ⟨fun h => ⟨h.2.1, zcv_of h.2.2⟩, fun h => ⟨rfl, h.1, zcv_to h.2⟩⟩
theorem dX8_member_5 : decode cX8_member 5 = .ok (.ifCond .eq 21, 3) := by decide +kernel
theorem rX8_member_5 {R : zP} {x0 x1 x2 : Option zV} {st : List zV} {M : zM} {a : Int} : uX8_member R 5 [x0, x1, x2] (.inl a :: st) M ↔ (zIR a ∧ if a = 0 then uX8_member R 26 [x0, x1, x2] st M else uX8_member R 8 [x0, x1, x2] st M) := Iff.trans (zU_step dX8_member_5 (Or.inl rfl)) ⟨fun h => ⟨h.1.1, (zite (c := a = 0)).mpr h.2⟩, fun h => ⟨⟨h.1, by decide⟩, (zite (c := a = 0)).mp h.2⟩⟩
theorem dX8_member_8 : decode cX8_member 8 = .ok (.iload_n 2, 1) := by decide +kernel
theorem rX8_member_8 {R : zP} {x0 x1 : Option zV} {st : List zV} {M : zM} {a : Int} : uX8_member R 8 [x0, x1, some (.inl a)] st M ↔ uX8_member R 9 [x0, x1, some (.inl a)] (.inl a :: st) M := zU_step dX8_member_8 (Or.inl rfl)
theorem dX8_member_9 : decode cX8_member 9 = .ok (.iconst 0, 1) := by decide +kernel
theorem rX8_member_9 {R : zP} {x0 x1 x2 : Option zV} {st : List zV} {M : zM} : uX8_member R 9 [x0, x1, x2] st M ↔ uX8_member R 10 [x0, x1, x2] (.inl (0) :: st) M := zU_step dX8_member_9 (Or.inl rfl)
theorem dX8_member_10 : decode cX8_member 10 = .ok (.iconst 4, 1) := by decide +kernel
theorem rX8_member_10 {R : zP} {x0 x1 x2 : Option zV} {st : List zV} {M : zM} : uX8_member R 10 [x0, x1, x2] st M ↔ uX8_member R 11 [x0, x1, x2] (.inl (4) :: st) M := zU_step dX8_member_10 (Or.inl rfl)
theorem dX8_member_11 : decode cX8_member 11 = .ok (.invokestatic 112, 3) := by decide +kernel
theorem rX8_member_11 {R : zP} {x0 x1 x2 : Option zV} {st : List zV} {M : zM} {a0 a1 a2 : zV} : uX8_member R 11 [x0, x1, x2] (a2 :: a1 :: a0 :: st) M ↔ (st.length ≤ 4 ∧ zcv tX8_in [a0, a1, a2] M (fun v M => uX8_member R 14 [x0, x1, x2] (v :: st) M)) := Iff.trans (zU_step dX8_member_11 (Or.inl rfl)) ⟨fun h => ⟨h.2.1, zcv_of h.2.2⟩, fun h => ⟨rfl, h.1, zcv_to h.2⟩⟩
theorem dX8_member_14 : decode cX8_member 14 = .ok (.ifCond .eq 12, 3) := by decide +kernel
theorem rX8_member_14 {R : zP} {x0 x1 x2 : Option zV} {st : List zV} {M : zM} {a : Int} : uX8_member R 14 [x0, x1, x2] (.inl a :: st) M ↔ (zIR a ∧ if a = 0 then uX8_member R 26 [x0, x1, x2] st M else uX8_member R 17 [x0, x1, x2] st M) := Iff.trans (zU_step dX8_member_14 (Or.inl rfl)) ⟨fun h => ⟨h.1.1, (zite (c := a = 0)).mpr h.2⟩, fun h => ⟨⟨h.1, by decide⟩, (zite (c := a = 0)).mp h.2⟩⟩
theorem dX8_member_17 : decode cX8_member 17 = .ok (.aload_n 0, 1) := by decide +kernel
theorem rX8_member_17 {R : zP} {x1 x2 : Option zV} {st : List zV} {M : zM} {a : Nat} : uX8_member R 17 [some (.inr (.inr a)), x1, x2] st M ↔ uX8_member R 18 [some (.inr (.inr a)), x1, x2] (.inr (.inr a) :: st) M := zU_step dX8_member_17 (Or.inl rfl)
theorem dX8_member_18 : decode cX8_member 18 = .ok (.iload_n 1, 1) := by decide +kernel
theorem rX8_member_18 {R : zP} {x0 x2 : Option zV} {st : List zV} {M : zM} {a : Int} : uX8_member R 18 [x0, some (.inl a), x2] st M ↔ uX8_member R 19 [x0, some (.inl a), x2] (.inl a :: st) M := zU_step dX8_member_18 (Or.inl rfl)
theorem dX8_member_19 : decode cX8_member 19 = .ok (.iload_n 2, 1) := by decide +kernel
theorem rX8_member_19 {R : zP} {x0 x1 : Option zV} {st : List zV} {M : zM} {a : Int} : uX8_member R 19 [x0, x1, some (.inl a)] st M ↔ uX8_member R 20 [x0, x1, some (.inl a)] (.inl a :: st) M := zU_step dX8_member_19 (Or.inl rfl)
theorem dX8_member_20 : decode cX8_member 20 = .ok (.invokevirtual 151, 3) := by decide +kernel
theorem rX8_member_20 {R : zP} {x0 x1 x2 : Option zV} {st : List zV} {M : zM} {a0 a1 a2 : zV} : uX8_member R 20 [x0, x1, x2] (a2 :: a1 :: a0 :: st) M ↔ (st.length ≤ 4 ∧ zcv (zv 8 tX8_memberOf) [a0, a1, a2] M (fun v M => uX8_member R 23 [x0, x1, x2] (v :: st) M)) := Iff.trans (zU_step dX8_member_20 (Or.inl rfl)) ⟨fun h => ⟨h.2.1, zcv_of h.2.2⟩, fun h => ⟨rfl, h.1, zcv_to h.2⟩⟩
theorem dX8_member_23 : decode cX8_member 23 = .ok (.goto 5, 3) := by decide +kernel
theorem rX8_member_23 {R : zP} {x0 x1 x2 : Option zV} {st : List zV} {M : zM} : uX8_member R 23 [x0, x1, x2] st M ↔ uX8_member R 28 [x0, x1, x2] st M := Iff.trans (zU_step dX8_member_23 (Or.inl rfl)) ⟨fun h => h.2, fun h => ⟨by decide, h⟩⟩
theorem dX8_member_26 : decode cX8_member 26 = .ok (.bipush (-2), 2) := by decide +kernel
theorem rX8_member_26 {R : zP} {x0 x1 x2 : Option zV} {st : List zV} {M : zM} : uX8_member R 26 [x0, x1, x2] st M ↔ uX8_member R 28 [x0, x1, x2] (.inl (-2) :: st) M := Iff.trans (zU_step dX8_member_26 (Or.inl rfl)) ⟨fun h => h.2, fun h => ⟨by decide, h⟩⟩
theorem dX8_member_28 : decode cX8_member 28 = .ok (.ireturn, 1) := by decide +kernel
theorem rX8_member_28 {R : zP} {x0 x1 x2 : Option zV} {M : zM} {a : Int} : uX8_member R 28 [x0, x1, x2] [.inl a] M ↔ R (some (.inl a)) M := Iff.trans (zU_step dX8_member_28 (Or.inl rfl)) ⟨fun h => h.2.2, fun h => ⟨rfl, Or.inl rfl, h⟩⟩
theorem eX8_member {R : zP} {M : zM} {a0 : Nat} {p0 : Int} {p1 : Int} : tX8_member [.inr (.inr a0), .inl p0, .inl p1] M R ↔ uX8_member R 0 [some (.inr (.inr a0)), some (.inl p0), some (.inl p1)] [] M := ⟨fun h => h.2, fun h => ⟨show 3 ≤ 3 by decide, h⟩⟩
def uX8_cowOf (R : zP) : zK := zU fX8 vX8_cowOf cX8_cowOf R
theorem dX8_cowOf_0 : decode cX8_cowOf 0 = .ok (.iload_n 2, 1) := by decide +kernel
theorem rX8_cowOf_0 {R : zP} {x0 x1 : Option zV} {st : List zV} {M : zM} {a : Int} : uX8_cowOf R 0 [x0, x1, some (.inl a)] st M ↔ uX8_cowOf R 1 [x0, x1, some (.inl a)] (.inl a :: st) M := zU_step dX8_cowOf_0 (Or.inl rfl)
theorem dX8_cowOf_1 : decode cX8_cowOf 1 = .ok (.ifCond .ne 12, 3) := by decide +kernel
theorem rX8_cowOf_1 {R : zP} {x0 x1 x2 : Option zV} {st : List zV} {M : zM} {a : Int} : uX8_cowOf R 1 [x0, x1, x2] (.inl a :: st) M ↔ (zIR a ∧ if a ≠ 0 then uX8_cowOf R 13 [x0, x1, x2] st M else uX8_cowOf R 4 [x0, x1, x2] st M) := Iff.trans (zU_step dX8_cowOf_1 (Or.inl rfl)) ⟨fun h => ⟨h.1.1, (zite (c := a ≠ 0)).mpr h.2⟩, fun h => ⟨⟨h.1, by decide⟩, (zite (c := a ≠ 0)).mp h.2⟩⟩
theorem dX8_cowOf_4 : decode cX8_cowOf 4 = .ok (.aload_n 0, 1) := by decide +kernel
theorem rX8_cowOf_4 {R : zP} {x1 x2 : Option zV} {st : List zV} {M : zM} {a : Nat} : uX8_cowOf R 4 [some (.inr (.inr a)), x1, x2] st M ↔ uX8_cowOf R 5 [some (.inr (.inr a)), x1, x2] (.inr (.inr a) :: st) M := zU_step dX8_cowOf_4 (Or.inl rfl)
theorem dX8_cowOf_5 : decode cX8_cowOf 5 = .ok (.getfield 22, 3) := by decide +kernel
theorem rX8_cowOf_5 {R : zP} {x0 x1 x2 : Option zV} {st : List zV} {M : zM} {r : Nat} : uX8_cowOf R 5 [x0, x1, x2] (.inr (.inr r) :: st) M ↔ zgetx fX8 22 r M (fun v => uX8_cowOf R 8 [x0, x1, x2] (v :: st) M) := zU_step dX8_cowOf_5 (Or.inl rfl)
theorem dX8_cowOf_8 : decode cX8_cowOf 8 = .ok (.iload_n 1, 1) := by decide +kernel
theorem rX8_cowOf_8 {R : zP} {x0 x2 : Option zV} {st : List zV} {M : zM} {a : Int} : uX8_cowOf R 8 [x0, some (.inl a), x2] st M ↔ uX8_cowOf R 9 [x0, some (.inl a), x2] (.inl a :: st) M := zU_step dX8_cowOf_8 (Or.inl rfl)
theorem dX8_cowOf_9 : decode cX8_cowOf 9 = .ok (.iaload, 1) := by decide +kernel
theorem rX8_cowOf_9 {R : zP} {x0 x1 x2 : Option zV} {st : List zV} {M : zM} {i : Int} {r : Nat} : uX8_cowOf R 9 [x0, x1, x2] (.inl i :: .inr (.inr r) :: st) M ↔ zread fX8 0 r M i (fun v => uX8_cowOf R 10 [x0, x1, x2] (.inl v :: st) M) := zU_step dX8_cowOf_9 (Or.inl rfl)
theorem dX8_cowOf_10 : decode cX8_cowOf 10 = .ok (.goto 15, 3) := by decide +kernel
theorem rX8_cowOf_10 {R : zP} {x0 x1 x2 : Option zV} {st : List zV} {M : zM} : uX8_cowOf R 10 [x0, x1, x2] st M ↔ uX8_cowOf R 25 [x0, x1, x2] st M := Iff.trans (zU_step dX8_cowOf_10 (Or.inl rfl)) ⟨fun h => h.2, fun h => ⟨by decide, h⟩⟩
theorem dX8_cowOf_13 : decode cX8_cowOf 13 = .ok (.aload_n 0, 1) := by decide +kernel
theorem rX8_cowOf_13 {R : zP} {x1 x2 : Option zV} {st : List zV} {M : zM} {a : Nat} : uX8_cowOf R 13 [some (.inr (.inr a)), x1, x2] st M ↔ uX8_cowOf R 14 [some (.inr (.inr a)), x1, x2] (.inr (.inr a) :: st) M := zU_step dX8_cowOf_13 (Or.inl rfl)
theorem dX8_cowOf_14 : decode cX8_cowOf 14 = .ok (.getfield 25, 3) := by decide +kernel
theorem rX8_cowOf_14 {R : zP} {x0 x1 x2 : Option zV} {st : List zV} {M : zM} {r : Nat} : uX8_cowOf R 14 [x0, x1, x2] (.inr (.inr r) :: st) M ↔ zgetx fX8 25 r M (fun v => uX8_cowOf R 17 [x0, x1, x2] (v :: st) M) := zU_step dX8_cowOf_14 (Or.inl rfl)
theorem dX8_cowOf_17 : decode cX8_cowOf 17 = .ok (.iconst 4, 1) := by decide +kernel
theorem rX8_cowOf_17 {R : zP} {x0 x1 x2 : Option zV} {st : List zV} {M : zM} : uX8_cowOf R 17 [x0, x1, x2] st M ↔ uX8_cowOf R 18 [x0, x1, x2] (.inl (4) :: st) M := zU_step dX8_cowOf_17 (Or.inl rfl)
theorem dX8_cowOf_18 : decode cX8_cowOf 18 = .ok (.iload_n 1, 1) := by decide +kernel
theorem rX8_cowOf_18 {R : zP} {x0 x2 : Option zV} {st : List zV} {M : zM} {a : Int} : uX8_cowOf R 18 [x0, some (.inl a), x2] st M ↔ uX8_cowOf R 19 [x0, some (.inl a), x2] (.inl a :: st) M := zU_step dX8_cowOf_18 (Or.inl rfl)
theorem dX8_cowOf_19 : decode cX8_cowOf 19 = .ok (.imul, 1) := by decide +kernel
theorem rX8_cowOf_19 {R : zP} {x0 x1 x2 : Option zV} {st : List zV} {M : zM} {a b : Int} : uX8_cowOf R 19 [x0, x1, x2] (.inl b :: .inl a :: st) M ↔ uX8_cowOf R 20 [x0, x1, x2] (.inl (a * b) :: st) M := zU_step dX8_cowOf_19 (Or.inl rfl)
theorem dX8_cowOf_20 : decode cX8_cowOf 20 = .ok (.iload_n 2, 1) := by decide +kernel
theorem rX8_cowOf_20 {R : zP} {x0 x1 : Option zV} {st : List zV} {M : zM} {a : Int} : uX8_cowOf R 20 [x0, x1, some (.inl a)] st M ↔ uX8_cowOf R 21 [x0, x1, some (.inl a)] (.inl a :: st) M := zU_step dX8_cowOf_20 (Or.inl rfl)
theorem dX8_cowOf_21 : decode cX8_cowOf 21 = .ok (.iadd, 1) := by decide +kernel
theorem rX8_cowOf_21 {R : zP} {x0 x1 x2 : Option zV} {st : List zV} {M : zM} {a b : Int} : uX8_cowOf R 21 [x0, x1, x2] (.inl b :: .inl a :: st) M ↔ uX8_cowOf R 22 [x0, x1, x2] (.inl (a + b) :: st) M := zU_step dX8_cowOf_21 (Or.inl rfl)
theorem dX8_cowOf_22 : decode cX8_cowOf 22 = .ok (.iconst 1, 1) := by decide +kernel
theorem rX8_cowOf_22 {R : zP} {x0 x1 x2 : Option zV} {st : List zV} {M : zM} : uX8_cowOf R 22 [x0, x1, x2] st M ↔ uX8_cowOf R 23 [x0, x1, x2] (.inl (1) :: st) M := zU_step dX8_cowOf_22 (Or.inl rfl)
theorem dX8_cowOf_23 : decode cX8_cowOf 23 = .ok (.isub, 1) := by decide +kernel
theorem rX8_cowOf_23 {R : zP} {x0 x1 x2 : Option zV} {st : List zV} {M : zM} {a b : Int} : uX8_cowOf R 23 [x0, x1, x2] (.inl b :: .inl a :: st) M ↔ uX8_cowOf R 24 [x0, x1, x2] (.inl (a - b) :: st) M := zU_step dX8_cowOf_23 (Or.inl rfl)
theorem dX8_cowOf_24 : decode cX8_cowOf 24 = .ok (.iaload, 1) := by decide +kernel
theorem rX8_cowOf_24 {R : zP} {x0 x1 x2 : Option zV} {st : List zV} {M : zM} {i : Int} {r : Nat} : uX8_cowOf R 24 [x0, x1, x2] (.inl i :: .inr (.inr r) :: st) M ↔ zread fX8 0 r M i (fun v => uX8_cowOf R 25 [x0, x1, x2] (.inl v :: st) M) := zU_step dX8_cowOf_24 (Or.inl rfl)
theorem dX8_cowOf_25 : decode cX8_cowOf 25 = .ok (.ireturn, 1) := by decide +kernel
theorem rX8_cowOf_25 {R : zP} {x0 x1 x2 : Option zV} {M : zM} {a : Int} : uX8_cowOf R 25 [x0, x1, x2] [.inl a] M ↔ R (some (.inl a)) M := Iff.trans (zU_step dX8_cowOf_25 (Or.inl rfl)) ⟨fun h => h.2.2, fun h => ⟨rfl, Or.inl rfl, h⟩⟩
theorem eX8_cowOf {R : zP} {M : zM} {a0 : Nat} {p0 : Int} {p1 : Int} : tX8_cowOf [.inr (.inr a0), .inl p0, .inl p1] M R ↔ uX8_cowOf R 0 [some (.inr (.inr a0)), some (.inl p0), some (.inl p1)] [] M := ⟨fun h => h.2, fun h => ⟨show 3 ≤ 3 by decide, h⟩⟩
def uX8_cow (R : zP) : zK := zU fX8 vX8_cow cX8_cow R
theorem dX8_cow_0 : decode cX8_cow 0 = .ok (.aload_n 0, 1) := by decide +kernel
theorem rX8_cow_0 {R : zP} {x1 x2 : Option zV} {st : List zV} {M : zM} {a : Nat} : uX8_cow R 0 [some (.inr (.inr a)), x1, x2] st M ↔ uX8_cow R 1 [some (.inr (.inr a)), x1, x2] (.inr (.inr a) :: st) M := zU_step dX8_cow_0 (Or.inl rfl)
theorem dX8_cow_1 : decode cX8_cow 1 = .ok (.iload_n 1, 1) := by decide +kernel
theorem rX8_cow_1 {R : zP} {x0 x2 : Option zV} {st : List zV} {M : zM} {a : Int} : uX8_cow R 1 [x0, some (.inl a), x2] st M ↔ uX8_cow R 2 [x0, some (.inl a), x2] (.inl a :: st) M := zU_step dX8_cow_1 (Or.inl rfl)
theorem dX8_cow_2 : decode cX8_cow 2 = .ok (.invokevirtual 154, 3) := by decide +kernel
theorem rX8_cow_2 {R : zP} {x0 x1 x2 : Option zV} {st : List zV} {M : zM} {a0 a1 : zV} : uX8_cow R 2 [x0, x1, x2] (a1 :: a0 :: st) M ↔ (st.length ≤ 4 ∧ zcv (zv 8 tX8_isCow) [a0, a1] M (fun v M => uX8_cow R 5 [x0, x1, x2] (v :: st) M)) := Iff.trans (zU_step dX8_cow_2 (Or.inl rfl)) ⟨fun h => ⟨h.2.1, zcv_of h.2.2⟩, fun h => ⟨rfl, h.1, zcv_to h.2⟩⟩
theorem dX8_cow_5 : decode cX8_cow 5 = .ok (.ifCond .eq 21, 3) := by decide +kernel
theorem rX8_cow_5 {R : zP} {x0 x1 x2 : Option zV} {st : List zV} {M : zM} {a : Int} : uX8_cow R 5 [x0, x1, x2] (.inl a :: st) M ↔ (zIR a ∧ if a = 0 then uX8_cow R 26 [x0, x1, x2] st M else uX8_cow R 8 [x0, x1, x2] st M) := Iff.trans (zU_step dX8_cow_5 (Or.inl rfl)) ⟨fun h => ⟨h.1.1, (zite (c := a = 0)).mpr h.2⟩, fun h => ⟨⟨h.1, by decide⟩, (zite (c := a = 0)).mp h.2⟩⟩
theorem dX8_cow_8 : decode cX8_cow 8 = .ok (.iload_n 2, 1) := by decide +kernel
theorem rX8_cow_8 {R : zP} {x0 x1 : Option zV} {st : List zV} {M : zM} {a : Int} : uX8_cow R 8 [x0, x1, some (.inl a)] st M ↔ uX8_cow R 9 [x0, x1, some (.inl a)] (.inl a :: st) M := zU_step dX8_cow_8 (Or.inl rfl)
theorem dX8_cow_9 : decode cX8_cow 9 = .ok (.iconst 0, 1) := by decide +kernel
theorem rX8_cow_9 {R : zP} {x0 x1 x2 : Option zV} {st : List zV} {M : zM} : uX8_cow R 9 [x0, x1, x2] st M ↔ uX8_cow R 10 [x0, x1, x2] (.inl (0) :: st) M := zU_step dX8_cow_9 (Or.inl rfl)
theorem dX8_cow_10 : decode cX8_cow 10 = .ok (.iconst 4, 1) := by decide +kernel
theorem rX8_cow_10 {R : zP} {x0 x1 x2 : Option zV} {st : List zV} {M : zM} : uX8_cow R 10 [x0, x1, x2] st M ↔ uX8_cow R 11 [x0, x1, x2] (.inl (4) :: st) M := zU_step dX8_cow_10 (Or.inl rfl)
theorem dX8_cow_11 : decode cX8_cow 11 = .ok (.invokestatic 112, 3) := by decide +kernel
theorem rX8_cow_11 {R : zP} {x0 x1 x2 : Option zV} {st : List zV} {M : zM} {a0 a1 a2 : zV} : uX8_cow R 11 [x0, x1, x2] (a2 :: a1 :: a0 :: st) M ↔ (st.length ≤ 4 ∧ zcv tX8_in [a0, a1, a2] M (fun v M => uX8_cow R 14 [x0, x1, x2] (v :: st) M)) := Iff.trans (zU_step dX8_cow_11 (Or.inl rfl)) ⟨fun h => ⟨h.2.1, zcv_of h.2.2⟩, fun h => ⟨rfl, h.1, zcv_to h.2⟩⟩
theorem dX8_cow_14 : decode cX8_cow 14 = .ok (.ifCond .eq 12, 3) := by decide +kernel
theorem rX8_cow_14 {R : zP} {x0 x1 x2 : Option zV} {st : List zV} {M : zM} {a : Int} : uX8_cow R 14 [x0, x1, x2] (.inl a :: st) M ↔ (zIR a ∧ if a = 0 then uX8_cow R 26 [x0, x1, x2] st M else uX8_cow R 17 [x0, x1, x2] st M) := Iff.trans (zU_step dX8_cow_14 (Or.inl rfl)) ⟨fun h => ⟨h.1.1, (zite (c := a = 0)).mpr h.2⟩, fun h => ⟨⟨h.1, by decide⟩, (zite (c := a = 0)).mp h.2⟩⟩
theorem dX8_cow_17 : decode cX8_cow 17 = .ok (.aload_n 0, 1) := by decide +kernel
theorem rX8_cow_17 {R : zP} {x1 x2 : Option zV} {st : List zV} {M : zM} {a : Nat} : uX8_cow R 17 [some (.inr (.inr a)), x1, x2] st M ↔ uX8_cow R 18 [some (.inr (.inr a)), x1, x2] (.inr (.inr a) :: st) M := zU_step dX8_cow_17 (Or.inl rfl)
theorem dX8_cow_18 : decode cX8_cow 18 = .ok (.iload_n 1, 1) := by decide +kernel
theorem rX8_cow_18 {R : zP} {x0 x2 : Option zV} {st : List zV} {M : zM} {a : Int} : uX8_cow R 18 [x0, some (.inl a), x2] st M ↔ uX8_cow R 19 [x0, some (.inl a), x2] (.inl a :: st) M := zU_step dX8_cow_18 (Or.inl rfl)
theorem dX8_cow_19 : decode cX8_cow 19 = .ok (.iload_n 2, 1) := by decide +kernel
theorem rX8_cow_19 {R : zP} {x0 x1 : Option zV} {st : List zV} {M : zM} {a : Int} : uX8_cow R 19 [x0, x1, some (.inl a)] st M ↔ uX8_cow R 20 [x0, x1, some (.inl a)] (.inl a :: st) M := zU_step dX8_cow_19 (Or.inl rfl)
theorem dX8_cow_20 : decode cX8_cow 20 = .ok (.invokevirtual 157, 3) := by decide +kernel
theorem rX8_cow_20 {R : zP} {x0 x1 x2 : Option zV} {st : List zV} {M : zM} {a0 a1 a2 : zV} : uX8_cow R 20 [x0, x1, x2] (a2 :: a1 :: a0 :: st) M ↔ (st.length ≤ 4 ∧ zcv (zv 8 tX8_cowOf) [a0, a1, a2] M (fun v M => uX8_cow R 23 [x0, x1, x2] (v :: st) M)) := Iff.trans (zU_step dX8_cow_20 (Or.inl rfl)) ⟨fun h => ⟨h.2.1, zcv_of h.2.2⟩, fun h => ⟨rfl, h.1, zcv_to h.2⟩⟩
theorem dX8_cow_23 : decode cX8_cow 23 = .ok (.goto 5, 3) := by decide +kernel
theorem rX8_cow_23 {R : zP} {x0 x1 x2 : Option zV} {st : List zV} {M : zM} : uX8_cow R 23 [x0, x1, x2] st M ↔ uX8_cow R 28 [x0, x1, x2] st M := Iff.trans (zU_step dX8_cow_23 (Or.inl rfl)) ⟨fun h => h.2, fun h => ⟨by decide, h⟩⟩
theorem dX8_cow_26 : decode cX8_cow 26 = .ok (.bipush (-2), 2) := by decide +kernel
theorem rX8_cow_26 {R : zP} {x0 x1 x2 : Option zV} {st : List zV} {M : zM} : uX8_cow R 26 [x0, x1, x2] st M ↔ uX8_cow R 28 [x0, x1, x2] (.inl (-2) :: st) M := Iff.trans (zU_step dX8_cow_26 (Or.inl rfl)) ⟨fun h => h.2, fun h => ⟨by decide, h⟩⟩
theorem dX8_cow_28 : decode cX8_cow 28 = .ok (.ireturn, 1) := by decide +kernel
theorem rX8_cow_28 {R : zP} {x0 x1 x2 : Option zV} {M : zM} {a : Int} : uX8_cow R 28 [x0, x1, x2] [.inl a] M ↔ R (some (.inl a)) M := Iff.trans (zU_step dX8_cow_28 (Or.inl rfl)) ⟨fun h => h.2.2, fun h => ⟨rfl, Or.inl rfl, h⟩⟩
theorem eX8_cow {R : zP} {M : zM} {a0 : Nat} {p0 : Int} {p1 : Int} : tX8_cow [.inr (.inr a0), .inl p0, .inl p1] M R ↔ uX8_cow R 0 [some (.inr (.inr a0)), some (.inl p0), some (.inl p1)] [] M := ⟨fun h => h.2, fun h => ⟨show 3 ≤ 3 by decide, h⟩⟩
def uX8_feed (R : zP) : zK := zU fX8 vX8_feed cX8_feed R
theorem dX8_feed_0 : decode cX8_feed 0 = .ok (.iload_n 1, 1) := by decide +kernel
theorem rX8_feed_0 {R : zP} {x0 x2 x3 : Option zV} {st : List zV} {M : zM} {a : Int} : uX8_feed R 0 [x0, some (.inl a), x2, x3] st M ↔ uX8_feed R 1 [x0, some (.inl a), x2, x3] (.inl a :: st) M := zU_step dX8_feed_0 (Or.inl rfl)
theorem dX8_feed_1 : decode cX8_feed 1 = .ok (.invokestatic 160, 3) := by decide +kernel
theorem rX8_feed_1 {R : zP} {x0 x1 x2 x3 : Option zV} {st : List zV} {M : zM} {a0 : zV} : uX8_feed R 1 [x0, x1, x2, x3] (a0 :: st) M ↔ (st.length ≤ 4 ∧ zcv tX8_isTerm [a0] M (fun v M => uX8_feed R 4 [x0, x1, x2, x3] (v :: st) M)) := Iff.trans (zU_step dX8_feed_1 (Or.inl rfl)) ⟨fun h => ⟨h.2.1, zcv_of h.2.2⟩, fun h => ⟨rfl, h.1, zcv_to h.2⟩⟩
theorem dX8_feed_4 : decode cX8_feed 4 = .ok (.ifCond .eq 17, 3) := by decide +kernel
theorem rX8_feed_4 {R : zP} {x0 x1 x2 x3 : Option zV} {st : List zV} {M : zM} {a : Int} : uX8_feed R 4 [x0, x1, x2, x3] (.inl a :: st) M ↔ (zIR a ∧ if a = 0 then uX8_feed R 21 [x0, x1, x2, x3] st M else uX8_feed R 7 [x0, x1, x2, x3] st M) := Iff.trans (zU_step dX8_feed_4 (Or.inl rfl)) ⟨fun h => ⟨h.1.1, (zite (c := a = 0)).mpr h.2⟩, fun h => ⟨⟨h.1, by decide⟩, (zite (c := a = 0)).mp h.2⟩⟩
theorem dX8_feed_7 : decode cX8_feed 7 = .ok (.iload_n 2, 1) := by decide +kernel
theorem rX8_feed_7 {R : zP} {x0 x1 x3 : Option zV} {st : List zV} {M : zM} {a : Int} : uX8_feed R 7 [x0, x1, some (.inl a), x3] st M ↔ uX8_feed R 8 [x0, x1, some (.inl a), x3] (.inl a :: st) M := zU_step dX8_feed_7 (Or.inl rfl)
theorem dX8_feed_8 : decode cX8_feed 8 = .ok (.invokestatic 163, 3) := by decide +kernel
theorem rX8_feed_8 {R : zP} {x0 x1 x2 x3 : Option zV} {st : List zV} {M : zM} {a0 : zV} : uX8_feed R 8 [x0, x1, x2, x3] (a0 :: st) M ↔ (st.length ≤ 4 ∧ zcv tX8_isEight [a0] M (fun v M => uX8_feed R 11 [x0, x1, x2, x3] (v :: st) M)) := Iff.trans (zU_step dX8_feed_8 (Or.inl rfl)) ⟨fun h => ⟨h.2.1, zcv_of h.2.2⟩, fun h => ⟨rfl, h.1, zcv_to h.2⟩⟩
theorem dX8_feed_11 : decode cX8_feed 11 = .ok (.ifCond .eq 10, 3) := by decide +kernel
theorem rX8_feed_11 {R : zP} {x0 x1 x2 x3 : Option zV} {st : List zV} {M : zM} {a : Int} : uX8_feed R 11 [x0, x1, x2, x3] (.inl a :: st) M ↔ (zIR a ∧ if a = 0 then uX8_feed R 21 [x0, x1, x2, x3] st M else uX8_feed R 14 [x0, x1, x2, x3] st M) := Iff.trans (zU_step dX8_feed_11 (Or.inl rfl)) ⟨fun h => ⟨h.1.1, (zite (c := a = 0)).mpr h.2⟩, fun h => ⟨⟨h.1, by decide⟩, (zite (c := a = 0)).mp h.2⟩⟩
theorem dX8_feed_14 : decode cX8_feed 14 = .ok (.iload_n 3, 1) := by decide +kernel
theorem rX8_feed_14 {R : zP} {x0 x1 x2 : Option zV} {st : List zV} {M : zM} {a : Int} : uX8_feed R 14 [x0, x1, x2, some (.inl a)] st M ↔ uX8_feed R 15 [x0, x1, x2, some (.inl a)] (.inl a :: st) M := zU_step dX8_feed_14 (Or.inl rfl)
theorem dX8_feed_15 : decode cX8_feed 15 = .ok (.invokestatic 163, 3) := by decide +kernel
theorem rX8_feed_15 {R : zP} {x0 x1 x2 x3 : Option zV} {st : List zV} {M : zM} {a0 : zV} : uX8_feed R 15 [x0, x1, x2, x3] (a0 :: st) M ↔ (st.length ≤ 4 ∧ zcv tX8_isEight [a0] M (fun v M => uX8_feed R 18 [x0, x1, x2, x3] (v :: st) M)) := Iff.trans (zU_step dX8_feed_15 (Or.inl rfl)) ⟨fun h => ⟨h.2.1, zcv_of h.2.2⟩, fun h => ⟨rfl, h.1, zcv_to h.2⟩⟩
theorem dX8_feed_18 : decode cX8_feed 18 = .ok (.ifCond .ne 6, 3) := by decide +kernel
theorem rX8_feed_18 {R : zP} {x0 x1 x2 x3 : Option zV} {st : List zV} {M : zM} {a : Int} : uX8_feed R 18 [x0, x1, x2, x3] (.inl a :: st) M ↔ (zIR a ∧ if a ≠ 0 then uX8_feed R 24 [x0, x1, x2, x3] st M else uX8_feed R 21 [x0, x1, x2, x3] st M) := Iff.trans (zU_step dX8_feed_18 (Or.inl rfl)) ⟨fun h => ⟨h.1.1, (zite (c := a ≠ 0)).mpr h.2⟩, fun h => ⟨⟨h.1, by decide⟩, (zite (c := a ≠ 0)).mp h.2⟩⟩
theorem dX8_feed_21 : decode cX8_feed 21 = .ok (.bipush (-2), 2) := by decide +kernel
theorem rX8_feed_21 {R : zP} {x0 x1 x2 x3 : Option zV} {st : List zV} {M : zM} : uX8_feed R 21 [x0, x1, x2, x3] st M ↔ uX8_feed R 23 [x0, x1, x2, x3] (.inl (-2) :: st) M := Iff.trans (zU_step dX8_feed_21 (Or.inl rfl)) ⟨fun h => h.2, fun h => ⟨by decide, h⟩⟩
theorem dX8_feed_23 : decode cX8_feed 23 = .ok (.ireturn, 1) := by decide +kernel
theorem rX8_feed_23 {R : zP} {x0 x1 x2 x3 : Option zV} {M : zM} {a : Int} : uX8_feed R 23 [x0, x1, x2, x3] [.inl a] M ↔ R (some (.inl a)) M := Iff.trans (zU_step dX8_feed_23 (Or.inl rfl)) ⟨fun h => h.2.2, fun h => ⟨rfl, Or.inl rfl, h⟩⟩
theorem dX8_feed_24 : decode cX8_feed 24 = .ok (.aload_n 0, 1) := by decide +kernel
theorem rX8_feed_24 {R : zP} {x1 x2 x3 : Option zV} {st : List zV} {M : zM} {a : Nat} : uX8_feed R 24 [some (.inr (.inr a)), x1, x2, x3] st M ↔ uX8_feed R 25 [some (.inr (.inr a)), x1, x2, x3] (.inr (.inr a) :: st) M := zU_step dX8_feed_24 (Or.inl rfl)
theorem dX8_feed_25 : decode cX8_feed 25 = .ok (.getfield 166, 3) := by decide +kernel
theorem rX8_feed_25 {R : zP} {x0 x1 x2 x3 : Option zV} {st : List zV} {M : zM} {r : Nat} : uX8_feed R 25 [x0, x1, x2, x3] (.inr (.inr r) :: st) M ↔ zgetx fX8 166 r M (fun v => uX8_feed R 28 [x0, x1, x2, x3] (v :: st) M) := zU_step dX8_feed_25 (Or.inl rfl)
theorem dX8_feed_28 : decode cX8_feed 28 = .ok (.bipush 8, 2) := by decide +kernel
theorem rX8_feed_28 {R : zP} {x0 x1 x2 x3 : Option zV} {st : List zV} {M : zM} : uX8_feed R 28 [x0, x1, x2, x3] st M ↔ uX8_feed R 30 [x0, x1, x2, x3] (.inl (8) :: st) M := Iff.trans (zU_step dX8_feed_28 (Or.inl rfl)) ⟨fun h => h.2, fun h => ⟨by decide, h⟩⟩
theorem dX8_feed_30 : decode cX8_feed 30 = .ok (.if_icmp .ne 6, 3) := by decide +kernel
theorem rX8_feed_30 {R : zP} {x0 x1 x2 x3 : Option zV} {st : List zV} {M : zM} {a b : Int} : uX8_feed R 30 [x0, x1, x2, x3] (.inl b :: .inl a :: st) M ↔ ((zIR a ∧ zIR b) ∧ if a ≠ b then uX8_feed R 36 [x0, x1, x2, x3] st M else uX8_feed R 33 [x0, x1, x2, x3] st M) := Iff.trans (zU_step dX8_feed_30 (Or.inl rfl)) ⟨fun h => ⟨⟨h.1.1, h.1.2.1⟩, (zite (c := a ≠ b)).mpr h.2⟩, fun h => ⟨⟨h.1.1, h.1.2, by decide⟩, (zite (c := a ≠ b)).mp h.2⟩⟩
theorem dX8_feed_33 : decode cX8_feed 33 = .ok (.bipush (-4), 2) := by decide +kernel
theorem rX8_feed_33 {R : zP} {x0 x1 x2 x3 : Option zV} {st : List zV} {M : zM} : uX8_feed R 33 [x0, x1, x2, x3] st M ↔ uX8_feed R 35 [x0, x1, x2, x3] (.inl (-4) :: st) M := Iff.trans (zU_step dX8_feed_33 (Or.inl rfl)) ⟨fun h => h.2, fun h => ⟨by decide, h⟩⟩
theorem dX8_feed_35 : decode cX8_feed 35 = .ok (.ireturn, 1) := by decide +kernel
theorem rX8_feed_35 {R : zP} {x0 x1 x2 x3 : Option zV} {M : zM} {a : Int} : uX8_feed R 35 [x0, x1, x2, x3] [.inl a] M ↔ R (some (.inl a)) M := Iff.trans (zU_step dX8_feed_35 (Or.inl rfl)) ⟨fun h => h.2.2, fun h => ⟨rfl, Or.inl rfl, h⟩⟩
theorem dX8_feed_36 : decode cX8_feed 36 = .ok (.aload_n 0, 1) := by decide +kernel
theorem rX8_feed_36 {R : zP} {x1 x2 x3 : Option zV} {st : List zV} {M : zM} {a : Nat} : uX8_feed R 36 [some (.inr (.inr a)), x1, x2, x3] st M ↔ uX8_feed R 37 [some (.inr (.inr a)), x1, x2, x3] (.inr (.inr a) :: st) M := zU_step dX8_feed_36 (Or.inl rfl)
theorem dX8_feed_37 : decode cX8_feed 37 = .ok (.getfield 28, 3) := by decide +kernel
theorem rX8_feed_37 {R : zP} {x0 x1 x2 x3 : Option zV} {st : List zV} {M : zM} {r : Nat} : uX8_feed R 37 [x0, x1, x2, x3] (.inr (.inr r) :: st) M ↔ zgetx fX8 28 r M (fun v => uX8_feed R 40 [x0, x1, x2, x3] (v :: st) M) := zU_step dX8_feed_37 (Or.inl rfl)
theorem dX8_feed_40 : decode cX8_feed 40 = .ok (.aload_n 0, 1) := by decide +kernel
theorem rX8_feed_40 {R : zP} {x1 x2 x3 : Option zV} {st : List zV} {M : zM} {a : Nat} : uX8_feed R 40 [some (.inr (.inr a)), x1, x2, x3] st M ↔ uX8_feed R 41 [some (.inr (.inr a)), x1, x2, x3] (.inr (.inr a) :: st) M := zU_step dX8_feed_40 (Or.inl rfl)
theorem dX8_feed_41 : decode cX8_feed 41 = .ok (.getfield 166, 3) := by decide +kernel
theorem rX8_feed_41 {R : zP} {x0 x1 x2 x3 : Option zV} {st : List zV} {M : zM} {r : Nat} : uX8_feed R 41 [x0, x1, x2, x3] (.inr (.inr r) :: st) M ↔ zgetx fX8 166 r M (fun v => uX8_feed R 44 [x0, x1, x2, x3] (v :: st) M) := zU_step dX8_feed_41 (Or.inl rfl)
theorem dX8_feed_44 : decode cX8_feed 44 = .ok (.iload_n 1, 1) := by decide +kernel
theorem rX8_feed_44 {R : zP} {x0 x2 x3 : Option zV} {st : List zV} {M : zM} {a : Int} : uX8_feed R 44 [x0, some (.inl a), x2, x3] st M ↔ uX8_feed R 45 [x0, some (.inl a), x2, x3] (.inl a :: st) M := zU_step dX8_feed_44 (Or.inl rfl)
theorem dX8_feed_45 : decode cX8_feed 45 = .ok (.iastore, 1) := by decide +kernel
theorem rX8_feed_45 {R : zP} {x0 x1 x2 x3 : Option zV} {st : List zV} {M : zM} {i v : Int} {r : Nat} : uX8_feed R 45 [x0, x1, x2, x3] (.inl v :: .inl i :: .inr (.inr r) :: st) M ↔ zwrite 0 r i (uX8_feed R 46 [x0, x1, x2, x3] st (zup M r i v)) := zU_step dX8_feed_45 (Or.inl rfl)
theorem dX8_feed_46 : decode cX8_feed 46 = .ok (.aload_n 0, 1) := by decide +kernel
theorem rX8_feed_46 {R : zP} {x1 x2 x3 : Option zV} {st : List zV} {M : zM} {a : Nat} : uX8_feed R 46 [some (.inr (.inr a)), x1, x2, x3] st M ↔ uX8_feed R 47 [some (.inr (.inr a)), x1, x2, x3] (.inr (.inr a) :: st) M := zU_step dX8_feed_46 (Or.inl rfl)
theorem dX8_feed_47 : decode cX8_feed 47 = .ok (.getfield 31, 3) := by decide +kernel
theorem rX8_feed_47 {R : zP} {x0 x1 x2 x3 : Option zV} {st : List zV} {M : zM} {r : Nat} : uX8_feed R 47 [x0, x1, x2, x3] (.inr (.inr r) :: st) M ↔ zgetx fX8 31 r M (fun v => uX8_feed R 50 [x0, x1, x2, x3] (v :: st) M) := zU_step dX8_feed_47 (Or.inl rfl)
theorem dX8_feed_50 : decode cX8_feed 50 = .ok (.aload_n 0, 1) := by decide +kernel
theorem rX8_feed_50 {R : zP} {x1 x2 x3 : Option zV} {st : List zV} {M : zM} {a : Nat} : uX8_feed R 50 [some (.inr (.inr a)), x1, x2, x3] st M ↔ uX8_feed R 51 [some (.inr (.inr a)), x1, x2, x3] (.inr (.inr a) :: st) M := zU_step dX8_feed_50 (Or.inl rfl)
theorem dX8_feed_51 : decode cX8_feed 51 = .ok (.getfield 166, 3) := by decide +kernel
theorem rX8_feed_51 {R : zP} {x0 x1 x2 x3 : Option zV} {st : List zV} {M : zM} {r : Nat} : uX8_feed R 51 [x0, x1, x2, x3] (.inr (.inr r) :: st) M ↔ zgetx fX8 166 r M (fun v => uX8_feed R 54 [x0, x1, x2, x3] (v :: st) M) := zU_step dX8_feed_51 (Or.inl rfl)
theorem dX8_feed_54 : decode cX8_feed 54 = .ok (.iload_n 2, 1) := by decide +kernel
theorem rX8_feed_54 {R : zP} {x0 x1 x3 : Option zV} {st : List zV} {M : zM} {a : Int} : uX8_feed R 54 [x0, x1, some (.inl a), x3] st M ↔ uX8_feed R 55 [x0, x1, some (.inl a), x3] (.inl a :: st) M := zU_step dX8_feed_54 (Or.inl rfl)
theorem dX8_feed_55 : decode cX8_feed 55 = .ok (.iastore, 1) := by decide +kernel
theorem rX8_feed_55 {R : zP} {x0 x1 x2 x3 : Option zV} {st : List zV} {M : zM} {i v : Int} {r : Nat} : uX8_feed R 55 [x0, x1, x2, x3] (.inl v :: .inl i :: .inr (.inr r) :: st) M ↔ zwrite 0 r i (uX8_feed R 56 [x0, x1, x2, x3] st (zup M r i v)) := zU_step dX8_feed_55 (Or.inl rfl)
theorem dX8_feed_56 : decode cX8_feed 56 = .ok (.aload_n 0, 1) := by decide +kernel
theorem rX8_feed_56 {R : zP} {x1 x2 x3 : Option zV} {st : List zV} {M : zM} {a : Nat} : uX8_feed R 56 [some (.inr (.inr a)), x1, x2, x3] st M ↔ uX8_feed R 57 [some (.inr (.inr a)), x1, x2, x3] (.inr (.inr a) :: st) M := zU_step dX8_feed_56 (Or.inl rfl)
theorem dX8_feed_57 : decode cX8_feed 57 = .ok (.getfield 34, 3) := by decide +kernel
theorem rX8_feed_57 {R : zP} {x0 x1 x2 x3 : Option zV} {st : List zV} {M : zM} {r : Nat} : uX8_feed R 57 [x0, x1, x2, x3] (.inr (.inr r) :: st) M ↔ zgetx fX8 34 r M (fun v => uX8_feed R 60 [x0, x1, x2, x3] (v :: st) M) := zU_step dX8_feed_57 (Or.inl rfl)
theorem dX8_feed_60 : decode cX8_feed 60 = .ok (.aload_n 0, 1) := by decide +kernel
theorem rX8_feed_60 {R : zP} {x1 x2 x3 : Option zV} {st : List zV} {M : zM} {a : Nat} : uX8_feed R 60 [some (.inr (.inr a)), x1, x2, x3] st M ↔ uX8_feed R 61 [some (.inr (.inr a)), x1, x2, x3] (.inr (.inr a) :: st) M := zU_step dX8_feed_60 (Or.inl rfl)
theorem dX8_feed_61 : decode cX8_feed 61 = .ok (.getfield 166, 3) := by decide +kernel
theorem rX8_feed_61 {R : zP} {x0 x1 x2 x3 : Option zV} {st : List zV} {M : zM} {r : Nat} : uX8_feed R 61 [x0, x1, x2, x3] (.inr (.inr r) :: st) M ↔ zgetx fX8 166 r M (fun v => uX8_feed R 64 [x0, x1, x2, x3] (v :: st) M) := zU_step dX8_feed_61 (Or.inl rfl)
theorem dX8_feed_64 : decode cX8_feed 64 = .ok (.iload_n 3, 1) := by decide +kernel
theorem rX8_feed_64 {R : zP} {x0 x1 x2 : Option zV} {st : List zV} {M : zM} {a : Int} : uX8_feed R 64 [x0, x1, x2, some (.inl a)] st M ↔ uX8_feed R 65 [x0, x1, x2, some (.inl a)] (.inl a :: st) M := zU_step dX8_feed_64 (Or.inl rfl)
theorem dX8_feed_65 : decode cX8_feed 65 = .ok (.iastore, 1) := by decide +kernel
theorem rX8_feed_65 {R : zP} {x0 x1 x2 x3 : Option zV} {st : List zV} {M : zM} {i v : Int} {r : Nat} : uX8_feed R 65 [x0, x1, x2, x3] (.inl v :: .inl i :: .inr (.inr r) :: st) M ↔ zwrite 0 r i (uX8_feed R 66 [x0, x1, x2, x3] st (zup M r i v)) := zU_step dX8_feed_65 (Or.inl rfl)
theorem dX8_feed_66 : decode cX8_feed 66 = .ok (.aload_n 0, 1) := by decide +kernel
theorem rX8_feed_66 {R : zP} {x1 x2 x3 : Option zV} {st : List zV} {M : zM} {a : Nat} : uX8_feed R 66 [some (.inr (.inr a)), x1, x2, x3] st M ↔ uX8_feed R 67 [some (.inr (.inr a)), x1, x2, x3] (.inr (.inr a) :: st) M := zU_step dX8_feed_66 (Or.inl rfl)
theorem dX8_feed_67 : decode cX8_feed 67 = .ok (.dup, 1) := by decide +kernel
theorem rX8_feed_67 {R : zP} {x0 x1 x2 x3 : Option zV} {st : List zV} {M : zM} {a : Nat} : uX8_feed R 67 [x0, x1, x2, x3] (.inr (.inr a) :: st) M ↔ uX8_feed R 68 [x0, x1, x2, x3] (.inr (.inr a) :: .inr (.inr a) :: st) M := zU_step dX8_feed_67 (Or.inl rfl)
theorem dX8_feed_68 : decode cX8_feed 68 = .ok (.getfield 166, 3) := by decide +kernel
theorem rX8_feed_68 {R : zP} {x0 x1 x2 x3 : Option zV} {st : List zV} {M : zM} {r : Nat} : uX8_feed R 68 [x0, x1, x2, x3] (.inr (.inr r) :: st) M ↔ zgetx fX8 166 r M (fun v => uX8_feed R 71 [x0, x1, x2, x3] (v :: st) M) := zU_step dX8_feed_68 (Or.inl rfl)
theorem dX8_feed_71 : decode cX8_feed 71 = .ok (.iconst 1, 1) := by decide +kernel
theorem rX8_feed_71 {R : zP} {x0 x1 x2 x3 : Option zV} {st : List zV} {M : zM} : uX8_feed R 71 [x0, x1, x2, x3] st M ↔ uX8_feed R 72 [x0, x1, x2, x3] (.inl (1) :: st) M := zU_step dX8_feed_71 (Or.inl rfl)
theorem dX8_feed_72 : decode cX8_feed 72 = .ok (.iadd, 1) := by decide +kernel
theorem rX8_feed_72 {R : zP} {x0 x1 x2 x3 : Option zV} {st : List zV} {M : zM} {a b : Int} : uX8_feed R 72 [x0, x1, x2, x3] (.inl b :: .inl a :: st) M ↔ uX8_feed R 73 [x0, x1, x2, x3] (.inl (a + b) :: st) M := zU_step dX8_feed_72 (Or.inl rfl)
theorem dX8_feed_73 : decode cX8_feed 73 = .ok (.putfield 166, 3) := by decide +kernel
theorem rX8_feed_73 {R : zP} {x0 x1 x2 x3 : Option zV} {st : List zV} {M : zM} {r : Nat} {v : zV} : uX8_feed R 73 [x0, x1, x2, x3] (v :: .inr (.inr r) :: st) M ↔ zputx fX8 166 r M v (fun M => uX8_feed R 76 [x0, x1, x2, x3] st M) := zU_step dX8_feed_73 (Or.inl rfl)
theorem dX8_feed_76 : decode cX8_feed 76 = .ok (.aload_n 0, 1) := by decide +kernel
theorem rX8_feed_76 {R : zP} {x1 x2 x3 : Option zV} {st : List zV} {M : zM} {a : Nat} : uX8_feed R 76 [some (.inr (.inr a)), x1, x2, x3] st M ↔ uX8_feed R 77 [some (.inr (.inr a)), x1, x2, x3] (.inr (.inr a) :: st) M := zU_step dX8_feed_76 (Or.inl rfl)
theorem dX8_feed_77 : decode cX8_feed 77 = .ok (.getfield 166, 3) := by decide +kernel
theorem rX8_feed_77 {R : zP} {x0 x1 x2 x3 : Option zV} {st : List zV} {M : zM} {r : Nat} : uX8_feed R 77 [x0, x1, x2, x3] (.inr (.inr r) :: st) M ↔ zgetx fX8 166 r M (fun v => uX8_feed R 80 [x0, x1, x2, x3] (v :: st) M) := zU_step dX8_feed_77 (Or.inl rfl)
theorem dX8_feed_80 : decode cX8_feed 80 = .ok (.ireturn, 1) := by decide +kernel
theorem rX8_feed_80 {R : zP} {x0 x1 x2 x3 : Option zV} {M : zM} {a : Int} : uX8_feed R 80 [x0, x1, x2, x3] [.inl a] M ↔ R (some (.inl a)) M := Iff.trans (zU_step dX8_feed_80 (Or.inl rfl)) ⟨fun h => h.2.2, fun h => ⟨rfl, Or.inl rfl, h⟩⟩
theorem eX8_feed {R : zP} {M : zM} {a0 : Nat} {p0 : Int} {p1 : Int} {p2 : Int} : tX8_feed [.inr (.inr a0), .inl p0, .inl p1, .inl p2] M R ↔ uX8_feed R 0 [some (.inr (.inr a0)), some (.inl p0), some (.inl p1), some (.inl p2)] [] M := ⟨fun h => h.2, fun h => ⟨show 4 ≤ 4 by decide, h⟩⟩
def uX8_back (R : zP) : zK := zU fX8 vX8_back cX8_back R
theorem dX8_back_0 : decode cX8_back 0 = .ok (.aload_n 0, 1) := by decide +kernel
theorem rX8_back_0 {R : zP} {st : List zV} {M : zM} {a : Nat} : uX8_back R 0 [some (.inr (.inr a))] st M ↔ uX8_back R 1 [some (.inr (.inr a))] (.inr (.inr a) :: st) M := zU_step dX8_back_0 (Or.inl rfl)
theorem dX8_back_1 : decode cX8_back 1 = .ok (.getfield 166, 3) := by decide +kernel
theorem rX8_back_1 {R : zP} {x0 : Option zV} {st : List zV} {M : zM} {r : Nat} : uX8_back R 1 [x0] (.inr (.inr r) :: st) M ↔ zgetx fX8 166 r M (fun v => uX8_back R 4 [x0] (v :: st) M) := zU_step dX8_back_1 (Or.inl rfl)
theorem dX8_back_4 : decode cX8_back 4 = .ok (.ifCond .ne 6, 3) := by decide +kernel
theorem rX8_back_4 {R : zP} {x0 : Option zV} {st : List zV} {M : zM} {a : Int} : uX8_back R 4 [x0] (.inl a :: st) M ↔ (zIR a ∧ if a ≠ 0 then uX8_back R 10 [x0] st M else uX8_back R 7 [x0] st M) := Iff.trans (zU_step dX8_back_4 (Or.inl rfl)) ⟨fun h => ⟨h.1.1, (zite (c := a ≠ 0)).mpr h.2⟩, fun h => ⟨⟨h.1, by decide⟩, (zite (c := a ≠ 0)).mp h.2⟩⟩
theorem dX8_back_7 : decode cX8_back 7 = .ok (.bipush (-3), 2) := by decide +kernel
theorem rX8_back_7 {R : zP} {x0 : Option zV} {st : List zV} {M : zM} : uX8_back R 7 [x0] st M ↔ uX8_back R 9 [x0] (.inl (-3) :: st) M := Iff.trans (zU_step dX8_back_7 (Or.inl rfl)) ⟨fun h => h.2, fun h => ⟨by decide, h⟩⟩
theorem dX8_back_9 : decode cX8_back 9 = .ok (.ireturn, 1) := by decide +kernel
theorem rX8_back_9 {R : zP} {x0 : Option zV} {M : zM} {a : Int} : uX8_back R 9 [x0] [.inl a] M ↔ R (some (.inl a)) M := Iff.trans (zU_step dX8_back_9 (Or.inl rfl)) ⟨fun h => h.2.2, fun h => ⟨rfl, Or.inl rfl, h⟩⟩
theorem dX8_back_10 : decode cX8_back 10 = .ok (.aload_n 0, 1) := by decide +kernel
theorem rX8_back_10 {R : zP} {st : List zV} {M : zM} {a : Nat} : uX8_back R 10 [some (.inr (.inr a))] st M ↔ uX8_back R 11 [some (.inr (.inr a))] (.inr (.inr a) :: st) M := zU_step dX8_back_10 (Or.inl rfl)
theorem dX8_back_11 : decode cX8_back 11 = .ok (.dup, 1) := by decide +kernel
theorem rX8_back_11 {R : zP} {x0 : Option zV} {st : List zV} {M : zM} {a : Nat} : uX8_back R 11 [x0] (.inr (.inr a) :: st) M ↔ uX8_back R 12 [x0] (.inr (.inr a) :: .inr (.inr a) :: st) M := zU_step dX8_back_11 (Or.inl rfl)
theorem dX8_back_12 : decode cX8_back 12 = .ok (.getfield 166, 3) := by decide +kernel
theorem rX8_back_12 {R : zP} {x0 : Option zV} {st : List zV} {M : zM} {r : Nat} : uX8_back R 12 [x0] (.inr (.inr r) :: st) M ↔ zgetx fX8 166 r M (fun v => uX8_back R 15 [x0] (v :: st) M) := zU_step dX8_back_12 (Or.inl rfl)
theorem dX8_back_15 : decode cX8_back 15 = .ok (.iconst 1, 1) := by decide +kernel
theorem rX8_back_15 {R : zP} {x0 : Option zV} {st : List zV} {M : zM} : uX8_back R 15 [x0] st M ↔ uX8_back R 16 [x0] (.inl (1) :: st) M := zU_step dX8_back_15 (Or.inl rfl)
theorem dX8_back_16 : decode cX8_back 16 = .ok (.isub, 1) := by decide +kernel
theorem rX8_back_16 {R : zP} {x0 : Option zV} {st : List zV} {M : zM} {a b : Int} : uX8_back R 16 [x0] (.inl b :: .inl a :: st) M ↔ uX8_back R 17 [x0] (.inl (a - b) :: st) M := zU_step dX8_back_16 (Or.inl rfl)
theorem dX8_back_17 : decode cX8_back 17 = .ok (.putfield 166, 3) := by decide +kernel
theorem rX8_back_17 {R : zP} {x0 : Option zV} {st : List zV} {M : zM} {r : Nat} {v : zV} : uX8_back R 17 [x0] (v :: .inr (.inr r) :: st) M ↔ zputx fX8 166 r M v (fun M => uX8_back R 20 [x0] st M) := zU_step dX8_back_17 (Or.inl rfl)
theorem dX8_back_20 : decode cX8_back 20 = .ok (.aload_n 0, 1) := by decide +kernel
theorem rX8_back_20 {R : zP} {st : List zV} {M : zM} {a : Nat} : uX8_back R 20 [some (.inr (.inr a))] st M ↔ uX8_back R 21 [some (.inr (.inr a))] (.inr (.inr a) :: st) M := zU_step dX8_back_20 (Or.inl rfl)
theorem dX8_back_21 : decode cX8_back 21 = .ok (.getfield 166, 3) := by decide +kernel
theorem rX8_back_21 {R : zP} {x0 : Option zV} {st : List zV} {M : zM} {r : Nat} : uX8_back R 21 [x0] (.inr (.inr r) :: st) M ↔ zgetx fX8 166 r M (fun v => uX8_back R 24 [x0] (v :: st) M) := zU_step dX8_back_21 (Or.inl rfl)
theorem dX8_back_24 : decode cX8_back 24 = .ok (.ireturn, 1) := by decide +kernel
theorem rX8_back_24 {R : zP} {x0 : Option zV} {M : zM} {a : Int} : uX8_back R 24 [x0] [.inl a] M ↔ R (some (.inl a)) M := Iff.trans (zU_step dX8_back_24 (Or.inl rfl)) ⟨fun h => h.2.2, fun h => ⟨rfl, Or.inl rfl, h⟩⟩
theorem eX8_back {R : zP} {M : zM} {a0 : Nat} : tX8_back [.inr (.inr a0)] M R ↔ uX8_back R 0 [some (.inr (.inr a0))] [] M := ⟨fun h => h.2, fun h => ⟨show 1 ≤ 1 by decide, h⟩⟩
def uX8_isSheet (R : zP) : zK := zU fX8 vX8_isSheet cX8_isSheet R
theorem dX8_isSheet_0 : decode cX8_isSheet 0 = .ok (.iload_n 0, 1) := by decide +kernel
theorem rX8_isSheet_0 {R : zP} {st : List zV} {M : zM} {a : Int} : uX8_isSheet R 0 [some (.inl a)] st M ↔ uX8_isSheet R 1 [some (.inl a)] (.inl a :: st) M := zU_step dX8_isSheet_0 (Or.inl rfl)
theorem dX8_isSheet_1 : decode cX8_isSheet 1 = .ok (.iconst 0, 1) := by decide +kernel
theorem rX8_isSheet_1 {R : zP} {x0 : Option zV} {st : List zV} {M : zM} : uX8_isSheet R 1 [x0] st M ↔ uX8_isSheet R 2 [x0] (.inl (0) :: st) M := zU_step dX8_isSheet_1 (Or.inl rfl)
theorem dX8_isSheet_2 : decode cX8_isSheet 2 = .ok (.iconst 3, 1) := by decide +kernel
theorem rX8_isSheet_2 {R : zP} {x0 : Option zV} {st : List zV} {M : zM} : uX8_isSheet R 2 [x0] st M ↔ uX8_isSheet R 3 [x0] (.inl (3) :: st) M := zU_step dX8_isSheet_2 (Or.inl rfl)
theorem dX8_isSheet_3 : decode cX8_isSheet 3 = .ok (.invokestatic 112, 3) := by decide +kernel
theorem rX8_isSheet_3 {R : zP} {x0 : Option zV} {st : List zV} {M : zM} {a0 a1 a2 : zV} : uX8_isSheet R 3 [x0] (a2 :: a1 :: a0 :: st) M ↔ (st.length ≤ 4 ∧ zcv tX8_in [a0, a1, a2] M (fun v M => uX8_isSheet R 6 [x0] (v :: st) M)) := Iff.trans (zU_step dX8_isSheet_3 (Or.inl rfl)) ⟨fun h => ⟨h.2.1, zcv_of h.2.2⟩, fun h => ⟨rfl, h.1, zcv_to h.2⟩⟩
theorem dX8_isSheet_6 : decode cX8_isSheet 6 = .ok (.ireturn, 1) := by decide +kernel
theorem rX8_isSheet_6 {R : zP} {x0 : Option zV} {M : zM} {a : Int} : uX8_isSheet R 6 [x0] [.inl a] M ↔ ((a = 0 ∨ a = 1) ∧ R (some (.inl a)) M) := Iff.trans (zU_step dX8_isSheet_6 (Or.inl rfl)) ⟨fun h => ⟨zret2 rfl h.2.1, h.2.2⟩, fun h => ⟨rfl, Or.inr (Or.inl ⟨rfl, h.1⟩), h.2⟩⟩
theorem eX8_isSheet {R : zP} {M : zM} {p0 : Int} : tX8_isSheet [.inl p0] M R ↔ uX8_isSheet R 0 [some (.inl p0)] [] M := ⟨fun h => h.2, fun h => ⟨show 1 ≤ 1 by decide, h⟩⟩
def uX8_meets (R : zP) : zK := zU fX8 vX8_meets cX8_meets R
theorem dX8_meets_0 : decode cX8_meets 0 = .ok (.aload_n 0, 1) := by decide +kernel
theorem rX8_meets_0 {R : zP} {x1 : Option zV} {st : List zV} {M : zM} {a : Nat} : uX8_meets R 0 [some (.inr (.inr a)), x1] st M ↔ uX8_meets R 1 [some (.inr (.inr a)), x1] (.inr (.inr a) :: st) M := zU_step dX8_meets_0 (Or.inl rfl)
theorem dX8_meets_1 : decode cX8_meets 1 = .ok (.iload_n 1, 1) := by decide +kernel
theorem rX8_meets_1 {R : zP} {x0 : Option zV} {st : List zV} {M : zM} {a : Int} : uX8_meets R 1 [x0, some (.inl a)] st M ↔ uX8_meets R 2 [x0, some (.inl a)] (.inl a :: st) M := zU_step dX8_meets_1 (Or.inl rfl)
theorem dX8_meets_2 : decode cX8_meets 2 = .ok (.putfield 323, 3) := by decide +kernel
theorem rX8_meets_2 {R : zP} {x0 x1 : Option zV} {st : List zV} {M : zM} {r : Nat} {v : zV} : uX8_meets R 2 [x0, x1] (v :: .inr (.inr r) :: st) M ↔ zputx fX8 323 r M v (fun M => uX8_meets R 5 [x0, x1] st M) := zU_step dX8_meets_2 (Or.inl rfl)
theorem dX8_meets_5 : decode cX8_meets 5 = .ok (.bipush (-10), 2) := by decide +kernel
theorem rX8_meets_5 {R : zP} {x0 x1 : Option zV} {st : List zV} {M : zM} : uX8_meets R 5 [x0, x1] st M ↔ uX8_meets R 7 [x0, x1] (.inl (-10) :: st) M := Iff.trans (zU_step dX8_meets_5 (Or.inl rfl)) ⟨fun h => h.2, fun h => ⟨by decide, h⟩⟩
theorem dX8_meets_7 : decode cX8_meets 7 = .ok (.iload_n 1, 1) := by decide +kernel
theorem rX8_meets_7 {R : zP} {x0 : Option zV} {st : List zV} {M : zM} {a : Int} : uX8_meets R 7 [x0, some (.inl a)] st M ↔ uX8_meets R 8 [x0, some (.inl a)] (.inl a :: st) M := zU_step dX8_meets_7 (Or.inl rfl)
theorem dX8_meets_8 : decode cX8_meets 8 = .ok (.isub, 1) := by decide +kernel
theorem rX8_meets_8 {R : zP} {x0 x1 : Option zV} {st : List zV} {M : zM} {a b : Int} : uX8_meets R 8 [x0, x1] (.inl b :: .inl a :: st) M ↔ uX8_meets R 9 [x0, x1] (.inl (a - b) :: st) M := zU_step dX8_meets_8 (Or.inl rfl)
theorem dX8_meets_9 : decode cX8_meets 9 = .ok (.ireturn, 1) := by decide +kernel
theorem rX8_meets_9 {R : zP} {x0 x1 : Option zV} {M : zM} {a : Int} : uX8_meets R 9 [x0, x1] [.inl a] M ↔ R (some (.inl a)) M := Iff.trans (zU_step dX8_meets_9 (Or.inl rfl)) ⟨fun h => h.2.2, fun h => ⟨rfl, Or.inl rfl, h⟩⟩
theorem eX8_meets {R : zP} {M : zM} {a0 : Nat} {p0 : Int} : tX8_meets [.inr (.inr a0), .inl p0] M R ↔ uX8_meets R 0 [some (.inr (.inr a0)), some (.inl p0)] [] M := ⟨fun h => h.2, fun h => ⟨show 2 ≤ 2 by decide, h⟩⟩
