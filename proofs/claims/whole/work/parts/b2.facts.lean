theorem zarr_of {s : State} {A : Array Value} {ty : FieldType} (h : (Cond.arrayClass ty).before A s = true) : ∃ cA : ClassId, ArrOfT s cA ty ∧ s.vm.findClass ("[" ++ ty.toString) = some cA := by
  obtain ⟨c, k, comp, h1, h2, h3⟩ := Cond.arrayClass_spec h
  exact ⟨c, fun n z => ⟨fun k h => (by cases h), k, h2, comp, h3⟩, h1⟩
theorem zarrq_of {s : State} {C : String} (h : va_AO C s) : ∃ cA : ClassId, ArrOfT s cA (.object C) ∧ va_RA s cA (.object C) := by
  obtain ⟨comp, c, k, h1, h2, h3, h4, h5⟩ := Cond.arrayOver_spec h
  exact ⟨c, fun n z => ⟨fun k h => (by cases h), k, h3, comp, h4⟩, k, comp, h3, h4, h1, h5⟩
set_option maxRecDepth 100000 in
set_option maxHeartbeats 4000000 in
theorem zfacts {s : State} {b : Nat} (hts : ∀ w ∈ lw_tbl, w.before #[Value.ref b] s = true) (hgv : (Jvm.Cond.and given_1 narrow_1).before #[Value.ref b] s = true) : ∃ s1 s2 v1 v2 t2 t3 t4 : Nat, zNw s1 s2 s ∧ ∀ (G : va_G) (f : Nat → Nat) (T : Nat → ClassId), f 100 = s1 → f 101 = s2 → f 110 = v1 → f 111 = v2 → f 102 = t2 → f 103 = t3 → f 104 = t4 → zE (G, f, s.heap.size, T) s s.heap := by
  have hs := flat_of_before _ hgv
  have hA : ∀ a : Nat, a < s.heap.size → ¬ (fun q : Nat => s.heap.size ≤ q) a := fun a h => Nat.not_le.mpr h
  obtain ⟨t2, et2, Tt2⟩ := va_Tof (args := #[Value.ref b]) (s := s) (tm := (.static "DairyCollege" "STOMACHS" "[I")) (ty := .int) (N := 3) (f := fun j : Nat => .int (Int32.ofInt (zk102 j))) (A := fun q : Nat => s.heap.size ≤ q) (by decide) (hs _ (by decide +kernel)) (va_eqt (hs (.eq (.length (.static "DairyCollege" "STOMACHS" "[I")) (.int 3)) (by decide +kernel))) (by
    intro j hj
    rcases (show j = 0 ∨ j = 1 ∨ j = 2 by omega) with rfl | rfl | rfl
    · have h := va_eqt (hs (.eq (.elem (.static "DairyCollege" "STOMACHS" "[I") (.int 0)) (.int 3)) (by decide +kernel))
      exact h.trans (congrArg (fun z => some (Value.int z)) (show (3 : Int32) = Int32.ofInt (zk102 ((0 : Nat) : Int)) by decide))
    · have h := va_eqt (hs (.eq (.elem (.static "DairyCollege" "STOMACHS" "[I") (.int 1)) (.int 2)) (by decide +kernel))
      exact h.trans (congrArg (fun z => some (Value.int z)) (show (2 : Int32) = Int32.ofInt (zk102 ((1 : Nat) : Int)) by decide))
    · have h := va_eqt (hs (.eq (.elem (.static "DairyCollege" "STOMACHS" "[I") (.int 2)) (.int 5)) (by decide +kernel))
      exact h.trans (congrArg (fun z => some (Value.int z)) (show (5 : Int32) = Int32.ofInt (zk102 ((2 : Nat) : Int)) by decide))) hA
  obtain ⟨t3, et3, Tt3⟩ := va_Tof (args := #[Value.ref b]) (s := s) (tm := (.static "DairyCollege" "STRIDES" "[I")) (ty := .int) (N := 3) (f := fun j : Nat => .int (Int32.ofInt (zk103 j))) (A := fun q : Nat => s.heap.size ≤ q) (by decide) (hs _ (by decide +kernel)) (va_eqt (hs (.eq (.length (.static "DairyCollege" "STRIDES" "[I")) (.int 3)) (by decide +kernel))) (by
    intro j hj
    rcases (show j = 0 ∨ j = 1 ∨ j = 2 by omega) with rfl | rfl | rfl
    · have h := va_eqt (hs (.eq (.elem (.static "DairyCollege" "STRIDES" "[I") (.int 0)) (.int 1)) (by decide +kernel))
      exact h.trans (congrArg (fun z => some (Value.int z)) (show (1 : Int32) = Int32.ofInt (zk103 ((0 : Nat) : Int)) by decide))
    · have h := va_eqt (hs (.eq (.elem (.static "DairyCollege" "STRIDES" "[I") (.int 1)) (.int 2)) (by decide +kernel))
      exact h.trans (congrArg (fun z => some (Value.int z)) (show (2 : Int32) = Int32.ofInt (zk103 ((1 : Nat) : Int)) by decide))
    · have h := va_eqt (hs (.eq (.elem (.static "DairyCollege" "STRIDES" "[I") (.int 2)) (.int 0)) (by decide +kernel))
      exact h.trans (congrArg (fun z => some (Value.int z)) (show (0 : Int32) = Int32.ofInt (zk103 ((2 : Nat) : Int)) by decide))) hA
  obtain ⟨t4, et4, Tt4⟩ := va_Tof (args := #[Value.ref b]) (s := s) (tm := (.static "DairyCollege" "FACTORIALS" "[I")) (ty := .int) (N := 8) (f := fun j : Nat => .int (Int32.ofInt (zk104 j))) (A := fun q : Nat => s.heap.size ≤ q) (by decide) (hs _ (by decide +kernel)) (va_eqt (hs (.eq (.length (.static "DairyCollege" "FACTORIALS" "[I")) (.int 8)) (by decide +kernel))) (by
    intro j hj
    rcases (show j = 0 ∨ j = 1 ∨ j = 2 ∨ j = 3 ∨ j = 4 ∨ j = 5 ∨ j = 6 ∨ j = 7 by omega) with rfl | rfl | rfl | rfl | rfl | rfl | rfl | rfl
    · have h := va_eqt (hs (.eq (.elem (.static "DairyCollege" "FACTORIALS" "[I") (.int 0)) (.int 1)) (by decide +kernel))
      exact h.trans (congrArg (fun z => some (Value.int z)) (show (1 : Int32) = Int32.ofInt (zk104 ((0 : Nat) : Int)) by decide))
    · have h := va_eqt (hs (.eq (.elem (.static "DairyCollege" "FACTORIALS" "[I") (.int 1)) (.int 1)) (by decide +kernel))
      exact h.trans (congrArg (fun z => some (Value.int z)) (show (1 : Int32) = Int32.ofInt (zk104 ((1 : Nat) : Int)) by decide))
    · have h := va_eqt (hs (.eq (.elem (.static "DairyCollege" "FACTORIALS" "[I") (.int 2)) (.int 2)) (by decide +kernel))
      exact h.trans (congrArg (fun z => some (Value.int z)) (show (2 : Int32) = Int32.ofInt (zk104 ((2 : Nat) : Int)) by decide))
    · have h := va_eqt (hs (.eq (.elem (.static "DairyCollege" "FACTORIALS" "[I") (.int 3)) (.int 6)) (by decide +kernel))
      exact h.trans (congrArg (fun z => some (Value.int z)) (show (6 : Int32) = Int32.ofInt (zk104 ((3 : Nat) : Int)) by decide))
    · have h := va_eqt (hs (.eq (.elem (.static "DairyCollege" "FACTORIALS" "[I") (.int 4)) (.int 24)) (by decide +kernel))
      exact h.trans (congrArg (fun z => some (Value.int z)) (show (24 : Int32) = Int32.ofInt (zk104 ((4 : Nat) : Int)) by decide))
    · have h := va_eqt (hs (.eq (.elem (.static "DairyCollege" "FACTORIALS" "[I") (.int 5)) (.int 120)) (by decide +kernel))
      exact h.trans (congrArg (fun z => some (Value.int z)) (show (120 : Int32) = Int32.ofInt (zk104 ((5 : Nat) : Int)) by decide))
    · have h := va_eqt (hs (.eq (.elem (.static "DairyCollege" "FACTORIALS" "[I") (.int 6)) (.int 720)) (by decide +kernel))
      exact h.trans (congrArg (fun z => some (Value.int z)) (show (720 : Int32) = Int32.ofInt (zk104 ((6 : Nat) : Int)) by decide))
    · have h := va_eqt (hs (.eq (.elem (.static "DairyCollege" "FACTORIALS" "[I") (.int 7)) (.int 5040)) (by decide +kernel))
      exact h.trans (congrArg (fun z => some (Value.int z)) (show (5040 : Int32) = Int32.ofInt (zk104 ((7 : Nat) : Int)) by decide))) hA
  obtain ⟨s1, _, _, _, es1, _⟩ := Cond.exactly_spec (args := #[Value.ref b]) (first := s) (o := none) (s := s) (idx := []) (t := .string "DairyCollege" 9) (cls := "java/lang/String") (hs _ (by decide +kernel))
  have O1 := va_Oof (A := fun q : Nat => s.heap.size ≤ q) (hs (.exactly (.string "DairyCollege" 9) "java/lang/String") (by decide +kernel)) es1 hA
  have C1 := vk_OFof (A := fun q : Nat => s.heap.size ≤ q) es1 (va_eqt (hs (.eq (.field (.string "DairyCollege" 9) "java/lang/String" "coder" "B") (.int 0)) (by decide +kernel))) hA
  obtain ⟨v1, ev1, Tv1⟩ := va_Tof (args := #[Value.ref b]) (s := s) (tm := (.field (.string "DairyCollege" 9) "java/lang/String" "value" "[B")) (ty := .byte) (N := 3) (f := fun j : Nat => .int (Int32.ofInt (zk110 j))) (A := fun q : Nat => s.heap.size ≤ q) (by decide) (hs _ (by decide +kernel)) (va_eqt (hs (.eq (.length (.field (.string "DairyCollege" 9) "java/lang/String" "value" "[B")) (.int 3)) (by decide +kernel))) (by
    intro j hj
    rcases (show j = 0 ∨ j = 1 ∨ j = 2 by omega) with rfl | rfl | rfl
    · have h := va_eqt (hs (.eq (.elem (.field (.string "DairyCollege" 9) "java/lang/String" "value" "[B") (.int 0)) (.int 112)) (by decide +kernel))
      exact h.trans (congrArg (fun z => some (Value.int z)) (show (112 : Int32) = Int32.ofInt (zk110 ((0 : Nat) : Int)) by decide))
    · have h := va_eqt (hs (.eq (.elem (.field (.string "DairyCollege" 9) "java/lang/String" "value" "[B") (.int 1)) (.int 116)) (by decide +kernel))
      exact h.trans (congrArg (fun z => some (Value.int z)) (show (116 : Int32) = Int32.ofInt (zk110 ((1 : Nat) : Int)) by decide))
    · have h := va_eqt (hs (.eq (.elem (.field (.string "DairyCollege" 9) "java/lang/String" "value" "[B") (.int 2)) (.int 105)) (by decide +kernel))
      exact h.trans (congrArg (fun z => some (Value.int z)) (show (105 : Int32) = Int32.ofInt (zk110 ((2 : Nat) : Int)) by decide))) hA
  have V1 := vk_OFof (A := fun q : Nat => s.heap.size ≤ q) es1 ev1 hA
  obtain ⟨s2, _, _, _, es2, _⟩ := Cond.exactly_spec (args := #[Value.ref b]) (first := s) (o := none) (s := s) (idx := []) (t := .string "DairyCollege" 20) (cls := "java/lang/String") (hs _ (by decide +kernel))
  have O2 := va_Oof (A := fun q : Nat => s.heap.size ≤ q) (hs (.exactly (.string "DairyCollege" 20) "java/lang/String") (by decide +kernel)) es2 hA
  have C2 := vk_OFof (A := fun q : Nat => s.heap.size ≤ q) es2 (va_eqt (hs (.eq (.field (.string "DairyCollege" 20) "java/lang/String" "coder" "B") (.int 0)) (by decide +kernel))) hA
  obtain ⟨v2, ev2, Tv2⟩ := va_Tof (args := #[Value.ref b]) (s := s) (tm := (.field (.string "DairyCollege" 20) "java/lang/String" "value" "[B")) (ty := .byte) (N := 2) (f := fun j : Nat => .int (Int32.ofInt (zk111 j))) (A := fun q : Nat => s.heap.size ≤ q) (by decide) (hs _ (by decide +kernel)) (va_eqt (hs (.eq (.length (.field (.string "DairyCollege" 20) "java/lang/String" "value" "[B")) (.int 2)) (by decide +kernel))) (by
    intro j hj
    rcases (show j = 0 ∨ j = 1 by omega) with rfl | rfl
    · have h := va_eqt (hs (.eq (.elem (.field (.string "DairyCollege" 20) "java/lang/String" "value" "[B") (.int 0)) (.int 114)) (by decide +kernel))
      exact h.trans (congrArg (fun z => some (Value.int z)) (show (114 : Int32) = Int32.ofInt (zk111 ((0 : Nat) : Int)) by decide))
    · have h := va_eqt (hs (.eq (.elem (.field (.string "DairyCollege" 20) "java/lang/String" "value" "[B") (.int 1)) (.int 119)) (by decide +kernel))
      exact h.trans (congrArg (fun z => some (Value.int z)) (show (119 : Int32) = Int32.ofInt (zk111 ((1 : Nat) : Int)) by decide))) hA
  have V2 := vk_OFof (A := fun q : Nat => s.heap.size ≤ q) es2 ev2 hA
  have Z102 := va_Zref (A := fun q : Nat => s.heap.size ≤ q) (hts _ (List.mem_of_getElem? (i := 510) (by decide +kernel))) (hts _ (List.mem_of_getElem? (i := 83) (by decide +kernel))) et2 hA
  have Z103 := va_Zref (A := fun q : Nat => s.heap.size ≤ q) (hts _ (List.mem_of_getElem? (i := 512) (by decide +kernel))) (hts _ (List.mem_of_getElem? (i := 83) (by decide +kernel))) et3 hA
  have Z104 := va_Zref (A := fun q : Nat => s.heap.size ≤ q) (hts _ (List.mem_of_getElem? (i := 599) (by decide +kernel))) (hts _ (List.mem_of_getElem? (i := 83) (by decide +kernel))) et4 hA
  have ZC := va_Zof (A := fun q : Nat => s.heap.size ≤ q) (hts _ (List.mem_of_getElem? (i := 363) (by decide +kernel))) (hts _ (List.mem_of_getElem? (i := 92) (by decide +kernel))) (va_eqt (hs (.eq (.static "java/lang/String" "COMPACT_STRINGS" "Z") (.int 1)) (by decide +kernel))) hA
  refine ⟨s1, s2, v1, v2, t2, t3, t4, ⟨va_Nw.of rfl (hts _ (List.mem_of_getElem? (i := 146) (by decide +kernel))), va_Nw.of rfl (hts _ (List.mem_of_getElem? (i := 173) (by decide +kernel))), va_Nw.of rfl (hts _ (List.mem_of_getElem? (i := 198) (by decide +kernel))), va_Nw.of rfl (hts _ (List.mem_of_getElem? (i := 228) (by decide +kernel))), va_Nw.of rfl (hts _ (List.mem_of_getElem? (i := 244) (by decide +kernel))), va_Nw.of rfl (hts _ (List.mem_of_getElem? (i := 256) (by decide +kernel))), va_AO.of (hts _ (List.mem_of_getElem? (i := 195) (by decide +kernel))), vk_R.of (hts _ (List.mem_of_getElem? (i := 111) (by decide +kernel))) es1, vk_R.of (hts _ (List.mem_of_getElem? (i := 143) (by decide +kernel))) es2⟩, ?_⟩
  intro G f T e1 e2 e3 e4 e5 e6 e7
  subst e1 e2 e3 e4 e5 e6 e7
  exact ⟨Z102, Z103, Z104, Tt2, Tt3, Tt4, ZC, O1, O2, C1, C2, V1, V2, Tv1, Tv2, va_Nw.of rfl (hts _ (List.mem_of_getElem? (i := 509) (by decide +kernel))), va_Nw.of rfl (hts _ (List.mem_of_getElem? (i := 511) (by decide +kernel)))⟩
