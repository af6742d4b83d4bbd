theorem zl_fx {L : Nat} {xs : Int → Int} {r : Nat} {q : Nat × Nat × (Int → Int)} (h : zFx (fL L xs) r = some q) : r = 105 ∧ q = (0, L, xs) := by
  have h : (if r = 105 then some (0, L, xs) else none) = some q := h
  by_cases e : r = 105
  · rw [if_pos e] at h
    exact ⟨e, (Option.some.inj h).symm⟩
  · rw [if_neg e] at h
    cases h
theorem zl_U {L : Nat} {xs : Nat → Int32} (hL : L ≤ 384) : uL L (fun j => (xs j.toNat).toInt) (fun r _ => r = some (.inl 1)) 18 [some (.inr (.inr 105)), some (.inr (.inr 0)), some (.inr (.inr 46)), some (.inl 0)] [] zM0 :=
  law_loop (S := zS0) (M := zM0) (fun j => zI32 _) (by omega) RX_0 RM_0 (fun _ => rfl)
theorem zl_x5 {s : State} {b L : Nat} {xs : Nat → Int32} {D : va_G} {T : Nat → ClassId} {f : Nat → Nat} (hL : L ≤ 384) (e5 : f 105 = b) (hbl : b < s.heap.size) (hX : va_X b L xs s s.heap) : zExtOk (D, f, s.heap.size, T) s 105 (0, L, (fun j => (xs j.toNat).toInt)) := by
  obtain ⟨scr, x1, x2, x3, x4, x5⟩ := hX
  refine ⟨⟨scr, by show s.heap[f 105]? = _; rw [e5]; exact x1, x2, x3, by rw [x4]; exact Nat.le_refl L, by rw [x4], fun j hj => ?_, ?_⟩, (show L < 2 ^ 31 by omega), Or.inl rfl⟩
  · rw [x5 j hj]
    show _ = some (Value.int (Int32.ofInt (xs ((j : Nat) : Int).toNat).toInt))
    rw [Int32.ofInt_toInt]
    rfl
  · show ¬ s.heap.size ≤ f 105
    rw [e5]
    omega
theorem zl_ma {p : Program} {s : State} {m : MethodId} {c : Code} {b L : Nat} {xs : Nat → Int32} {D : va_G} {T : Nat → ClassId} {f : Nat → Nat} (hx : p.tables.exec = Jvm.exec) (hb : c.code = code) (hown : s.vm.findClass R_law = some m.cls) (hK : va_K D vwCl (ztT T) s) (hD : ∀ M, va_D (zA (D, f, s.heap.size, T)) (zw (D, f, s.heap.size, T) M)) (h5 : zExtOk (D, f, s.heap.size, T) s 105 (0, L, (fun j => (xs j.toNat).toInt))) : zMach (D, f, s.heap.size, T) (fL L (fun j => (xs j.toNat).toInt)) R_law code p s m #[Value.ref b] c := by
  refine ⟨hx, hb, hown, hK, hD, fun _ _ _ h => (by cases h), fun _ _ h => (by cases h), fun _ _ h => (by cases h), fun r q h => ?_, fun _ _ _ h => (by cases h)⟩
  obtain ⟨e1, e2⟩ := zl_fx h
  subst e1 e2
  exact h5
theorem zl_nr : zNr vL = 2 := rfl
theorem zl_one : Int32.ofInt 1 = 1 := by decide
