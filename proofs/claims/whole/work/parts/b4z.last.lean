def zwl (T : Nat → ClassId) (f : Nat → Nat) : va_W := [((f 0), .inr (7, [.ref (f 1), .ref (f 4), .ref (f 7), .ref (f 12), .ref (f 17), .ref (f 22), .int 0, .ref (f 23), .ref (f 27), .ref (f 31), .ref (f 32), .ref (f 33), .ref (f 34), .ref (f 35), .ref (f 36), .ref (f 37)])), ((f 1), .inr (5, [.ref (f 100), .ref (f 2), .ref (f 3), .int 0, .int (-1), .int 0])), ((f 2), .inl (T 0, 47, .inl (fun _ => 0))), ((f 3), .inl (T 0, 40, .inl (fun _ => 0))), ((f 4), .inr (5, [.ref (f 101), .ref (f 5), .ref (f 6), .int 0, .int (-1), .int 0])), ((f 5), .inl (T 0, 47, .inl (fun _ => 0))), ((f 6), .inl (T 0, 40, .inl (fun _ => 0))), ((f 7), .inr (4, [.ref (f 8), .ref (f 9), .ref (f 10), .ref (f 11), .int 0])), ((f 8), .inl (T 0, 8, .inl (fun _ => 0))), ((f 9), .inl (T 0, 8, .inl (fun _ => 0))), ((f 10), .inl (T 0, 8, .inl (fun _ => 0))), ((f 11), .inl (T 0, 8, .inl (fun _ => 0))), ((f 12), .inr (4, [.ref (f 13), .ref (f 14), .ref (f 15), .ref (f 16), .int 0])), ((f 13), .inl (T 0, 8, .inl (fun _ => 0))), ((f 14), .inl (T 0, 8, .inl (fun _ => 0))), ((f 15), .inl (T 0, 8, .inl (fun _ => 0))), ((f 16), .inl (T 0, 8, .inl (fun _ => 0))), ((f 17), .inr (6, [.ref (f 18), .ref (f 19), .ref (f 20), .ref (f 21), .int 0])), ((f 18), .inl (T 0, 8, .inl (fun _ => 0))), ((f 19), .inl (T 0, 8, .inl (fun _ => 0))), ((f 20), .inl (T 0, 8, .inl (fun _ => 0))), ((f 21), .inl (T 0, 8, .inl (fun _ => 0))), ((f 22), .inl (T 3, 4, .inr (.inr (.inr (.inr (va_up (va_up (va_up (va_up (fun _ => none) 0 (some (f 38))) 1 (some (f 40))) 2 (some (f 42))) 3 (some (f 44)))))))), ((f 23), .inr (3, [.ref (f 24), .ref (f 25), .ref (f 26), .int 0, .int 0, .int 0])), ((f 24), .inl (T 0, 4, .inl (fun _ => 0))), ((f 25), .inl (T 0, 4, .inl (fun _ => 0))), ((f 26), .inl (T 0, 4, .inl (fun _ => 0))), ((f 27), .inr (3, [.ref (f 28), .ref (f 29), .ref (f 30), .int 0, .int 0, .int 0])), ((f 28), .inl (T 0, 4, .inl (fun _ => 0))), ((f 29), .inl (T 0, 4, .inl (fun _ => 0))), ((f 30), .inl (T 0, 4, .inl (fun _ => 0))), ((f 31), .inr (2, [.int (-1), .int (-1), .int (-1)])), ((f 32), .inr (0, [.long 0, .long 1])), ((f 33), .inl (T 0, 80, .inl (fun _ => 0))), ((f 34), .inl (T 0, 200, .inl (fun _ => 0))), ((f 35), .inl (T 0, 10, .inl (fun _ => 0))), ((f 36), .inl (T 0, 256, .inl (fun _ => 0))), ((f 37), .inl (T 1, 9, .inr (.inl (fun _ => 0)))), ((f 38), .inr (1, [.ref (f 39), .int (-1), .int 0])), ((f 39), .inl (T 0, 60, .inl (fun _ => 0))), ((f 40), .inr (1, [.ref (f 41), .int (-1), .int 0])), ((f 41), .inl (T 0, 60, .inl (fun _ => 0))), ((f 42), .inr (1, [.ref (f 43), .int (-1), .int 0])), ((f 43), .inl (T 0, 60, .inl (fun _ => 0))), ((f 44), .inr (1, [.ref (f 45), .int (-1), .int 0])), ((f 45), .inl (T 0, 60, .inl (fun _ => 0))), ((f 46), .inr (8, [.ref (f 47), .ref (f 48), .int 0, .ref (f 49), .ref (f 50), .int 0, .ref (f 51), .ref (f 52), .int 0, .ref (f 53), .ref (f 54), .ref (f 55), .int 0, .ref (f 56), .ref (f 57), .ref (f 58), .int 0, .ref (f 59), .ref (f 60), .ref (f 61), .ref (f 62), .ref (f 63), .ref (f 64), .ref (f 65), .ref (f 66), .ref (f 67), .ref (f 68), .ref (f 69), .int 0, .ref (f 70), .ref (f 71), .ref (f 72), .ref (f 73), .ref (f 74), .ref (f 75), .ref (f 76), .ref (f 77), .ref (f 78), .ref (f 79), .int 0])), ((f 47), .inl (T 0, 2, .inl (fun _ => 0))), ((f 48), .inl (T 0, 94, .inl (fun _ => 0))), ((f 49), .inl (T 0, 9, .inl (fun _ => 0))), ((f 50), .inl (T 0, 36, .inl (fun _ => 0))), ((f 51), .inl (T 0, 9, .inl (fun _ => 0))), ((f 52), .inl (T 0, 36, .inl (fun _ => 0))), ((f 53), .inl (T 0, 10, .inl (fun _ => 0))), ((f 54), .inl (T 0, 10, .inl (fun _ => 0))), ((f 55), .inl (T 0, 10, .inl (fun _ => 0))), ((f 56), .inl (T 0, 10, .inl (fun _ => 0))), ((f 57), .inl (T 0, 10, .inl (fun _ => 0))), ((f 58), .inl (T 0, 10, .inl (fun _ => 0))), ((f 59), .inl (T 0, 32, .inl (fun _ => 0))), ((f 60), .inl (T 0, 32, .inl (fun _ => 0))), ((f 61), .inl (T 0, 32, .inl (fun _ => 0))), ((f 62), .inl (T 0, 8, .inl (fun _ => 0))), ((f 63), .inl (T 0, 8, .inl (fun _ => 0))), ((f 64), .inl (T 0, 640, .inl (fun _ => 0))), ((f 65), .inl (T 0, 640, .inl (fun _ => 0))), ((f 66), .inl (T 0, 640, .inl (fun _ => 0))), ((f 67), .inl (T 0, 160, .inl (fun _ => 0))), ((f 68), .inl (T 0, 160, .inl (fun _ => 0))), ((f 69), .inl (T 0, 2, .inl (fun _ => 0))), ((f 70), .inl (T 0, 8, .inl (fun _ => 0))), ((f 71), .inl (T 0, 8, .inl (fun _ => 0))), ((f 72), .inl (T 0, 8, .inl (fun _ => 0))), ((f 73), .inl (T 0, 8, .inl (fun _ => 0))), ((f 74), .inl (T 0, 200, .inl (fun _ => 0))), ((f 75), .inl (T 2, 4, .inl (fun _ => 0))), ((f 76), .inl (T 0, 4, .inl (fun _ => 0))), ((f 77), .inl (T 0, 4, .inl (fun _ => 0))), ((f 78), .inl (T 0, 240, .inl (fun _ => 0))), ((f 79), .inl (T 0, 60, .inl (fun _ => 0)))]
set_option maxRecDepth 100000 in
set_option maxHeartbeats 40000000 in
theorem zlay (D : va_G) (f : Nat → Nat) (sz : Nat) (T : Nat → ClassId) : ∀ k sh, zSh[k]? = some sh → (zwl T f)[k]? = some (zad (D, f, sz, T) k, zcell (D, f, sz, T) zM0 k sh) := by
  intro k sh h
  have hk : k < 80 := (List.getElem?_eq_some_iff.mp h).1
  match k, hk, h with
  | 0, _, h => cases h; rfl
  | 1, _, h => cases h; rfl
  | 2, _, h => cases h; rfl
  | 3, _, h => cases h; rfl
  | 4, _, h => cases h; rfl
  | 5, _, h => cases h; rfl
  | 6, _, h => cases h; rfl
  | 7, _, h => cases h; rfl
  | 8, _, h => cases h; rfl
  | 9, _, h => cases h; rfl
  | 10, _, h => cases h; rfl
  | 11, _, h => cases h; rfl
  | 12, _, h => cases h; rfl
  | 13, _, h => cases h; rfl
  | 14, _, h => cases h; rfl
  | 15, _, h => cases h; rfl
  | 16, _, h => cases h; rfl
  | 17, _, h => cases h; rfl
  | 18, _, h => cases h; rfl
  | 19, _, h => cases h; rfl
  | 20, _, h => cases h; rfl
  | 21, _, h => cases h; rfl
  | 22, _, h =>
    cases h
    show some _ = some _
    congr 6
    funext j
    match j with
    | 0 => rfl
    | 1 => rfl
    | 2 => rfl
    | 3 => rfl
    | j + 4 => rfl
  | 23, _, h => cases h; rfl
  | 24, _, h => cases h; rfl
  | 25, _, h => cases h; rfl
  | 26, _, h => cases h; rfl
  | 27, _, h => cases h; rfl
  | 28, _, h => cases h; rfl
  | 29, _, h => cases h; rfl
  | 30, _, h => cases h; rfl
  | 31, _, h => cases h; rfl
  | 32, _, h => cases h; rfl
  | 33, _, h => cases h; rfl
  | 34, _, h => cases h; rfl
  | 35, _, h => cases h; rfl
  | 36, _, h => cases h; rfl
  | 37, _, h => cases h; rfl
  | 38, _, h => cases h; rfl
  | 39, _, h => cases h; rfl
  | 40, _, h => cases h; rfl
  | 41, _, h => cases h; rfl
  | 42, _, h => cases h; rfl
  | 43, _, h => cases h; rfl
  | 44, _, h => cases h; rfl
  | 45, _, h => cases h; rfl
  | 46, _, h => cases h; rfl
  | 47, _, h => cases h; rfl
  | 48, _, h => cases h; rfl
  | 49, _, h => cases h; rfl
  | 50, _, h => cases h; rfl
  | 51, _, h => cases h; rfl
  | 52, _, h => cases h; rfl
  | 53, _, h => cases h; rfl
  | 54, _, h => cases h; rfl
  | 55, _, h => cases h; rfl
  | 56, _, h => cases h; rfl
  | 57, _, h => cases h; rfl
  | 58, _, h => cases h; rfl
  | 59, _, h => cases h; rfl
  | 60, _, h => cases h; rfl
  | 61, _, h => cases h; rfl
  | 62, _, h => cases h; rfl
  | 63, _, h => cases h; rfl
  | 64, _, h => cases h; rfl
  | 65, _, h => cases h; rfl
  | 66, _, h => cases h; rfl
  | 67, _, h => cases h; rfl
  | 68, _, h => cases h; rfl
  | 69, _, h => cases h; rfl
  | 70, _, h => cases h; rfl
  | 71, _, h => cases h; rfl
  | 72, _, h => cases h; rfl
  | 73, _, h => cases h; rfl
  | 74, _, h => cases h; rfl
  | 75, _, h => cases h; rfl
  | 76, _, h => cases h; rfl
  | 77, _, h => cases h; rfl
  | 78, _, h => cases h; rfl
  | 79, _, h => cases h; rfl
set_option maxRecDepth 100000 in
set_option maxHeartbeats 40000000 in
theorem zlast {p : Program} {e : Env} {s : State} {m : MethodId} {below : List Frame} {meth : Method} {c : Code} (l : Launch) {b L : Nat} {xs : Nat → Int32} (hL : L ≤ 384) (C0 : lw_At p s m meth c b L xs) {D : va_G} {T : Nat → ClassId} {f : Nat → Nat} (e5 : f 105 = b) (hK : va_K D vwCl (ztT T) s) (hE : zE (D, f, s.heap.size, T) s s.heap) {H : Heap} {locs : List Loc} {cells slots : Nat} (hcs : cells ≤ 600000 ∧ slots ≤ 7302250) {ls : Array Slot} (hP : va_P D vwCl (zwl T f) H) (hD : va_D (fun q : Nat => s.heap.size ≤ q) (zwl T f)) (hS : va_S (fun q : Nat => s.heap.size ≤ q) s.heap H locs) (hl : lv_has ls 4 [(3, .int 0), (2, .ref (f 46)), (1, .ref (f 0)), (0, .ref b)]) : W p l e room_1 s m #[Value.ref b] below meth c H locs cells slots (lw_Z below #[Value.ref b] s) (F0 m 18 ls []) := by
  obtain ⟨hx, hb, hr, hml, hown, hts0, hX, hbl, hlocks, hgv⟩ := id C0
  have hts : ∀ w ∈ zTw, w.before #[Value.ref b] s = true := fun w h => hts0 w (List.mem_filter.mp h).1
  have hlo := zlay D f s.heap.size T
  have hP : va_P D vwCl (zw (D, f, s.heap.size, T) zM0) H := zP_of hlo hP
  have hD : ∀ M, va_D (zA (D, f, s.heap.size, T)) (zw (D, f, s.heap.size, T) M) := zD_of (fun k sh h => ⟨_, hlo k sh h⟩) hD
  have hKn : zKn (D, f, s.heap.size, T) s s.heap := ⟨hK, hD, hE⟩
  have hz : ∀ j : Int, zIR (xs j.toNat).toInt := fun j => zI32 _
  have hU : uL L (fun j => (xs j.toNat).toInt) (fun r _ => r = some (.inl 1)) 18 [some (.inr (.inr 105)), some (.inr (.inr 0)), some (.inr (.inr 46)), some (.inl 0)] [] zM0 := law_loop (fun j => hz j) (by omega) RX_0 RM_0 (fun _ => rfl)
  have hX5 : zExtOk (D, f, s.heap.size, T) s 105 (0, L, fun j => (xs j.toNat).toInt) := by
    obtain ⟨scr, x1, x2, x3, x4, x5⟩ := hX
    refine ⟨⟨scr, by show s.heap[f 105]? = _; rw [e5]; exact x1, x2, x3, by rw [x4], by rw [x4]; rfl, fun j hj => ?_, ?_⟩, by omega, Or.inl rfl⟩
    · rw [x5 j hj]
      show _ = some (Value.int (Int32.ofInt (xs ((j : Nat) : Int).toNat).toInt))
      rw [Int32.ofInt_toInt]
      rfl
    · show ¬ s.heap.size ≤ f 105
      rw [e5]
      omega
  have hMa : zMach (D, f, s.heap.size, T) (fL L (fun j => (xs j.toNat).toInt)) R_law code p s m #[Value.ref b] c := by
    refine ⟨hx, hb, hown, hK, hD, fun _ _ _ h => by cases h, fun _ _ h => by cases h, fun _ _ h => by cases h, fun r q h => ?_, fun _ _ _ h => by cases h⟩
    by_cases e : r = 105
    · subst e
      cases h
      exact hX5
    · exact absurd h (by show ¬ ((if r = 105 then _ else none) = some q); rw [if_neg e]; intro h; cases h)
  refine zsound (Rp := fun r _ => r = some (.inl 1)) hMa (zlaw_calls l _ ⟨hx, hb, hml, hown, hts⟩ hKn hcs) ?_ hU rfl H locs ls ?_ hP hS
  · intro pc la M H locs hP hS
    refine ⟨fun a d _ h => ?_, fun a d h => absurd h (by decide), fun a d h => absurd h (by decide), fun d h => absurd h (by decide)⟩
    cases h
    refine va_forget (fun q hq => hS.2.2 q hq) ?_
    refine W.widen (k := 600000) (n := 7302250) (by omega) (by omega) ?_
    exact lw_ret hx hb hr hlocks d
  · rw [← e5] at hl
    exact lv_sub hl [3, 2, 1, 0] rfl
