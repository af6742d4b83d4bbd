set_option maxRecDepth 100000 in
set_option maxHeartbeats 40000000 in
theorem zlast {p : Program} {e : Env} {s : State} {m : MethodId} {below : List Frame} {meth : Method} {c : Code} (l : Launch) {b L : Nat} {xs : Nat → Int32} (hL : L ≤ 384) (C0 : lw_At p s m meth c b L xs) {D : va_G} {T : Nat → ClassId} {f : Nat → Nat} (e5 : f 105 = b) (hK : va_K D vwCl (ztT T) s) (hE : zE (D, f, s.heap.size, T) s s.heap) {H : Heap} {locs : List Loc} {cells slots : Nat} (hcs : cells ≤ 600000 ∧ slots ≤ 7302250) {ls : Array Slot} (hP : va_P D vwCl (zwl T f) H) (hD : va_D (fun q : Nat => s.heap.size ≤ q) (zwl T f)) (hS : va_S (fun q : Nat => s.heap.size ≤ q) s.heap H locs) (hl : lv_has ls 4 [(3, .int 0), (2, .ref (f 46)), (1, .ref (f 0)), (0, .ref b)]) : W p l e room_1 s m #[Value.ref b] below meth c H locs cells slots (lw_Z below #[Value.ref b] s) (F0 m 18 ls []) := by
  obtain ⟨hx, hb, hr, hml, hown, hts0, hX, hbl, hlocks, hgv⟩ := id C0
  have hts : ∀ w ∈ zTw, w.before #[Value.ref b] s = true := fun w h => hts0 w (List.mem_filter.mp h).1
  have hP0 : va_P D vwCl (zw (D, f, s.heap.size, T) zM0) H := zP_of (zlay D f s.heap.size T) hP
  have hD0 : ∀ M, va_D (zA (D, f, s.heap.size, T)) (zw (D, f, s.heap.size, T) M) := fun M => zD_of (fun k sh h => ⟨_, zlay D f s.heap.size T k sh h⟩) hD M
  have hKn : zKn (D, f, s.heap.size, T) s s.heap := ⟨hK, hD0, hE⟩
  have hMa := zl_ma (b := b) hx hb hown hK hD0 (zl_x5 hL e5 hbl hX)
  have hV := zlaw_calls (e := e) (below := below) (meth := meth) (cells := cells) (slots := slots) (Q := lw_Z below #[Value.ref b] s) l (D, f, s.heap.size, T) ⟨hx, hb, hml, hown, hts⟩ hKn hcs
  have hR := zl_rt (l := l) (e := e) (s := s) (m := m) (below := below) (b := b) (D := D) (T := T) (f := f) hx hb hr hlocks hcs
  have hW := zsound hMa hV hR (zl_U hL)
  have hl0 : lv_has ls 4 (zL (D, f, s.heap.size, T) 0 [some (.inr (.inr 105)), some (.inr (.inr 0)), some (.inr (.inr 46)), some (.inl 0)]) := by
    rw [← e5] at hl
    exact lv_sub hl [3, 2, 1, 0] rfl
  exact hW rfl H locs ls hl0 hP0 hS
