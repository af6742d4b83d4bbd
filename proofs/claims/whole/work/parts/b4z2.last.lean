theorem zl_rt {p : Program} {l : Launch} {e : Env} {s : State} {m : MethodId} {below : List Frame} {meth : Method} {c : Code} {b : Nat} {D : va_G} {T : Nat → ClassId} {f : Nat → Nat} {cells slots : Nat} (hx : p.tables.exec = Jvm.exec) (hb : c.code = code) (hr : meth.sig.returnType = ret) (hlocks : meth.locks = false) (hcs : cells ≤ 600000 ∧ slots ≤ 7302250) : zRetOk (D, f, s.heap.size, T) vL (fun r _ => r = some (.inl 1)) p l e room_1 s m #[Value.ref b] below meth c cells slots (lw_Z below #[Value.ref b] s) code := by
  intro pc la M H locs hP hS
  rw [zl_nr]
  refine ⟨fun a d _ h => ?_, fun a d h => absurd h (by decide), fun a d h => absurd h (by decide), fun d h => absurd h (by decide)⟩
  have ea : a = 1 := by
    have h : (some (.inl a) : Option zV) = some (.inl 1) := h
    exact Sum.inl.inj (Option.some.inj h)
  rw [ea, zl_one]
  refine va_forget (fun q hq => hS.2.2 q hq) ?_
  refine W.widen (k := 600000) (n := 7302250) hcs.1 hcs.2 ?_
  exact lw_ret hx hb hr hlocks d
