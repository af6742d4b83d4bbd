def zCallOk (Z : zX) (p : Program) (l : Launch) (e : Env) (R : Room) (s : State) (m : MethodId) (args : Array Value) (below : List Frame) (meth : Method) (c : Code) (cells slots : Nat) (Q : State → Prop) (nL : Nat) (cc : ByteArray) (i : Nat) (q : Bool × Nat × Bool × zT) : Prop :=
  ∀ (pc : Nat) (ls : List (Option zV)) (as st : List zV) (M : zM) (post : zP), decode cc pc = .ok ((if q.1 then .invokestatic i else .invokevirtual i), 3) → as.length = q.2.1 → st.length ≤ 4 → q.2.2.2 as M post → (∀ r M', post r M' → zans q.2.2.1 r (fun vs => zW Z p l e R s m args below meth c cells slots Q nL (pc + 3) ls (vs ++ st) M')) → zW Z p l e R s m args below meth c cells slots Q nL pc ls (as.reverse ++ st) M
def zRetOk (Z : zX) (V : zN) (Rp : zP) (p : Program) (l : Launch) (e : Env) (R : Room) (s : State) (m : MethodId) (args : Array Value) (below : List Frame) (meth : Method) (c : Code) (cells slots : Nat) (Q : State → Prop) (cc : ByteArray) : Prop :=
  ∀ (pc : Nat) (la : Array Slot) (M : zM) (H : Heap) (locs : List Loc), va_P Z.1 vwCl (zw Z M) H → va_S (zA Z) s.heap H locs →
    (∀ a : Int, decode cc pc = .ok (.ireturn, 1) → (zNr V = 1 ∨ (zNr V = 2 ∧ (a = 0 ∨ a = 1)) ∨ (zNr V = 5 ∧ a = 0)) → Rp (some (.inl a)) M → W p l e R s m args below meth c H locs cells slots Q (F0 m pc la [.int (Int32.ofInt a)])) ∧
    (∀ a : Int, decode cc pc = .ok (.lreturn, 1) → zNr V = 3 → Rp (some (.inr (.inl a))) M → W p l e R s m args below meth c H locs cells slots Q (F0 m pc la [.long (Int64.ofInt a)])) ∧
    (∀ a : Nat, decode cc pc = .ok (.areturn, 1) → zNr V = 4 → Rp (some (.inr (.inr a))) M → W p l e R s m args below meth c H locs cells slots Q (F0 m pc la [.ref (zad Z a)])) ∧
    (decode cc pc = .ok (.return_, 1) → zNr V = 0 → Rp none M → W p l e R s m args below meth c H locs cells slots Q (F0 m pc la []))
section ZS3
variable {p : Program} {l : Launch} {e : Env} {R : Room} {s : State} {m : MethodId} {args : Array Value} {below : List Frame} {meth : Method} {c : Code} {cells slots : Nat} {Q : State → Prop}
variable {Z : zX} {F : zF} {V : zN} {Rp : zP} {cc : ByteArray} {own : String} {nL : Nat}
theorem zs_inv (hV : ∀ i q, zNi V i = some q → zCallOk Z p l e R s m args below meth c cells slots Q nL cc i q) {b : Bool} {i pc : Nat} {ls : List (Option zV)} {st : List zV} {M : zM} (d : decode cc pc = .ok ((if b then .invokestatic i else .invokevirtual i), 3)) (q : zinv V (zW Z p l e R s m args below meth c cells slots Q nL) b i pc ls st M) : zW Z p l e R s m args below meth c cells slots Q nL pc ls st M := by
  obtain ⟨qq, hq, hb, q⟩ := zopt_at q
  obtain ⟨bs, st1, h1, rfl, h2, post, h3, h4⟩ := zargs_at q
  simp only [List.append_nil] at h2 h3
  have := hV i qq hq pc ls bs.reverse st1 M post (by rw [hb]; exact d) (by rw [List.length_reverse]; exact h1) h2 h3 h4
  rw [List.reverse_reverse] at this
  exact this
set_option maxHeartbeats 4000000 in
theorem zstep_W (X : zMach Z F own cc p s m args c) (hV : ∀ i q, zNi V i = some q → zCallOk Z p l e R s m args below meth c cells slots Q nL cc i q) (hR : zRetOk Z V Rp p l e R s m args below meth c cells slots Q cc) {pc : Nat} {ls : List (Option zV)} {st : List zV} {M : zM} (q : zstep F V Rp cc (zW Z p l e R s m args below meth c cells slots Q nL) pc ls st M) : zW Z p l e R s m args below meth c cells slots Q nL pc ls st M := by
  obtain ⟨i, len, d, hl, q⟩ := q
  cases i
  case iconst => rcases hl with rfl | hl; exact zs_iconst X d q; simp [zlen] at hl
  case bipush => rcases hl with rfl | hl; exact zs_bipush X d q; simp [zlen] at hl
  case sipush => rcases hl with rfl | hl; exact zs_sipush X d q; simp [zlen] at hl
  case lconst => rcases hl with rfl | hl; exact zs_lconst X d q; simp [zlen] at hl
  case ldc => rcases hl with rfl | hl; exact zs_ldc X d q; simp [zlen] at hl
  case ldc_w => rcases hl with rfl | hl; exact zs_ldc_w X d q; simp [zlen] at hl
  case ldc2_w => rcases hl with rfl | hl; exact zs_ldc2_w X d q; simp [zlen] at hl
  case iload_n => rcases hl with rfl | hl; exact zs_iload_n X d q; simp [zlen] at hl
  case iload => rcases hl with rfl | hl; exact zs_iload X d q; simp [zlen] at hl
  case lload_n => rcases hl with rfl | hl; exact zs_lload_n X d q; simp [zlen] at hl
  case lload => rcases hl with rfl | hl; exact zs_lload X d q; simp [zlen] at hl
  case aload_n => rcases hl with rfl | hl; exact zs_aload_n X d q; simp [zlen] at hl
  case aload => rcases hl with rfl | hl; exact zs_aload X d q; simp [zlen] at hl
  case istore_n => rcases hl with rfl | hl; exact zs_istore_n X d q; simp [zlen] at hl
  case istore => rcases hl with rfl | hl; exact zs_istore X d q; simp [zlen] at hl
  case lstore_n => rcases hl with rfl | hl; exact zs_lstore_n X d q; simp [zlen] at hl
  case lstore => rcases hl with rfl | hl; exact zs_lstore X d q; simp [zlen] at hl
  case astore_n => rcases hl with rfl | hl; exact zs_astore_n X d q; simp [zlen] at hl
  case astore => rcases hl with rfl | hl; exact zs_astore X d q; simp [zlen] at hl
  case iinc => rcases hl with rfl | hl; exact zs_iinc X d q; simp [zlen] at hl
  case iadd => rcases hl with rfl | hl; exact zs_iadd X d q; simp [zlen] at hl
  case isub => rcases hl with rfl | hl; exact zs_isub X d q; simp [zlen] at hl
  case imul => rcases hl with rfl | hl; exact zs_imul X d q; simp [zlen] at hl
  case idiv => rcases hl with rfl | hl; exact zs_idiv X d q; simp [zlen] at hl
  case irem => rcases hl with rfl | hl; exact zs_irem X d q; simp [zlen] at hl
  case ineg => rcases hl with rfl | hl; exact zs_ineg X d q; simp [zlen] at hl
  case iand => rcases hl with rfl | hl; exact zs_iand X d q; simp [zlen] at hl
  case ior => rcases hl with rfl | hl; exact zs_ior X d q; simp [zlen] at hl
  case ixor => rcases hl with rfl | hl; exact zs_ixor X d q; simp [zlen] at hl
  case ishl => rcases hl with rfl | hl; exact zs_ishl X d q; simp [zlen] at hl
  case ishr => rcases hl with rfl | hl; exact zs_ishr X d q; simp [zlen] at hl
  case iushr => rcases hl with rfl | hl; exact zs_iushr X d q; simp [zlen] at hl
  case ladd => rcases hl with rfl | hl; exact zs_ladd X d q; simp [zlen] at hl
  case lsub => rcases hl with rfl | hl; exact zs_lsub X d q; simp [zlen] at hl
  case lmul => rcases hl with rfl | hl; exact zs_lmul X d q; simp [zlen] at hl
  case ldiv => rcases hl with rfl | hl; exact zs_ldiv X d q; simp [zlen] at hl
  case lrem => rcases hl with rfl | hl; exact zs_lrem X d q; simp [zlen] at hl
  case lshl => rcases hl with rfl | hl; exact zs_lshl X d q; simp [zlen] at hl
  case lcmp => rcases hl with rfl | hl; exact zs_lcmp X d q; simp [zlen] at hl
  case i2l => rcases hl with rfl | hl; exact zs_i2l X d q; simp [zlen] at hl
  case i2b => rcases hl with rfl | hl; exact zs_i2b X d q; simp [zlen] at hl
  case i2s => rcases hl with rfl | hl; exact zs_i2s X d q; simp [zlen] at hl
  case i2c => rcases hl with rfl | hl; exact zs_i2c X d q; simp [zlen] at hl
  case dup => rcases hl with rfl | hl; exact zs_dup X d q; simp [zlen] at hl
  case pop => rcases hl with rfl | hl; exact zs_pop X d q; simp [zlen] at hl
  case dup2 => rcases hl with rfl | hl; exact zs_dup2 X d q; simp [zlen] at hl
  case getfield => rcases hl with rfl | hl; exact zs_getfield X d q; simp [zlen] at hl
  case putfield => rcases hl with rfl | hl; exact zs_putfield X d q; simp [zlen] at hl
  case getstatic => rcases hl with rfl | hl; exact zs_getstatic X d q; simp [zlen] at hl
  case iaload => rcases hl with rfl | hl; exact zs_iaload X d q; simp [zlen] at hl
  case laload => rcases hl with rfl | hl; exact zs_laload X d q; simp [zlen] at hl
  case baload => rcases hl with rfl | hl; exact zs_baload X d q; simp [zlen] at hl
  case iastore => rcases hl with rfl | hl; exact zs_iastore X d q; simp [zlen] at hl
  case bastore => rcases hl with rfl | hl; exact zs_bastore X d q; simp [zlen] at hl
  case lastore => rcases hl with rfl | hl; exact zs_lastore X d q; simp [zlen] at hl
  case aaload => rcases hl with rfl | hl; exact zs_aaload X d q; simp [zlen] at hl
  case arraylength => rcases hl with rfl | hl; exact zs_arraylength X d q; simp [zlen] at hl
  case goto => rcases hl with rfl | hl; exact zs_goto X d q; simp [zlen] at hl
  case ifCond cnd off =>
    rcases hl with rfl | hl
    · cases cnd
      · exact zs_if_eq X d q
      · exact zs_if_ne X d q
      · exact zs_if_lt X d q
      · exact zs_if_ge X d q
      · exact zs_if_gt X d q
      · exact zs_if_le X d q
    · simp [zlen] at hl
  case if_icmp cnd off =>
    rcases hl with rfl | hl
    · cases cnd
      · exact zs_icmp_eq X d q
      · exact zs_icmp_ne X d q
      · exact zs_icmp_lt X d q
      · exact zs_icmp_ge X d q
      · exact zs_icmp_gt X d q
      · exact zs_icmp_le X d q
    · simp [zlen] at hl
  case tableswitch => exact zs_tableswitch X d q
  case lookupswitch => exact zs_lookupswitch X d q
  case invokevirtual i =>
    rcases hl with rfl | hl
    · exact zs_inv hV (b := false) d q
    · simp [zlen] at hl
  case invokestatic i =>
    rcases hl with rfl | hl
    · exact zs_inv hV (b := true) d q
    · simp [zlen] at hl
  case ireturn =>
    rcases hl with rfl | hl
    · obtain ⟨a, st1, rfl, rfl, h1, h2⟩ := zp1_at q
      intro hn H locs la hl hP hS
      exact (hR pc la M H locs hP hS).1 a d h1 h2
    · simp [zlen] at hl
  case lreturn =>
    rcases hl with rfl | hl
    · obtain ⟨a, st1, rfl, rfl, h1, h2⟩ := zpl_at q
      intro hn H locs la hl hP hS
      exact (hR pc la M H locs hP hS).2.1 a d h1 h2
    · simp [zlen] at hl
  case areturn =>
    rcases hl with rfl | hl
    · obtain ⟨a, st1, rfl, rfl, h1, h2⟩ := zpr_at q
      intro hn H locs la hl hP hS
      exact (hR pc la M H locs hP hS).2.2.1 a d h1 h2
    · simp [zlen] at hl
  case return_ =>
    rcases hl with rfl | hl
    · obtain ⟨rfl, h1, h2⟩ := q
      intro hn H locs la hl hP hS
      exact (hR pc la M H locs hP hS).2.2.2 d h1 h2
    · simp [zlen] at hl
  all_goals exact False.elim q
theorem zsound (X : zMach Z F own cc p s m args c) (hV : ∀ i q, zNi V i = some q → zCallOk Z p l e R s m args below meth c cells slots Q nL cc i q) (hR : zRetOk Z V Rp p l e R s m args below meth c cells slots Q cc) {pc : Nat} {ls : List (Option zV)} {st : List zV} {M : zM} (q : zU F V cc Rp pc ls st M) : zW Z p l e R s m args below meth c cells slots Q nL pc ls st M :=
  q (zW Z p l e R s m args below meth c cells slots Q nL) (fun _ _ _ _ h => zstep_W X hV hR h)
end ZS3
