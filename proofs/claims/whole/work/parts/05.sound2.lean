theorem ztgt_ok {pc : Nat} {off : Int} (h : 0 ≤ (pc : Int) + off) : (pc : Int) + off = (ztgt pc off : Nat) := by
  unfold ztgt
  omega
section ZS1
variable {p : Program} {l : Launch} {e : Env} {R : Room} {s : State} {m : MethodId} {args : Array Value} {below : List Frame} {meth : Method} {c : Code} {cells slots : Nat} {Q : State → Prop}
variable {Z : zX} {F : zF} {V : zN} {cc : ByteArray} {own : String} {nL pc : Nat} {ls : List (Option zV)} {st : List zV} {M : zM}
theorem zs_iconst (X : zMach Z F own cc p s m args c) {n : Int} (d : decode cc pc = .ok (.iconst n, 1)) (q : zW Z p l e R s m args below meth c cells slots Q nL (pc + 1) ls (.inl n :: st) M) : zW Z p l e R s m args below meth c cells slots Q nL pc ls st M := by
  intro hn H locs la hl hP hS
  have q := q hn H locs la hl hP hS
  simp only [List.map_cons, zc] at q
  exact lv_iconst X.1 X.2.1 d rfl q
theorem zs_bipush (X : zMach Z F own cc p s m args c) {n : Int} (d : decode cc pc = .ok (.bipush n, 2)) (q : (-128 ≤ n ∧ n ≤ 127) ∧ zW Z p l e R s m args below meth c cells slots Q nL (pc + 2) ls (.inl n :: st) M) : zW Z p l e R s m args below meth c cells slots Q nL pc ls st M := by
  intro hn H locs la hl hP hS
  have h0 := q.1
  have q := q.2 hn H locs la hl hP hS
  simp only [List.map_cons, zc] at q
  exact lv_bipush X.1 X.2.1 d (by rw [← Int32.ofInt_int8ToInt, Int8.toInt_ofInt_of_le (by omega) (by omega)]) q
theorem zs_sipush (X : zMach Z F own cc p s m args c) {n : Int} (d : decode cc pc = .ok (.sipush n, 3)) (q : (-32768 ≤ n ∧ n ≤ 32767) ∧ zW Z p l e R s m args below meth c cells slots Q nL (pc + 3) ls (.inl n :: st) M) : zW Z p l e R s m args below meth c cells slots Q nL pc ls st M := by
  intro hn H locs la hl hP hS
  have h0 := q.1
  have q := q.2 hn H locs la hl hP hS
  simp only [List.map_cons, zc] at q
  exact lv_sipush X.1 X.2.1 d (by rw [← Int32.ofInt_int16ToInt, Int16.toInt_ofInt_of_le (by omega) (by omega)]) q
theorem zs_lconst (X : zMach Z F own cc p s m args c) {n : Fin 2} (d : decode cc pc = .ok (.lconst n, 1)) (q : zW Z p l e R s m args below meth c cells slots Q nL (pc + 1) ls (.inr (.inl (n.val : Int)) :: st) M) : zW Z p l e R s m args below meth c cells slots Q nL pc ls st M := by
  intro hn H locs la hl hP hS
  have q := q hn H locs la hl hP hS
  simp only [List.map_cons, zc] at q
  exact lv_lconst X.1 X.2.1 d Int64.ofInt_eq_ofNat.symm q
theorem zs_ldc (X : zMach Z F own cc p s m args c) {n : Nat} (d : decode cc pc = .ok (.ldc n, 2)) (q : zopt (zFc F n) (fun v => zint v (fun a => zW Z p l e R s m args below meth c cells slots Q nL (pc + 2) ls (.inl a :: st) M))) : zW Z p l e R s m args below meth c cells slots Q nL pc ls st M := by
  obtain ⟨v, hv, q⟩ := zopt_at q
  obtain ⟨a, rfl, q⟩ := zint_at q
  intro hn H locs la hl hP hS
  have q := q hn H locs la hl hP hS
  simp only [List.map_cons, zc] at q
  have hc := X.2.2.2.2.2.2.1 _ _ hv
  exact lv_ldc X.1 X.2.1 X.2.2.1 hc d q
theorem zs_ldc_w (X : zMach Z F own cc p s m args c) {n : Nat} (d : decode cc pc = .ok (.ldc_w n, 3)) (q : zopt (zFc F n) (fun v => zint v (fun a => zW Z p l e R s m args below meth c cells slots Q nL (pc + 3) ls (.inl a :: st) M))) : zW Z p l e R s m args below meth c cells slots Q nL pc ls st M := by
  obtain ⟨v, hv, q⟩ := zopt_at q
  obtain ⟨a, rfl, q⟩ := zint_at q
  intro hn H locs la hl hP hS
  have q := q hn H locs la hl hP hS
  simp only [List.map_cons, zc] at q
  have hc := X.2.2.2.2.2.2.1 _ _ hv
  exact lv_ldcw X.1 X.2.1 X.2.2.1 hc d q
theorem zs_ldc2_w (X : zMach Z F own cc p s m args c) {n : Nat} (d : decode cc pc = .ok (.ldc2_w n, 3)) (q : zopt (zFc F n) (fun v => zlong v (fun a => zW Z p l e R s m args below meth c cells slots Q nL (pc + 3) ls (.inr (.inl a) :: st) M))) : zW Z p l e R s m args below meth c cells slots Q nL pc ls st M := by
  obtain ⟨v, hv, q⟩ := zopt_at q
  obtain ⟨a, rfl, q⟩ := zlong_at q
  intro hn H locs la hl hP hS
  have q := q hn H locs la hl hP hS
  simp only [List.map_cons, zc] at q
  have hc := X.2.2.2.2.2.2.1 _ _ hv
  exact lv_ldc2 X.1 X.2.1 X.2.2.1 hc d q
theorem zs_iload_n (X : zMach Z F own cc p s m args c) {n : Fin 4} (d : decode cc pc = .ok (.iload_n n, 1)) (q : zld ls n.val (fun v => zint v (fun a => zW Z p l e R s m args below meth c cells slots Q nL (pc + 1) ls (.inl a :: st) M))) : zW Z p l e R s m args below meth c cells slots Q nL pc ls st M := by
  obtain ⟨v, hv, q⟩ := zld_at q
  obtain ⟨a, rfl, q⟩ := zint_at q
  intro hn H locs la hl hP hS
  have q := q hn H locs la hl hP hS
  simp only [List.map_cons, zc] at q
  exact lv_iload_n X.1 X.2.1 d rfl (zl_at hl hv) q
theorem zs_iload (X : zMach Z F own cc p s m args c) {n : Nat} (d : decode cc pc = .ok (.iload n, 2)) (q : zld ls n (fun v => zint v (fun a => zW Z p l e R s m args below meth c cells slots Q nL (pc + 2) ls (.inl a :: st) M))) : zW Z p l e R s m args below meth c cells slots Q nL pc ls st M := by
  obtain ⟨v, hv, q⟩ := zld_at q
  obtain ⟨a, rfl, q⟩ := zint_at q
  intro hn H locs la hl hP hS
  have q := q hn H locs la hl hP hS
  simp only [List.map_cons, zc] at q
  exact lv_iload X.1 X.2.1 d (zl_at hl hv) q
theorem zs_istore_n (X : zMach Z F own cc p s m args c) {n : Fin 4} (d : decode cc pc = .ok (.istore_n n, 1)) (q : zp1 st (fun a st => n.val < ls.length ∧ zW Z p l e R s m args below meth c cells slots Q nL (pc + 1) (zst1 ls n.val (.inl a)) st M)) : zW Z p l e R s m args below meth c cells slots Q nL pc ls st M := by
  obtain ⟨a, st, rfl, q⟩ := zp1_at q
  intro hn H locs la hl hP hS
  exact lv_istore_n X.1 X.2.1 d rfl hl (by rw [← hn]; exact q.1) rfl (fun la hl => q.2 (by rw [zst1_len]; exact hn) H locs la (zst1_has hl) hP hS)
theorem zs_istore (X : zMach Z F own cc p s m args c) {n : Nat} (d : decode cc pc = .ok (.istore n, 2)) (q : zp1 st (fun a st => n < ls.length ∧ zW Z p l e R s m args below meth c cells slots Q nL (pc + 2) (zst1 ls n (.inl a)) st M)) : zW Z p l e R s m args below meth c cells slots Q nL pc ls st M := by
  obtain ⟨a, st, rfl, q⟩ := zp1_at q
  intro hn H locs la hl hP hS
  exact lv_istore X.1 X.2.1 d hl (by rw [← hn]; exact q.1) rfl (fun la hl => q.2 (by rw [zst1_len]; exact hn) H locs la (zst1_has hl) hP hS)
theorem zs_lload_n (X : zMach Z F own cc p s m args c) {n : Fin 4} (d : decode cc pc = .ok (.lload_n n, 1)) (q : zld ls n.val (fun v => zlong v (fun a => zW Z p l e R s m args below meth c cells slots Q nL (pc + 1) ls (.inr (.inl a) :: st) M))) : zW Z p l e R s m args below meth c cells slots Q nL pc ls st M := by
  obtain ⟨v, hv, q⟩ := zld_at q
  obtain ⟨a, rfl, q⟩ := zlong_at q
  intro hn H locs la hl hP hS
  have q := q hn H locs la hl hP hS
  simp only [List.map_cons, zc] at q
  exact lv_lload_n X.1 X.2.1 d rfl (zl_at hl hv) q
theorem zs_lload (X : zMach Z F own cc p s m args c) {n : Nat} (d : decode cc pc = .ok (.lload n, 2)) (q : zld ls n (fun v => zlong v (fun a => zW Z p l e R s m args below meth c cells slots Q nL (pc + 2) ls (.inr (.inl a) :: st) M))) : zW Z p l e R s m args below meth c cells slots Q nL pc ls st M := by
  obtain ⟨v, hv, q⟩ := zld_at q
  obtain ⟨a, rfl, q⟩ := zlong_at q
  intro hn H locs la hl hP hS
  have q := q hn H locs la hl hP hS
  simp only [List.map_cons, zc] at q
  exact lv_lload X.1 X.2.1 d (zl_at hl hv) q
theorem zs_lstore_n (X : zMach Z F own cc p s m args c) {n : Fin 4} (d : decode cc pc = .ok (.lstore_n n, 1)) (q : zpl st (fun a st => n.val + 1 < ls.length ∧ zW Z p l e R s m args below meth c cells slots Q nL (pc + 1) (zst2 ls n.val (.inr (.inl a))) st M)) : zW Z p l e R s m args below meth c cells slots Q nL pc ls st M := by
  obtain ⟨a, st, rfl, q⟩ := zpl_at q
  intro hn H locs la hl hP hS
  exact lv_lstore_n X.1 X.2.1 d rfl hl (by rw [← hn]; exact q.1) rfl (fun la hl => q.2 (by rw [zst2_len]; exact hn) H locs la (zst2_has q.1 hl) hP hS)
theorem zs_lstore (X : zMach Z F own cc p s m args c) {n : Nat} (d : decode cc pc = .ok (.lstore n, 2)) (q : zpl st (fun a st => n + 1 < ls.length ∧ zW Z p l e R s m args below meth c cells slots Q nL (pc + 2) (zst2 ls n (.inr (.inl a))) st M)) : zW Z p l e R s m args below meth c cells slots Q nL pc ls st M := by
  obtain ⟨a, st, rfl, q⟩ := zpl_at q
  intro hn H locs la hl hP hS
  exact lv_lstore X.1 X.2.1 d hl (by rw [← hn]; exact q.1) rfl (fun la hl => q.2 (by rw [zst2_len]; exact hn) H locs la (zst2_has q.1 hl) hP hS)
theorem zs_aload_n (X : zMach Z F own cc p s m args c) {n : Fin 4} (d : decode cc pc = .ok (.aload_n n, 1)) (q : zld ls n.val (fun v => zref v (fun a => zW Z p l e R s m args below meth c cells slots Q nL (pc + 1) ls (.inr (.inr a) :: st) M))) : zW Z p l e R s m args below meth c cells slots Q nL pc ls st M := by
  obtain ⟨v, hv, q⟩ := zld_at q
  obtain ⟨a, rfl, q⟩ := zref_at q
  intro hn H locs la hl hP hS
  have q := q hn H locs la hl hP hS
  simp only [List.map_cons, zc] at q
  exact lv_aload_n X.1 X.2.1 d rfl (zl_at hl hv) q
theorem zs_aload (X : zMach Z F own cc p s m args c) {n : Nat} (d : decode cc pc = .ok (.aload n, 2)) (q : zld ls n (fun v => zref v (fun a => zW Z p l e R s m args below meth c cells slots Q nL (pc + 2) ls (.inr (.inr a) :: st) M))) : zW Z p l e R s m args below meth c cells slots Q nL pc ls st M := by
  obtain ⟨v, hv, q⟩ := zld_at q
  obtain ⟨a, rfl, q⟩ := zref_at q
  intro hn H locs la hl hP hS
  have q := q hn H locs la hl hP hS
  simp only [List.map_cons, zc] at q
  exact lv_aload X.1 X.2.1 d (zl_at hl hv) q
theorem zs_astore_n (X : zMach Z F own cc p s m args c) {n : Fin 4} (d : decode cc pc = .ok (.astore_n n, 1)) (q : zpr st (fun a st => n.val < ls.length ∧ zW Z p l e R s m args below meth c cells slots Q nL (pc + 1) (zst1 ls n.val (.inr (.inr a))) st M)) : zW Z p l e R s m args below meth c cells slots Q nL pc ls st M := by
  obtain ⟨a, st, rfl, q⟩ := zpr_at q
  intro hn H locs la hl hP hS
  exact lv_astore_n X.1 X.2.1 d rfl hl (by rw [← hn]; exact q.1) rfl (fun la hl => q.2 (by rw [zst1_len]; exact hn) H locs la (zst1_has hl) hP hS)
theorem zs_astore (X : zMach Z F own cc p s m args c) {n : Nat} (d : decode cc pc = .ok (.astore n, 2)) (q : zpr st (fun a st => n < ls.length ∧ zW Z p l e R s m args below meth c cells slots Q nL (pc + 2) (zst1 ls n (.inr (.inr a))) st M)) : zW Z p l e R s m args below meth c cells slots Q nL pc ls st M := by
  obtain ⟨a, st, rfl, q⟩ := zpr_at q
  intro hn H locs la hl hP hS
  exact lv_astore X.1 X.2.1 d hl (by rw [← hn]; exact q.1) rfl (fun la hl => q.2 (by rw [zst1_len]; exact hn) H locs la (zst1_has hl) hP hS)
theorem zs_iinc (X : zMach Z F own cc p s m args c) {n : Nat} {k : Int} (d : decode cc pc = .ok (.iinc n k, 3)) (q : n < ls.length ∧ zld ls n (fun v => zint v (fun a => zW Z p l e R s m args below meth c cells slots Q nL (pc + 3) (zst1 ls n (.inl (a + k))) st M))) : zW Z p l e R s m args below meth c cells slots Q nL pc ls st M := by
  obtain ⟨q0, q⟩ := q
  obtain ⟨v, hv, q⟩ := zld_at q
  obtain ⟨a, rfl, q⟩ := zint_at q
  intro hn H locs la hl hP hS
  have hm : (n, zc Z (.inl a)) ∈ zL Z 0 ls := zL_mem.mpr ⟨n, .inl a, hv, by simp⟩
  obtain ⟨j, hj⟩ := List.getElem?_of_mem hm
  refine lv_iinc X.1 X.2.1 d hl hj (Int32.ofInt_add a k).symm (by rw [← hn]; exact q0) rfl (fun la hl => ?_)
  exact q (by rw [zst1_len]; exact hn) H locs la (zst1_has hl) hP hS
theorem zs_iadd (X : zMach Z F own cc p s m args c) (d : decode cc pc = .ok (.iadd, 1)) (q : zp2 st (fun a b st => zW Z p l e R s m args below meth c cells slots Q nL (pc + 1) ls (.inl (a + b) :: st) M)) : zW Z p l e R s m args below meth c cells slots Q nL pc ls st M := by
  obtain ⟨a, b, st, rfl, q⟩ := zp2_at q
  intro hn H locs la hl hP hS
  have q := q hn H locs la hl hP hS
  simp only [List.map_cons, zc, Int32.ofInt_add] at q
  exact lv_iadd X.1 X.2.1 d q
theorem zs_isub (X : zMach Z F own cc p s m args c) (d : decode cc pc = .ok (.isub, 1)) (q : zp2 st (fun a b st => zW Z p l e R s m args below meth c cells slots Q nL (pc + 1) ls (.inl (a - b) :: st) M)) : zW Z p l e R s m args below meth c cells slots Q nL pc ls st M := by
  obtain ⟨a, b, st, rfl, q⟩ := zp2_at q
  intro hn H locs la hl hP hS
  have q := q hn H locs la hl hP hS
  simp only [List.map_cons, zc, Int32.ofInt_sub] at q
  exact lv_isub X.1 X.2.1 d q
theorem zs_imul (X : zMach Z F own cc p s m args c) (d : decode cc pc = .ok (.imul, 1)) (q : zp2 st (fun a b st => zW Z p l e R s m args below meth c cells slots Q nL (pc + 1) ls (.inl (a * b) :: st) M)) : zW Z p l e R s m args below meth c cells slots Q nL pc ls st M := by
  obtain ⟨a, b, st, rfl, q⟩ := zp2_at q
  intro hn H locs la hl hP hS
  have q := q hn H locs la hl hP hS
  simp only [List.map_cons, zc, Int32.ofInt_mul] at q
  exact lv_imul X.1 X.2.1 d q
theorem zs_ladd (X : zMach Z F own cc p s m args c) (d : decode cc pc = .ok (.ladd, 1)) (q : zp2l st (fun a b st => zW Z p l e R s m args below meth c cells slots Q nL (pc + 1) ls (.inr (.inl (a + b)) :: st) M)) : zW Z p l e R s m args below meth c cells slots Q nL pc ls st M := by
  obtain ⟨a, b, st, rfl, q⟩ := zp2l_at q
  intro hn H locs la hl hP hS
  have q := q hn H locs la hl hP hS
  simp only [List.map_cons, zc, Int64.ofInt_add] at q
  exact lv_ladd X.1 X.2.1 d q
theorem zs_lsub (X : zMach Z F own cc p s m args c) (d : decode cc pc = .ok (.lsub, 1)) (q : zp2l st (fun a b st => zW Z p l e R s m args below meth c cells slots Q nL (pc + 1) ls (.inr (.inl (a - b)) :: st) M)) : zW Z p l e R s m args below meth c cells slots Q nL pc ls st M := by
  obtain ⟨a, b, st, rfl, q⟩ := zp2l_at q
  intro hn H locs la hl hP hS
  have q := q hn H locs la hl hP hS
  simp only [List.map_cons, zc, Int64.ofInt_sub] at q
  exact lv_lsub X.1 X.2.1 d q
theorem zs_lmul (X : zMach Z F own cc p s m args c) (d : decode cc pc = .ok (.lmul, 1)) (q : zp2l st (fun a b st => zW Z p l e R s m args below meth c cells slots Q nL (pc + 1) ls (.inr (.inl (a * b)) :: st) M)) : zW Z p l e R s m args below meth c cells slots Q nL pc ls st M := by
  obtain ⟨a, b, st, rfl, q⟩ := zp2l_at q
  intro hn H locs la hl hP hS
  have q := q hn H locs la hl hP hS
  simp only [List.map_cons, zc, Int64.ofInt_mul] at q
  exact lv_lmul X.1 X.2.1 d q
theorem zs_iand (X : zMach Z F own cc p s m args c) (d : decode cc pc = .ok (.iand, 1)) (q : zp2 st (fun a b st => zW Z p l e R s m args below meth c cells slots Q nL (pc + 1) ls (.inl (zand a b) :: st) M)) : zW Z p l e R s m args below meth c cells slots Q nL pc ls st M := by
  obtain ⟨a, b, st, rfl, q⟩ := zp2_at q
  intro hn H locs la hl hP hS
  have q := q hn H locs la hl hP hS
  simp only [List.map_cons, zc, zand, Int32.ofInt_toInt] at q
  exact lv_iand X.1 X.2.1 d q
theorem zs_ior (X : zMach Z F own cc p s m args c) (d : decode cc pc = .ok (.ior, 1)) (q : zp2 st (fun a b st => zW Z p l e R s m args below meth c cells slots Q nL (pc + 1) ls (.inl (zor a b) :: st) M)) : zW Z p l e R s m args below meth c cells slots Q nL pc ls st M := by
  obtain ⟨a, b, st, rfl, q⟩ := zp2_at q
  intro hn H locs la hl hP hS
  have q := q hn H locs la hl hP hS
  simp only [List.map_cons, zc, zor, Int32.ofInt_toInt] at q
  exact lv_ior X.1 X.2.1 d q
theorem zs_ixor (X : zMach Z F own cc p s m args c) (d : decode cc pc = .ok (.ixor, 1)) (q : zp2 st (fun a b st => zW Z p l e R s m args below meth c cells slots Q nL (pc + 1) ls (.inl (zxor a b) :: st) M)) : zW Z p l e R s m args below meth c cells slots Q nL pc ls st M := by
  obtain ⟨a, b, st, rfl, q⟩ := zp2_at q
  intro hn H locs la hl hP hS
  have q := q hn H locs la hl hP hS
  simp only [List.map_cons, zc, zxor, Int32.ofInt_toInt] at q
  exact lv_ixor X.1 X.2.1 d q
theorem zs_ishl (X : zMach Z F own cc p s m args c) (d : decode cc pc = .ok (.ishl, 1)) (q : zp2 st (fun a b st => zW Z p l e R s m args below meth c cells slots Q nL (pc + 1) ls (.inl (zshl a b) :: st) M)) : zW Z p l e R s m args below meth c cells slots Q nL pc ls st M := by
  obtain ⟨a, b, st, rfl, q⟩ := zp2_at q
  intro hn H locs la hl hP hS
  have q := q hn H locs la hl hP hS
  simp only [List.map_cons, zc, zshl, Int32.ofInt_toInt] at q
  exact lv_ishl X.1 X.2.1 d q
theorem zs_ishr (X : zMach Z F own cc p s m args c) (d : decode cc pc = .ok (.ishr, 1)) (q : zp2 st (fun a b st => zW Z p l e R s m args below meth c cells slots Q nL (pc + 1) ls (.inl (zshr a b) :: st) M)) : zW Z p l e R s m args below meth c cells slots Q nL pc ls st M := by
  obtain ⟨a, b, st, rfl, q⟩ := zp2_at q
  intro hn H locs la hl hP hS
  have q := q hn H locs la hl hP hS
  simp only [List.map_cons, zc, zshr, Int32.ofInt_toInt] at q
  exact lv_ishr X.1 X.2.1 d q
theorem zs_iushr (X : zMach Z F own cc p s m args c) (d : decode cc pc = .ok (.iushr, 1)) (q : zp2 st (fun a b st => zW Z p l e R s m args below meth c cells slots Q nL (pc + 1) ls (.inl (zushr a b) :: st) M)) : zW Z p l e R s m args below meth c cells slots Q nL pc ls st M := by
  obtain ⟨a, b, st, rfl, q⟩ := zp2_at q
  intro hn H locs la hl hP hS
  have q := q hn H locs la hl hP hS
  simp only [List.map_cons, zc, zushr, Int32.ofInt_toInt] at q
  exact lv_iushr X.1 X.2.1 d rfl q
theorem zs_lshl (X : zMach Z F own cc p s m args c) (d : decode cc pc = .ok (.lshl, 1)) (q : zp1 st (fun b st => zpl st (fun a st => zW Z p l e R s m args below meth c cells slots Q nL (pc + 1) ls (.inr (.inl (zlshl a b)) :: st) M))) : zW Z p l e R s m args below meth c cells slots Q nL pc ls st M := by
  obtain ⟨b, st, rfl, q⟩ := zp1_at q
  obtain ⟨a, st, rfl, q⟩ := zpl_at q
  intro hn H locs la hl hP hS
  have q := q hn H locs la hl hP hS
  simp only [List.map_cons, zc, zlshl, Int64.ofInt_toInt] at q
  exact lv_lshl X.1 X.2.1 d rfl q
theorem zs_ineg (X : zMach Z F own cc p s m args c) (d : decode cc pc = .ok (.ineg, 1)) (q : zp1 st (fun a st => zW Z p l e R s m args below meth c cells slots Q nL (pc + 1) ls (.inl (-a) :: st) M)) : zW Z p l e R s m args below meth c cells slots Q nL pc ls st M := by
  obtain ⟨a, st, rfl, q⟩ := zp1_at q
  intro hn H locs la hl hP hS
  have q := q hn H locs la hl hP hS
  simp only [List.map_cons, zc, Int32.ofInt_neg] at q
  exact lv_ineg X.1 X.2.1 d q
theorem zs_i2b (X : zMach Z F own cc p s m args c) (d : decode cc pc = .ok (.i2b, 1)) (q : zp1 st (fun a st => zW Z p l e R s m args below meth c cells slots Q nL (pc + 1) ls (.inl (zi2b a) :: st) M)) : zW Z p l e R s m args below meth c cells slots Q nL pc ls st M := by
  obtain ⟨a, st, rfl, q⟩ := zp1_at q
  intro hn H locs la hl hP hS
  have q := q hn H locs la hl hP hS
  simp only [List.map_cons, zc, zi2b, Int32.ofInt_toInt] at q
  exact lv_i2b X.1 X.2.1 d rfl q
theorem zs_i2s (X : zMach Z F own cc p s m args c) (d : decode cc pc = .ok (.i2s, 1)) (q : zp1 st (fun a st => zW Z p l e R s m args below meth c cells slots Q nL (pc + 1) ls (.inl (zi2s a) :: st) M)) : zW Z p l e R s m args below meth c cells slots Q nL pc ls st M := by
  obtain ⟨a, st, rfl, q⟩ := zp1_at q
  intro hn H locs la hl hP hS
  have q := q hn H locs la hl hP hS
  simp only [List.map_cons, zc, zi2s, Int32.ofInt_toInt] at q
  exact lv_i2s X.1 X.2.1 d rfl q
theorem zs_i2c (X : zMach Z F own cc p s m args c) (d : decode cc pc = .ok (.i2c, 1)) (q : zp1 st (fun a st => zW Z p l e R s m args below meth c cells slots Q nL (pc + 1) ls (.inl (zi2c a) :: st) M)) : zW Z p l e R s m args below meth c cells slots Q nL pc ls st M := by
  obtain ⟨a, st, rfl, q⟩ := zp1_at q
  intro hn H locs la hl hP hS
  have q := q hn H locs la hl hP hS
  simp only [List.map_cons, zc, zi2c, Int32.ofInt_toInt] at q
  exact lv_i2c X.1 X.2.1 d rfl q
theorem zs_i2l (X : zMach Z F own cc p s m args c) (d : decode cc pc = .ok (.i2l, 1)) (q : zp1 st (fun a st => zIR a ∧ zW Z p l e R s m args below meth c cells slots Q nL (pc + 1) ls (.inr (.inl a) :: st) M)) : zW Z p l e R s m args below meth c cells slots Q nL pc ls st M := by
  obtain ⟨a, st, rfl, q⟩ := zp1_at q
  intro hn H locs la hl hP hS
  have h0 := q.1
  have q := q.2 hn H locs la hl hP hS
  simp only [List.map_cons, zc] at q
  exact lv_i2l X.1 X.2.1 d (Int64.toInt_inj.mp (by rw [Int32.toInt_toInt64, zIR_to h0, Int64.toInt_ofInt_of_le (by have := h0.1; omega) (by have := h0.2; omega)])) q
theorem zs_idiv (X : zMach Z F own cc p s m args c) (d : decode cc pc = .ok (.idiv, 1)) (q : zp2 st (fun a b st => (zIR a ∧ zIR b ∧ b ≠ 0) ∧ zW Z p l e R s m args below meth c cells slots Q nL (pc + 1) ls (.inl (a.tdiv b) :: st) M)) : zW Z p l e R s m args below meth c cells slots Q nL pc ls st M := by
  obtain ⟨a, b, st, rfl, q⟩ := zp2_at q
  intro hn H locs la hl hP hS
  obtain ⟨⟨h1, h2, h3⟩, q⟩ := q
  have q := q hn H locs la hl hP hS
  simp only [List.map_cons, zc] at q
  have hb : ¬ Int32.ofInt b = 0 := fun h => h3 (by rw [← zIR_to h2, h]; rfl)
  have hd : Int32.ofInt (a.tdiv b) = Int32.ofInt a / Int32.ofInt b := Int32.ofInt_tdiv h1.1 h1.2 h2.1 h2.2
  rw [hd] at q
  exact lv_idiv X.1 X.2.1 d hb q
theorem zs_irem (X : zMach Z F own cc p s m args c) (d : decode cc pc = .ok (.irem, 1)) (q : zp2 st (fun a b st => (zIR a ∧ zIR b ∧ b ≠ 0) ∧ zW Z p l e R s m args below meth c cells slots Q nL (pc + 1) ls (.inl (a.tmod b) :: st) M)) : zW Z p l e R s m args below meth c cells slots Q nL pc ls st M := by
  obtain ⟨a, b, st, rfl, q⟩ := zp2_at q
  intro hn H locs la hl hP hS
  obtain ⟨⟨h1, h2, h3⟩, q⟩ := q
  have q := q hn H locs la hl hP hS
  simp only [List.map_cons, zc] at q
  have hb : ¬ Int32.ofInt b = 0 := fun h => h3 (by rw [← zIR_to h2, h]; rfl)
  have hd : Int32.ofInt (a.tdiv b) = Int32.ofInt a / Int32.ofInt b := Int32.ofInt_tdiv h1.1 h1.2 h2.1 h2.2
  have hm : Int32.ofInt (a.tmod b) = Int32.ofInt a - Int32.ofInt a / Int32.ofInt b * Int32.ofInt b := by rw [← hd, ← Int32.ofInt_mul, ← Int32.ofInt_sub, Int.tmod_def, Int.mul_comm]
  rw [hm] at q
  exact lv_irem X.1 X.2.1 d hb q
theorem zs_ldiv (X : zMach Z F own cc p s m args c) (d : decode cc pc = .ok (.ldiv, 1)) (q : zp2l st (fun a b st => (zLR a ∧ zLR b ∧ b ≠ 0) ∧ zW Z p l e R s m args below meth c cells slots Q nL (pc + 1) ls (.inr (.inl (a.tdiv b)) :: st) M)) : zW Z p l e R s m args below meth c cells slots Q nL pc ls st M := by
  obtain ⟨a, b, st, rfl, q⟩ := zp2l_at q
  intro hn H locs la hl hP hS
  obtain ⟨⟨h1, h2, h3⟩, q⟩ := q
  have q := q hn H locs la hl hP hS
  simp only [List.map_cons, zc] at q
  have hb : ¬ Int64.ofInt b = 0 := fun h => h3 (by rw [← zLR_to h2, h]; rfl)
  have hd : Int64.ofInt (a.tdiv b) = Int64.ofInt a / Int64.ofInt b := Int64.ofInt_tdiv h1.1 h1.2 h2.1 h2.2
  rw [hd] at q
  exact lv_ldiv X.1 X.2.1 d hb q
theorem zs_lrem (X : zMach Z F own cc p s m args c) (d : decode cc pc = .ok (.lrem, 1)) (q : zp2l st (fun a b st => (zLR a ∧ zLR b ∧ b ≠ 0) ∧ zW Z p l e R s m args below meth c cells slots Q nL (pc + 1) ls (.inr (.inl (a.tmod b)) :: st) M)) : zW Z p l e R s m args below meth c cells slots Q nL pc ls st M := by
  obtain ⟨a, b, st, rfl, q⟩ := zp2l_at q
  intro hn H locs la hl hP hS
  obtain ⟨⟨h1, h2, h3⟩, q⟩ := q
  have q := q hn H locs la hl hP hS
  simp only [List.map_cons, zc] at q
  have hb : ¬ Int64.ofInt b = 0 := fun h => h3 (by rw [← zLR_to h2, h]; rfl)
  have hd : Int64.ofInt (a.tdiv b) = Int64.ofInt a / Int64.ofInt b := Int64.ofInt_tdiv h1.1 h1.2 h2.1 h2.2
  have hm : Int64.ofInt (a.tmod b) = Int64.ofInt a - Int64.ofInt a / Int64.ofInt b * Int64.ofInt b := by rw [← hd, ← Int64.ofInt_mul, ← Int64.ofInt_sub, Int.tmod_def, Int.mul_comm]
  rw [hm] at q
  exact lv_lrem X.1 X.2.1 d hb q
theorem zs_lcmp (X : zMach Z F own cc p s m args c) (d : decode cc pc = .ok (.lcmp, 1)) (q : zp2l st (fun a b st => (zLR a ∧ zLR b) ∧ zW Z p l e R s m args below meth c cells slots Q nL (pc + 1) ls (.inl (zcmp a b) :: st) M)) : zW Z p l e R s m args below meth c cells slots Q nL pc ls st M := by
  obtain ⟨a, b, st, rfl, q⟩ := zp2l_at q
  intro hn H locs la hl hP hS
  obtain ⟨⟨h1, h2⟩, q⟩ := q
  have q := q hn H locs la hl hP hS
  simp only [List.map_cons, zc] at q
  have e : lg_cmp (Int64.ofInt a) (Int64.ofInt b) = Int32.ofInt (zcmp a b) := by
    unfold lg_cmp zcmp
    have e1 : (Int64.ofInt a > Int64.ofInt b) ↔ b < a := by rw [gt_iff_lt, Int64.lt_iff_toInt_lt, zLR_to h1, zLR_to h2]
    have e2 : (Int64.ofInt a = Int64.ofInt b) ↔ a = b := by rw [← Int64.toInt_inj, zLR_to h1, zLR_to h2]
    simp only [e1, e2]
    split
    · rfl
    · split <;> rfl
  rw [← e] at q
  exact W.lcmp X.1 X.2.1 d q
theorem zs_dup (X : zMach Z F own cc p s m args c) (d : decode cc pc = .ok (.dup, 1)) (q : zpop st (fun v st => zcat1 v (zW Z p l e R s m args below meth c cells slots Q nL (pc + 1) ls (v :: v :: st) M))) : zW Z p l e R s m args below meth c cells slots Q nL pc ls st M := by
  obtain ⟨v, st, rfl, q⟩ := zpop_at q
  obtain ⟨h1, q⟩ := zcat1_at (Z := Z) q
  intro hn H locs la hl hP hS
  have q := q hn H locs la hl hP hS
  exact lv_dup X.1 X.2.1 d h1 q
theorem zs_pop (X : zMach Z F own cc p s m args c) (d : decode cc pc = .ok (.pop, 1)) (q : zpop st (fun v st => zcat1 v (zW Z p l e R s m args below meth c cells slots Q nL (pc + 1) ls st M))) : zW Z p l e R s m args below meth c cells slots Q nL pc ls st M := by
  obtain ⟨v, st, rfl, q⟩ := zpop_at q
  obtain ⟨h1, q⟩ := zcat1_at (Z := Z) q
  intro hn H locs la hl hP hS
  have q := q hn H locs la hl hP hS
  exact lv_pop X.1 X.2.1 d h1 q
theorem zs_dup2 (X : zMach Z F own cc p s m args c) (d : decode cc pc = .ok (.dup2, 1)) (q : zpop st (fun v st => zpop st (fun w st => zcat1 v (zcat1 w (zW Z p l e R s m args below meth c cells slots Q nL (pc + 1) ls (v :: w :: v :: w :: st) M))))) : zW Z p l e R s m args below meth c cells slots Q nL pc ls st M := by
  obtain ⟨v, st1, rfl, q1⟩ := zpop_at q
  obtain ⟨w, st2, rfl, q⟩ := zpop_at q1
  obtain ⟨h1, q⟩ := zcat1_at (Z := Z) q
  obtain ⟨h2, q⟩ := zcat1_at (Z := Z) q
  intro hn H locs la hl hP hS
  have q := q hn H locs la hl hP hS
  exact lv_dup2_11 X.1 X.2.1 d h1 h2 q
theorem zs_goto (X : zMach Z F own cc p s m args c) {off : Int} (d : decode cc pc = .ok (.goto off, 3)) (q : 0 ≤ (pc : Int) + off ∧ zW Z p l e R s m args below meth c cells slots Q nL (ztgt pc off) ls st M) : zW Z p l e R s m args below meth c cells slots Q nL pc ls st M := by
  intro hn H locs la hl hP hS
  exact lv_goto X.1 X.2.1 d (ztgt_ok q.1) (q.2 hn H locs la hl hP hS)
theorem zs_icmp_eq (X : zMach Z F own cc p s m args c) {off : Int} (d : decode cc pc = .ok (.if_icmp .eq off, 3)) (q : zp2 st (fun a b st => (zIR a ∧ zIR b ∧ 0 ≤ (pc : Int) + off) ∧ zbr (zcond .eq a b) (zW Z p l e R s m args below meth c cells slots Q nL (ztgt pc off) ls st M) (zW Z p l e R s m args below meth c cells slots Q nL (pc + 3) ls st M))) : zW Z p l e R s m args below meth c cells slots Q nL pc ls st M := by
  obtain ⟨a, b, st, rfl, q⟩ := zp2_at q
  intro hn H locs la hl hP hS
  obtain ⟨⟨h1, h2, h0⟩, q1, q2⟩ := q
  exact lv_icmp_eq X.1 X.2.1 d (ztgt_ok h0) (fun hc => q1 ((zIR_eq h1 h2).mp hc) hn H locs la hl hP hS) (fun hc => q2 (fun hh => hc ((zIR_eq h1 h2).mpr hh)) hn H locs la hl hP hS)
theorem zs_if_eq (X : zMach Z F own cc p s m args c) {off : Int} (d : decode cc pc = .ok (.ifCond .eq off, 3)) (q : zp1 st (fun a st => (zIR a ∧ 0 ≤ (pc : Int) + off) ∧ zbr (zcond .eq a 0) (zW Z p l e R s m args below meth c cells slots Q nL (ztgt pc off) ls st M) (zW Z p l e R s m args below meth c cells slots Q nL (pc + 3) ls st M))) : zW Z p l e R s m args below meth c cells slots Q nL pc ls st M := by
  obtain ⟨a, st, rfl, q⟩ := zp1_at q
  intro hn H locs la hl hP hS
  obtain ⟨⟨h1, h0⟩, q1, q2⟩ := q
  have h2 := zIR_0
  exact lv_if_eq X.1 X.2.1 d (ztgt_ok h0) (fun hc => q1 ((zIR_eq h1 h2).mp hc) hn H locs la hl hP hS) (fun hc => q2 (fun hh => hc ((zIR_eq h1 h2).mpr hh)) hn H locs la hl hP hS)
theorem zs_icmp_ne (X : zMach Z F own cc p s m args c) {off : Int} (d : decode cc pc = .ok (.if_icmp .ne off, 3)) (q : zp2 st (fun a b st => (zIR a ∧ zIR b ∧ 0 ≤ (pc : Int) + off) ∧ zbr (zcond .ne a b) (zW Z p l e R s m args below meth c cells slots Q nL (ztgt pc off) ls st M) (zW Z p l e R s m args below meth c cells slots Q nL (pc + 3) ls st M))) : zW Z p l e R s m args below meth c cells slots Q nL pc ls st M := by
  obtain ⟨a, b, st, rfl, q⟩ := zp2_at q
  intro hn H locs la hl hP hS
  obtain ⟨⟨h1, h2, h0⟩, q1, q2⟩ := q
  exact lv_icmp_ne X.1 X.2.1 d (ztgt_ok h0) (fun hc => q1 ((not_congr (zIR_eq h1 h2)).mp hc) hn H locs la hl hP hS) (fun hc => q2 (fun hh => hh ((zIR_eq h1 h2).mp hc)) hn H locs la hl hP hS)
theorem zs_if_ne (X : zMach Z F own cc p s m args c) {off : Int} (d : decode cc pc = .ok (.ifCond .ne off, 3)) (q : zp1 st (fun a st => (zIR a ∧ 0 ≤ (pc : Int) + off) ∧ zbr (zcond .ne a 0) (zW Z p l e R s m args below meth c cells slots Q nL (ztgt pc off) ls st M) (zW Z p l e R s m args below meth c cells slots Q nL (pc + 3) ls st M))) : zW Z p l e R s m args below meth c cells slots Q nL pc ls st M := by
  obtain ⟨a, st, rfl, q⟩ := zp1_at q
  intro hn H locs la hl hP hS
  obtain ⟨⟨h1, h0⟩, q1, q2⟩ := q
  have h2 := zIR_0
  exact lv_if_ne X.1 X.2.1 d (ztgt_ok h0) (fun hc => q1 ((not_congr (zIR_eq h1 h2)).mp hc) hn H locs la hl hP hS) (fun hc => q2 (fun hh => hh ((zIR_eq h1 h2).mp hc)) hn H locs la hl hP hS)
theorem zs_icmp_lt (X : zMach Z F own cc p s m args c) {off : Int} (d : decode cc pc = .ok (.if_icmp .lt off, 3)) (q : zp2 st (fun a b st => (zIR a ∧ zIR b ∧ 0 ≤ (pc : Int) + off) ∧ zbr (zcond .lt a b) (zW Z p l e R s m args below meth c cells slots Q nL (ztgt pc off) ls st M) (zW Z p l e R s m args below meth c cells slots Q nL (pc + 3) ls st M))) : zW Z p l e R s m args below meth c cells slots Q nL pc ls st M := by
  obtain ⟨a, b, st, rfl, q⟩ := zp2_at q
  intro hn H locs la hl hP hS
  obtain ⟨⟨h1, h2, h0⟩, q1, q2⟩ := q
  exact lv_icmp_lt X.1 X.2.1 d (ztgt_ok h0) (fun hc => q1 ((zIR_lt h1 h2).mp hc) hn H locs la hl hP hS) (fun hc => q2 (fun hh => hc ((zIR_lt h1 h2).mpr hh)) hn H locs la hl hP hS)
theorem zs_if_lt (X : zMach Z F own cc p s m args c) {off : Int} (d : decode cc pc = .ok (.ifCond .lt off, 3)) (q : zp1 st (fun a st => (zIR a ∧ 0 ≤ (pc : Int) + off) ∧ zbr (zcond .lt a 0) (zW Z p l e R s m args below meth c cells slots Q nL (ztgt pc off) ls st M) (zW Z p l e R s m args below meth c cells slots Q nL (pc + 3) ls st M))) : zW Z p l e R s m args below meth c cells slots Q nL pc ls st M := by
  obtain ⟨a, st, rfl, q⟩ := zp1_at q
  intro hn H locs la hl hP hS
  obtain ⟨⟨h1, h0⟩, q1, q2⟩ := q
  have h2 := zIR_0
  exact lv_if_lt X.1 X.2.1 d (ztgt_ok h0) (fun hc => q1 ((zIR_lt h1 h2).mp hc) hn H locs la hl hP hS) (fun hc => q2 (fun hh => hc ((zIR_lt h1 h2).mpr hh)) hn H locs la hl hP hS)
theorem zs_icmp_ge (X : zMach Z F own cc p s m args c) {off : Int} (d : decode cc pc = .ok (.if_icmp .ge off, 3)) (q : zp2 st (fun a b st => (zIR a ∧ zIR b ∧ 0 ≤ (pc : Int) + off) ∧ zbr (zcond .ge a b) (zW Z p l e R s m args below meth c cells slots Q nL (ztgt pc off) ls st M) (zW Z p l e R s m args below meth c cells slots Q nL (pc + 3) ls st M))) : zW Z p l e R s m args below meth c cells slots Q nL pc ls st M := by
  obtain ⟨a, b, st, rfl, q⟩ := zp2_at q
  intro hn H locs la hl hP hS
  obtain ⟨⟨h1, h2, h0⟩, q1, q2⟩ := q
  exact lv_icmp_ge X.1 X.2.1 d (ztgt_ok h0) (fun hc => q1 ((zIR_le h2 h1).mp hc) hn H locs la hl hP hS) (fun hc => q2 (fun hh => hc ((zIR_le h2 h1).mpr hh)) hn H locs la hl hP hS)
theorem zs_if_ge (X : zMach Z F own cc p s m args c) {off : Int} (d : decode cc pc = .ok (.ifCond .ge off, 3)) (q : zp1 st (fun a st => (zIR a ∧ 0 ≤ (pc : Int) + off) ∧ zbr (zcond .ge a 0) (zW Z p l e R s m args below meth c cells slots Q nL (ztgt pc off) ls st M) (zW Z p l e R s m args below meth c cells slots Q nL (pc + 3) ls st M))) : zW Z p l e R s m args below meth c cells slots Q nL pc ls st M := by
  obtain ⟨a, st, rfl, q⟩ := zp1_at q
  intro hn H locs la hl hP hS
  obtain ⟨⟨h1, h0⟩, q1, q2⟩ := q
  have h2 := zIR_0
  exact lv_if_ge X.1 X.2.1 d (ztgt_ok h0) (fun hc => q1 ((zIR_le h2 h1).mp hc) hn H locs la hl hP hS) (fun hc => q2 (fun hh => hc ((zIR_le h2 h1).mpr hh)) hn H locs la hl hP hS)
theorem zs_icmp_gt (X : zMach Z F own cc p s m args c) {off : Int} (d : decode cc pc = .ok (.if_icmp .gt off, 3)) (q : zp2 st (fun a b st => (zIR a ∧ zIR b ∧ 0 ≤ (pc : Int) + off) ∧ zbr (zcond .gt a b) (zW Z p l e R s m args below meth c cells slots Q nL (ztgt pc off) ls st M) (zW Z p l e R s m args below meth c cells slots Q nL (pc + 3) ls st M))) : zW Z p l e R s m args below meth c cells slots Q nL pc ls st M := by
  obtain ⟨a, b, st, rfl, q⟩ := zp2_at q
  intro hn H locs la hl hP hS
  obtain ⟨⟨h1, h2, h0⟩, q1, q2⟩ := q
  exact lv_icmp_gt X.1 X.2.1 d (ztgt_ok h0) (fun hc => q1 ((zIR_lt h2 h1).mp hc) hn H locs la hl hP hS) (fun hc => q2 (fun hh => hc ((zIR_lt h2 h1).mpr hh)) hn H locs la hl hP hS)
theorem zs_if_gt (X : zMach Z F own cc p s m args c) {off : Int} (d : decode cc pc = .ok (.ifCond .gt off, 3)) (q : zp1 st (fun a st => (zIR a ∧ 0 ≤ (pc : Int) + off) ∧ zbr (zcond .gt a 0) (zW Z p l e R s m args below meth c cells slots Q nL (ztgt pc off) ls st M) (zW Z p l e R s m args below meth c cells slots Q nL (pc + 3) ls st M))) : zW Z p l e R s m args below meth c cells slots Q nL pc ls st M := by
  obtain ⟨a, st, rfl, q⟩ := zp1_at q
  intro hn H locs la hl hP hS
  obtain ⟨⟨h1, h0⟩, q1, q2⟩ := q
  have h2 := zIR_0
  exact lv_if_gt X.1 X.2.1 d (ztgt_ok h0) (fun hc => q1 ((zIR_lt h2 h1).mp hc) hn H locs la hl hP hS) (fun hc => q2 (fun hh => hc ((zIR_lt h2 h1).mpr hh)) hn H locs la hl hP hS)
theorem zs_icmp_le (X : zMach Z F own cc p s m args c) {off : Int} (d : decode cc pc = .ok (.if_icmp .le off, 3)) (q : zp2 st (fun a b st => (zIR a ∧ zIR b ∧ 0 ≤ (pc : Int) + off) ∧ zbr (zcond .le a b) (zW Z p l e R s m args below meth c cells slots Q nL (ztgt pc off) ls st M) (zW Z p l e R s m args below meth c cells slots Q nL (pc + 3) ls st M))) : zW Z p l e R s m args below meth c cells slots Q nL pc ls st M := by
  obtain ⟨a, b, st, rfl, q⟩ := zp2_at q
  intro hn H locs la hl hP hS
  obtain ⟨⟨h1, h2, h0⟩, q1, q2⟩ := q
  exact lv_icmp_le X.1 X.2.1 d (ztgt_ok h0) (fun hc => q1 ((zIR_le h1 h2).mp hc) hn H locs la hl hP hS) (fun hc => q2 (fun hh => hc ((zIR_le h1 h2).mpr hh)) hn H locs la hl hP hS)
theorem zs_if_le (X : zMach Z F own cc p s m args c) {off : Int} (d : decode cc pc = .ok (.ifCond .le off, 3)) (q : zp1 st (fun a st => (zIR a ∧ 0 ≤ (pc : Int) + off) ∧ zbr (zcond .le a 0) (zW Z p l e R s m args below meth c cells slots Q nL (ztgt pc off) ls st M) (zW Z p l e R s m args below meth c cells slots Q nL (pc + 3) ls st M))) : zW Z p l e R s m args below meth c cells slots Q nL pc ls st M := by
  obtain ⟨a, st, rfl, q⟩ := zp1_at q
  intro hn H locs la hl hP hS
  obtain ⟨⟨h1, h0⟩, q1, q2⟩ := q
  have h2 := zIR_0
  exact lv_if_le X.1 X.2.1 d (ztgt_ok h0) (fun hc => q1 ((zIR_le h1 h2).mp hc) hn H locs la hl hP hS) (fun hc => q2 (fun hh => hc ((zIR_le h1 h2).mpr hh)) hn H locs la hl hP hS)
theorem zs_tableswitch (X : zMach Z F own cc p s m args c) {dd lo hi : Int} {offs : Array Int} {len : Nat} (d : decode cc pc = .ok (.tableswitch dd lo hi offs, len)) (q : zp1 st (fun a st => zIR a ∧ zopt (zsw dd lo hi offs a) (fun off => 0 ≤ (pc : Int) + off ∧ zW Z p l e R s m args below meth c cells slots Q nL (ztgt pc off) ls st M))) : zW Z p l e R s m args below meth c cells slots Q nL pc ls st M := by
  obtain ⟨a, st, rfl, q⟩ := zp1_at q
  intro hn H locs la hl hP hS
  obtain ⟨h1, q⟩ := q
  obtain ⟨off, ho, h0, q⟩ := zopt_at q
  have q := q hn H locs la hl hP hS
  unfold zsw at ho
  split at ho
  · rename_i hc
    cases ho
    exact lv_tableOut X.1 X.2.1 d (by rw [zIR_to h1]; exact hc) (ztgt_ok h0) q
  · rename_i hc
    exact lv_tableIn X.1 X.2.1 d (by rw [zIR_to h1]; exact fun h => hc (Or.inl h)) (by rw [zIR_to h1]; exact fun h => hc (Or.inr h)) (by rw [zIR_to h1]; exact ho) (ztgt_ok h0) q
theorem zs_lookupswitch (X : zMach Z F own cc p s m args c) {dd : Int} {ps : Array (Int × Int)} {len : Nat} (d : decode cc pc = .ok (.lookupswitch dd ps, len)) (q : zp1 st (fun a st => zIR a ∧ (ps.toList.zip (ps.toList.drop 1)).all (fun (a, next) => a.1 < next.1) = true ∧ 0 ≤ (pc : Int) + Op.lookupswitch.offset ps.toList dd a ∧ zW Z p l e R s m args below meth c cells slots Q nL (ztgt pc (Op.lookupswitch.offset ps.toList dd a)) ls st M)) : zW Z p l e R s m args below meth c cells slots Q nL pc ls st M := by
  obtain ⟨a, st, rfl, q⟩ := zp1_at q
  intro hn H locs la hl hP hS
  obtain ⟨h1, h2, h0, q⟩ := q
  have q := q hn H locs la hl hP hS
  exact lv_lookup X.1 X.2.1 d h2 (by rw [zIR_to h1]) (ztgt_ok h0) q
end ZS1
