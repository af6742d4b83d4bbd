theorem zcell_put {Z : zX} {M : zM} {r k : Nat} {a : Int} {b : Bool} {fs : List (Bool ⊕ Nat)} (h2 : fs[k]? = some (.inl b)) : (fs.mapIdx (fun j f => zfv Z M r j f)).set k (zfv Z (zup M r k a) r k (.inl b)) = fs.mapIdx (fun j f => zfv Z (zup M r k a) r j f) := by
  have hkf : k < fs.length := (List.getElem?_eq_some_iff.mp h2).1
  apply List.ext_getElem?
  intro j
  rw [List.getElem?_set, List.getElem?_mapIdx, List.getElem?_mapIdx, List.length_mapIdx]
  split
  · rename_i hj
    subst hj
    rw [h2]
    rfl
  · rename_i hj
    cases hfj : fs[j]? with
    | none => rfl
    | some f =>
      rcases f with b2 | r2
      · have hz : zup M r k a r j = M r j := by rw [zup_in, if_neg (by omega)]
        cases b2 <;> simp only [Option.map_some, zfv, hz]
      · rfl
theorem zup_f32 {M : zM} {r : Nat} {i v : Int} (h : 0 ≤ i) : upd (fun j : Nat => Int32.ofInt (M r j)) i.toNat (Int32.ofInt v) = fun j : Nat => Int32.ofInt (zup M r i v r j) := by
  funext j
  simp only [upd, zup_in]
  by_cases hj : j = i.toNat
  · rw [if_pos hj, if_pos (by omega)]
  · rw [if_neg hj, if_neg (by omega)]
theorem zup_f64 {M : zM} {r : Nat} {i v : Int} (h : 0 ≤ i) : vp_updL (fun j : Nat => Int64.ofInt (M r j)) i.toNat (Int64.ofInt v) = fun j : Nat => Int64.ofInt (zup M r i v r j) := by
  funext j
  simp only [vp_updL, zup_in]
  by_cases hj : j = i.toNat
  · rw [if_pos hj, if_pos (by omega)]
  · rw [if_neg hj, if_neg (by omega)]
section ZS2
variable {p : Program} {l : Launch} {e : Env} {R : Room} {s : State} {m : MethodId} {args : Array Value} {below : List Frame} {meth : Method} {c : Code} {cells slots : Nat} {Q : State → Prop}
variable {Z : zX} {F : zF} {V : zN} {cc : ByteArray} {own : String} {nL pc : Nat} {ls : List (Option zV)} {st : List zV} {M : zM}
theorem zs_getfield (X : zMach Z F own cc p s m args c) {n : Nat} (d : decode cc pc = .ok (.getfield n, 3)) (q : zpr st (fun r st => zgetx F n r M (fun v => zW Z p l e R s m args below meth c cells slots Q nL (pc + 3) ls (v :: st) M))) : zW Z p l e R s m args below meth c cells slots Q nL pc ls st M := by
  obtain ⟨r, st, rfl, q1⟩ := zpr_at q
  intro hn H locs la hl hP hS
  unfold zgetx at q1
  split at q1
  · rename_i qq hq
    obtain ⟨C, T, N, ty0, hc, hk, hts, hty, hnm, hlink⟩ := X.2.2.2.2.2.1 n qq.1 qq.2 hq
    have key : ∀ (v : zV) (f : Bool ⊕ Nat), zft qq.1 r qq.2 = some f → zfv Z M r qq.2 f = zc Z v → zW Z p l e R s m args below meth c cells slots Q nL (pc + 3) ls (v :: st) M → W p l e R s m args below meth c H locs cells slots Q (F0 m pc la ((.inr (.inr r) :: st : List zV).map (zc Z))) := by
      intro v f hf hv q
      obtain ⟨fs, h1, h2⟩ := zft_at hf
      have h3 := zw_get (Z := Z) (M := M) h1
      simp only [zcell] at h3
      have q := q hn H locs la hl hP hS
      exact va_get X.1 X.2.1 hts (fun w h => h) X.2.2.1 X.2.2.2.1 hP r h3 hc qq.2 hk hlink (fun _ h => h) (by rw [List.getElem?_mapIdx, h2]; exact congrArg some hv) d q
    unfold zgetf at q1
    split at q1
    · rename_i hf; exact key _ _ hf rfl q1
    · rename_i hf; exact key _ _ hf rfl q1
    · rename_i hf; exact key _ _ hf rfl q1
    · exact False.elim q1
  · obtain ⟨v, hv, q⟩ := zopt_at q1
    obtain ⟨o, nm, dd, h1, h2⟩ := X.2.2.2.2.2.2.2.2.2 _ _ _ hv
    have q := q hn H locs la hl hP hS
    exact vk_getf X.1 X.2.1 h1 hS X.2.2.1 h2 (fun _ h => h) d q
theorem zs_putfield (X : zMach Z F own cc p s m args c) {n : Nat} (d : decode cc pc = .ok (.putfield n, 3)) (q : zopt (zFf F n) (fun q => zpop st (fun v st => zpr st (fun r st => zputf q.1 r q.2 M v (fun M1 => zW Z p l e R s m args below meth c cells slots Q nL (pc + 3) ls st M1))))) : zW Z p l e R s m args below meth c cells slots Q nL pc ls st M := by
  obtain ⟨qq, hq, q1⟩ := zopt_at q
  obtain ⟨v, st1, rfl, q2⟩ := zpop_at q1
  obtain ⟨r, st2, rfl, q3⟩ := zpr_at q2
  intro hn H locs la hl hP hS
  obtain ⟨C, T, N, ty0, hc, hk, hts, hty, hnm, hlink⟩ := X.2.2.2.2.2.1 n qq.1 qq.2 hq
  have key : ∀ (b : Bool) (a : Int), zft qq.1 r qq.2 = some (.inl b) → zc Z v = zfv Z (zup M r qq.2 a) r qq.2 (.inl b) → narrow (if b then .long else .int) (zc Z v) = zc Z v → fits (if b then .long else .int) (zc Z v) = true → zW Z p l e R s m args below meth c cells slots Q nL (pc + 3) ls st2 (zup M r qq.2 a) → W p l e R s m args below meth c H locs cells slots Q (F0 m pc la ((v :: .inr (.inr r) :: st2 : List zV).map (zc Z))) := by
    intro b a hf hv hnar hfit q
    obtain ⟨fs, h1, h2⟩ := zft_at hf
    obtain ⟨hlen, hkd⟩ := zkinds_at (k := qq.2) h1 hc
    obtain ⟨hfin, hpar⟩ := hkd b h2
    have h3 := zw_get (Z := Z) (M := M) h1
    simp only [zcell] at h3
    have hkf : qq.2 < fs.length := (List.getElem?_eq_some_iff.mp h2).1
    refine va_put X.1 X.2.1 hts (fun w h => h) ty0 hty hnm X.2.2.1 X.2.2.2.1 hP (X.2.2.2.2.1 M) hS r h3 hc qq.2 hk hlink (fun _ h => h) hfin hpar hnar hfit (by rw [List.length_mapIdx]; exact hkf) d (fun H1 locs1 hP1 hD1 hS1 => ?_)
    have e : (zw Z M).set r (zad Z r, .inr (qq.1, (fs.mapIdx (fun j f => zfv Z M r j f)).set qq.2 (zc Z v))) = zw Z (zup M r qq.2 a) := zw_set h1 (by simp only [zcell]; rw [hv, zcell_put h2])
    rw [e] at hP1
    exact q hn H1 locs1 la hl hP1 hS1
  unfold zputf at q3
  split at q3
  · rename_i a hf; exact key false a hf (by simp only [zc, zfv, zup_in, if_true]) rfl rfl q3
  · rename_i a hf; exact key true a hf (by simp only [zc, zfv, zup_in, if_true]) rfl rfl q3
  · exact False.elim q3
theorem zs_getstatic (X : zMach Z F own cc p s m args c) {n : Nat} (d : decode cc pc = .ok (.getstatic n, 3)) (q : zopt (zFs F n) (fun v => zW Z p l e R s m args below meth c cells slots Q nL (pc + 3) ls (v :: st) M)) : zW Z p l e R s m args below meth c cells slots Q nL pc ls st M := by
  obtain ⟨v, hv, q⟩ := zopt_at q
  intro hn H locs la hl hP hS
  have q := q hn H locs la hl hP hS
  obtain ⟨C, nm, dd, h1, h2⟩ := X.2.2.2.2.2.2.2.1 _ _ hv
  rcases h2 with h2 | ⟨host, h2⟩
  · exact va_gets X.1 X.2.1 h1 hS X.2.2.1 h2 (fun _ h => h) d q
  · exact va_getsN X.1 X.2.1 h1 hS X.2.2.1 h2 (fun _ h => h) d q
theorem zs_iaload (X : zMach Z F own cc p s m args c) (d : decode cc pc = .ok (.iaload, 1)) (q : zp1 st (fun i st => zpr st (fun r st => zread F 0 r M i (fun v => zW Z p l e R s m args below meth c cells slots Q nL (pc + 1) ls (.inl v :: st) M)))) : zW Z p l e R s m args below meth c cells slots Q nL pc ls st M := by
  obtain ⟨i, st1, rfl, q1⟩ := zp1_at q
  obtain ⟨r, st2, rfl, q2⟩ := zpr_at q1
  intro hn H locs la hl hP hS
  unfold zread at q2
  split at q2
  · rename_i n hz
    obtain ⟨h1, h2⟩ := zarr_at hz
    obtain ⟨⟨h3, h4⟩, q⟩ := q2
    obtain ⟨h5, h6⟩ := zin_of h3 h4 h2
    have h7 := zw_get (Z := Z) (M := M) h1
    simp only [zcell] at h7
    have q := q hn H locs la hl hP hS
    refine va_iald X.1 X.2.1 X.2.2.2.1 hP r 0 h7 rfl h5 d ?_
    rw [h6, Int.toNat_of_nonneg h3]
    exact q
  · split at q2
    · rename_i t1 n1 g1 hx
      obtain ⟨hT, h2, -⟩ := X.2.2.2.2.2.2.2.2.1 _ _ hx
      obtain ⟨ht, ⟨h3, h4⟩, q⟩ := q2
      subst ht
      obtain ⟨h5, h6⟩ := zin_of h3 h4 h2
      have q := q hn H locs la hl hP hS
      exact va_ti X.1 X.2.1 hT hS h5 (v := .int (Int32.ofInt (g1 i))) (by rw [h6, Int.toNat_of_nonneg h3]) d q
    · exact False.elim q2
theorem zs_laload (X : zMach Z F own cc p s m args c) (d : decode cc pc = .ok (.laload, 1)) (q : zp1 st (fun i st => zpr st (fun r st => zread F 1 r M i (fun v => zW Z p l e R s m args below meth c cells slots Q nL (pc + 1) ls (.inr (.inl v) :: st) M)))) : zW Z p l e R s m args below meth c cells slots Q nL pc ls st M := by
  obtain ⟨i, st1, rfl, q1⟩ := zp1_at q
  obtain ⟨r, st2, rfl, q2⟩ := zpr_at q1
  intro hn H locs la hl hP hS
  unfold zread at q2
  split at q2
  · rename_i n hz
    obtain ⟨h1, h2⟩ := zarr_at hz
    obtain ⟨⟨h3, h4⟩, q⟩ := q2
    obtain ⟨h5, h6⟩ := zin_of h3 h4 h2
    have h7 := zw_get (Z := Z) (M := M) h1
    simp only [zcell] at h7
    have q := q hn H locs la hl hP hS
    refine va_lald X.1 X.2.1 X.2.2.2.1 hP r 1 h7 rfl h5 d ?_
    rw [h6, Int.toNat_of_nonneg h3]
    exact q
  · split at q2
    · rename_i t1 n1 g1 hx
      obtain ⟨hT, h2, h8⟩ := X.2.2.2.2.2.2.2.2.1 _ _ hx
      obtain ⟨ht, ⟨h3, h4⟩, q⟩ := q2
      simp only at h8
      omega
    · exact False.elim q2
theorem zs_baload (X : zMach Z F own cc p s m args c) (d : decode cc pc = .ok (.baload, 1)) (q : zp1 st (fun i st => zpr st (fun r st => zread F 2 r M i (fun v => zW Z p l e R s m args below meth c cells slots Q nL (pc + 1) ls (.inl v :: st) M)))) : zW Z p l e R s m args below meth c cells slots Q nL pc ls st M := by
  obtain ⟨i, st1, rfl, q1⟩ := zp1_at q
  obtain ⟨r, st2, rfl, q2⟩ := zpr_at q1
  intro hn H locs la hl hP hS
  unfold zread at q2
  split at q2
  · rename_i n hz
    obtain ⟨h1, h2⟩ := zarr_at hz
    obtain ⟨⟨h3, h4⟩, q⟩ := q2
    obtain ⟨h5, h6⟩ := zin_of h3 h4 h2
    have h7 := zw_get (Z := Z) (M := M) h1
    simp only [zcell] at h7
    have q := q hn H locs la hl hP hS
    refine va_zald X.1 X.2.1 X.2.2.2.1 hP r 2 h7 rfl h5 d ?_
    rw [h6, Int.toNat_of_nonneg h3]
    exact q
  · split at q2
    · rename_i t1 n1 g1 hx
      obtain ⟨hT, h2, -⟩ := X.2.2.2.2.2.2.2.2.1 _ _ hx
      obtain ⟨ht, ⟨h3, h4⟩, q⟩ := q2
      subst ht
      obtain ⟨h5, h6⟩ := zin_of h3 h4 h2
      have q := q hn H locs la hl hP hS
      exact va_tb X.1 X.2.1 hT hS h5 (v := .int (Int32.ofInt (g1 i))) (by rw [h6, Int.toNat_of_nonneg h3]) d q
    · exact False.elim q2
theorem zs_iastore (X : zMach Z F own cc p s m args c) (d : decode cc pc = .ok (.iastore, 1)) (q : zp2 st (fun i v st => zpr st (fun r st => zwrite 0 r i (zW Z p l e R s m args below meth c cells slots Q nL (pc + 1) ls st (zup M r i v))))) : zW Z p l e R s m args below meth c cells slots Q nL pc ls st M := by
  obtain ⟨i, v, st1, rfl, q1⟩ := zp2_at q
  obtain ⟨r, st2, rfl, q2⟩ := zpr_at q1
  intro hn H locs la hl hP hS
  unfold zwrite at q2
  split at q2
  · rename_i n hz
    obtain ⟨h1, h2⟩ := zarr_at hz
    obtain ⟨⟨h3, h4⟩, q⟩ := q2
    obtain ⟨h5, h6⟩ := zin_of h3 h4 h2
    have h7 := zw_get (Z := Z) (M := M) h1
    simp only [zcell] at h7
    refine va_iast X.1 X.2.1 X.2.2.2.1 hP (X.2.2.2.2.1 M) hS r 0 h7 rfl h5 d (fun H1 locs1 hP1 hD1 hS1 => ?_)
    rw [h6, zup_f32 h3, zw_set (i := i) (v := v) h1 (by simp only [zcell])] at hP1
    exact q hn H1 locs1 la hl hP1 hS1
  · exact False.elim q2
theorem zs_bastore (X : zMach Z F own cc p s m args c) (d : decode cc pc = .ok (.bastore, 1)) (q : zp2 st (fun i v st => zpr st (fun r st => zwrite 2 r i ((v = 0 ∨ v = 1) ∧ zW Z p l e R s m args below meth c cells slots Q nL (pc + 1) ls st (zup M r i v))))) : zW Z p l e R s m args below meth c cells slots Q nL pc ls st M := by
  obtain ⟨i, v, st1, rfl, q1⟩ := zp2_at q
  obtain ⟨r, st2, rfl, q2⟩ := zpr_at q1
  intro hn H locs la hl hP hS
  unfold zwrite at q2
  split at q2
  · rename_i n hz
    obtain ⟨h1, h2⟩ := zarr_at hz
    obtain ⟨⟨h3, h4⟩, q⟩ := q2
    obtain ⟨h8, q⟩ := q
    obtain ⟨h5, h6⟩ := zin_of h3 h4 h2
    have h7 := zw_get (Z := Z) (M := M) h1
    simp only [zcell] at h7
    refine va_zast X.1 X.2.1 X.2.2.2.1 hP (X.2.2.2.2.1 M) hS r 2 h7 rfl h5 d (fun H1 locs1 hP1 hD1 hS1 => ?_)
    have e9 : vp_nar .boolean (Int32.ofInt v) = Int32.ofInt v := by rcases h8 with rfl | rfl <;> rfl
    rw [e9] at hP1
    rw [h6, zup_f32 h3, zw_set (i := i) (v := v) h1 (by simp only [zcell])] at hP1
    exact q hn H1 locs1 la hl hP1 hS1
  · exact False.elim q2
theorem zs_lastore (X : zMach Z F own cc p s m args c) (d : decode cc pc = .ok (.lastore, 1)) (q : zpl st (fun v st => zp1 st (fun i st => zpr st (fun r st => zwrite 1 r i (zW Z p l e R s m args below meth c cells slots Q nL (pc + 1) ls st (zup M r i v)))))) : zW Z p l e R s m args below meth c cells slots Q nL pc ls st M := by
  obtain ⟨v, st0, rfl, q0⟩ := zpl_at q
  obtain ⟨i, st1, rfl, q1⟩ := zp1_at q0
  obtain ⟨r, st2, rfl, q2⟩ := zpr_at q1
  intro hn H locs la hl hP hS
  unfold zwrite at q2
  split at q2
  · rename_i n hz
    obtain ⟨h1, h2⟩ := zarr_at hz
    obtain ⟨⟨h3, h4⟩, q⟩ := q2
    obtain ⟨h5, h6⟩ := zin_of h3 h4 h2
    have h7 := zw_get (Z := Z) (M := M) h1
    simp only [zcell] at h7
    refine va_last X.1 X.2.1 X.2.2.2.1 hP (X.2.2.2.2.1 M) hS r 1 h7 rfl h5 d (fun H1 locs1 hP1 hD1 hS1 => ?_)
    rw [h6, zup_f64 h3, zw_set (i := i) (v := v) h1 (by simp only [zcell])] at hP1
    exact q hn H1 locs1 la hl hP1 hS1
  · exact False.elim q2
theorem zs_aaload (X : zMach Z F own cc p s m args c) (d : decode cc pc = .ok (.aaload, 1)) (q : zp1 st (fun i st => zpr st (fun r st => zopt (zrow r) (fun rs => (0 ≤ i ∧ i < rs.length) ∧ zW Z p l e R s m args below meth c cells slots Q nL (pc + 1) ls (.inr (.inr (rs.getD i.toNat 0)) :: st) M)))) : zW Z p l e R s m args below meth c cells slots Q nL pc ls st M := by
  obtain ⟨i, st1, rfl, q1⟩ := zp1_at q
  obtain ⟨r, st2, rfl, q2⟩ := zpr_at q1
  obtain ⟨rs, hz, q3⟩ := zopt_at q2
  intro hn H locs la hl hP hS
  obtain ⟨h1, h2⟩ := zrow_at hz
  obtain ⟨⟨h3, h4⟩, q⟩ := q3
  obtain ⟨h5, h6⟩ := zin_of h3 h4 h2
  have h7 := zw_get (Z := Z) (M := M) h1
  simp only [zcell] at h7
  have q := q hn H locs la hl hP hS
  refine va_aldq X.1 X.2.1 X.2.2.2.1 hP r 3 h7 rfl h5 d ?_
  rw [h6]
  have h8 : i.toNat < rs.length := by omega
  have h9 : (rs[i.toNat]?).map (zad Z) = some (zad Z (rs.getD i.toNat 0)) := by
    rw [List.getD_eq_getElem?_getD, List.getElem?_eq_getElem h8]
    rfl
  rw [h9]
  exact q
theorem zs_arraylength (X : zMach Z F own cc p s m args c) (d : decode cc pc = .ok (.arraylength, 1)) (q : zpr st (fun r st => zlenof F r (fun n => zW Z p l e R s m args below meth c cells slots Q nL (pc + 1) ls (.inl n :: st) M))) : zW Z p l e R s m args below meth c cells slots Q nL pc ls st M := by
  obtain ⟨r, st2, rfl, q1⟩ := zpr_at q
  intro hn H locs la hl hP hS
  unfold zlenof at q1
  cases h0 : zarr 0 r with
  | some n =>
    rw [h0] at q1
    obtain ⟨h1, h2⟩ := zarr_at h0
    have h7 := zw_get (Z := Z) (M := M) h1
    simp only [zcell] at h7
    have q := q1 hn H locs la hl hP hS
    exact va_alen X.1 X.2.1 X.2.2.2.1 hP r 0 h7 rfl Int32.ofInt_eq_ofNat.symm d q
  | none =>
    rw [h0] at q1
    cases h9 : zarr 1 r with
    | some n =>
      rw [h9] at q1
      obtain ⟨h1, h2⟩ := zarr_at h9
      have h7 := zw_get (Z := Z) (M := M) h1
      simp only [zcell] at h7
      have q := q1 hn H locs la hl hP hS
      exact va_alen X.1 X.2.1 X.2.2.2.1 hP r 1 h7 rfl Int32.ofInt_eq_ofNat.symm d q
    | none =>
      rw [h9] at q1
      cases hx : zFx F r with
      | none => rw [hx] at q1; exact False.elim q1
      | some g =>
        rw [hx] at q1
        obtain ⟨hT, h2, -⟩ := X.2.2.2.2.2.2.2.2.1 _ _ hx
        have q := q1 hn H locs la hl hP hS
        exact va_tlen X.1 X.2.1 hT hS Int32.ofInt_eq_ofNat.symm d q
end ZS2
