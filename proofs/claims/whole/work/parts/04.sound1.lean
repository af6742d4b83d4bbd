
abbrev zX : Type := va_G × (Nat → Nat) × Nat × (Nat → ClassId)
def zad (Z : zX) (k : Nat) : Nat := Z.2.1 k
def zA (Z : zX) (q : Nat) : Prop := Z.2.2.1 ≤ q
def ztys (Z : zX) : List (ClassId × FieldType) := [(Z.2.2.2 0, .int), (Z.2.2.2 1, .long), (Z.2.2.2 2, .boolean), (Z.2.2.2 3, .object RX1)]
def zc (Z : zX) (v : zV) : Value := match v with
  | .inl a => .int (Int32.ofInt a)
  | .inr (.inl a) => .long (Int64.ofInt a)
  | .inr (.inr k) => .ref (zad Z k)
def zfv (Z : zX) (M : zM) (k j : Nat) (f : Bool ⊕ Nat) : Value := match f with
  | .inl false => .int (Int32.ofInt (M k j))
  | .inl true => .long (Int64.ofInt (M k j))
  | .inr r => .ref (zad Z r)
def zcell (Z : zX) (M : zM) (k : Nat) (sh : zH) : va_E := match sh with
  | .inl (ci, fs) => .inr (ci, fs.mapIdx (fun j f => zfv Z M k j f))
  | .inr (.inl (0, n)) => .inl (Z.2.2.2 0, n, .inl (fun j => Int32.ofInt (M k j)))
  | .inr (.inl (1, n)) => .inl (Z.2.2.2 1, n, .inr (.inl (fun j => Int64.ofInt (M k j))))
  | .inr (.inl (_, n)) => .inl (Z.2.2.2 2, n, .inl (fun j => Int32.ofInt (M k j)))
  | .inr (.inr rs) => .inl (Z.2.2.2 3, rs.length, .inr (.inr (.inr (.inr (fun j => (rs[j]?).map (zad Z))))))
def zw (Z : zX) (M : zM) : va_W := zSh.mapIdx (fun k sh => (zad Z k, zcell Z M k sh))
theorem zw_get {Z : zX} {M : zM} {k : Nat} {sh : zH} (h : zSh[k]? = some sh) : (zw Z M)[k]? = some (zad Z k, zcell Z M k sh) := by
  unfold zw
  rw [List.getElem?_mapIdx, h]
  rfl
theorem zup_ne {M : zM} {k k' : Nat} {i v a : Int} (h : k' ≠ k) : zup M k i v k' a = M k' a := by simp [zup, h]
theorem zup_in {M : zM} {k : Nat} {i v a : Int} : zup M k i v k a = if a = i then v else M k a := by simp [zup]
theorem zcell_other {Z : zX} {M : zM} {k k' : Nat} {i v : Int} {sh : zH} (h : k' ≠ k) : zcell Z (zup M k i v) k' sh = zcell Z M k' sh := by
  rcases sh with ⟨ci, fs⟩ | ⟨t, n⟩ | rs
  · simp only [zcell]
    congr 3
    funext j f
    rcases f with b | r
    · cases b <;> simp [zfv, zup_ne h]
    · rfl
  · match t with
    | 0 => simp only [zcell, zup_ne h]
    | 1 => simp only [zcell, zup_ne h]
    | (t + 2) => simp only [zcell, zup_ne h]
  · rfl
theorem zw_set {Z : zX} {M : zM} {k : Nat} {i v : Int} {sh : zH} {E : va_E} (h : zSh[k]? = some sh) (hE : E = zcell Z (zup M k i v) k sh) : (zw Z M).set k (zad Z k, E) = zw Z (zup M k i v) := by
  apply List.ext_getElem?
  intro j
  by_cases hj : k = j
  · subst hj
    rw [zw_get h, List.getElem?_set_self (by have := (List.getElem?_eq_some_iff.mp (zw_get (Z := Z) (M := M) h)).1; exact this), hE]
  · rw [List.getElem?_set_ne hj]
    unfold zw
    rw [List.getElem?_mapIdx, List.getElem?_mapIdx]
    cases zSh[j]? with
    | none => rfl
    | some x => simp only [Option.map_some, zcell_other (fun q => hj q.symm)]
def zL (Z : zX) : Nat → List (Option zV) → List (Nat × Value)
  | _, [] => []
  | i, some v :: ls => (i, zc Z v) :: zL Z (i + 1) ls
  | i, none :: ls => zL Z (i + 1) ls
theorem zL_mem {Z : zX} : ∀ {ls : List (Option zV)} {i : Nat} {q : Nat × Value}, q ∈ zL Z i ls ↔ ∃ (j : Nat) (v : zV), ls[j]? = some (some v) ∧ q = (i + j, zc Z v)
  | [], i, q => by simp [zL]
  | none :: ls, i, q => by
    simp only [zL]
    rw [zL_mem]
    constructor
    · rintro ⟨j, v, h1, h2⟩
      exact ⟨j + 1, v, by simpa using h1, by rw [h2]; congr 1; omega⟩
    · rintro ⟨j, v, h1, h2⟩
      cases j with
      | zero => simp at h1
      | succ j => exact ⟨j, v, by simpa using h1, by rw [h2]; congr 1; omega⟩
  | some w :: ls, i, q => by
    simp only [zL, List.mem_cons]
    rw [zL_mem]
    constructor
    · rintro (h | ⟨j, v, h1, h2⟩)
      · exact ⟨0, w, by simp, by rw [h]; rfl⟩
      · exact ⟨j + 1, v, by simpa using h1, by rw [h2]; congr 1; omega⟩
    · rintro ⟨j, v, h1, h2⟩
      cases j with
      | zero => simp at h1; subst h1; exact Or.inl (by rw [h2]; rfl)
      | succ j => exact Or.inr ⟨j, v, by simpa using h1, by rw [h2]; congr 1; omega⟩
theorem zld_at : ∀ {ls : List (Option zV)} {n : Nat} {f : zV → Prop}, zld ls n f → ∃ v, ls[n]? = some (some v) ∧ f v
  | [], _, _, q => by simp [zld] at q
  | none :: _, 0, _, q => by simp [zld, zsome] at q
  | some v :: _, 0, _, q => ⟨v, by simp, by simpa only [zld, zsome] using q⟩
  | _ :: ls, n + 1, _, q => by simp only [zld] at q; simpa using zld_at q
theorem zint_at {v : zV} {f : Int → Prop} (q : zint v f) : ∃ a, v = .inl a ∧ f a := by
  rcases v with a | a | a
  · exact ⟨a, rfl, q⟩
  · exact False.elim q
  · exact False.elim q
theorem zlong_at {v : zV} {f : Int → Prop} (q : zlong v f) : ∃ a, v = .inr (.inl a) ∧ f a := by
  rcases v with a | a | a
  · exact False.elim q
  · exact ⟨a, rfl, q⟩
  · exact False.elim q
theorem zref_at {v : zV} {f : Nat → Prop} (q : zref v f) : ∃ a, v = .inr (.inr a) ∧ f a := by
  rcases v with a | a | a
  · exact False.elim q
  · exact False.elim q
  · exact ⟨a, rfl, q⟩
theorem zpop_at {st : List zV} {f : zV → List zV → Prop} (q : zpop st f) : ∃ v st', st = v :: st' ∧ f v st' := by
  cases st with
  | nil => exact False.elim q
  | cons v st => exact ⟨v, st, rfl, q⟩
theorem zp1_at {st : List zV} {f : Int → List zV → Prop} (q : zp1 st f) : ∃ a st', st = .inl a :: st' ∧ f a st' := by
  obtain ⟨v, st', rfl, q⟩ := zpop_at q
  obtain ⟨a, rfl, q⟩ := zint_at q
  exact ⟨a, st', rfl, q⟩
theorem zpl_at {st : List zV} {f : Int → List zV → Prop} (q : zpl st f) : ∃ a st', st = .inr (.inl a) :: st' ∧ f a st' := by
  obtain ⟨v, st', rfl, q⟩ := zpop_at q
  obtain ⟨a, rfl, q⟩ := zlong_at q
  exact ⟨a, st', rfl, q⟩
theorem zpr_at {st : List zV} {f : Nat → List zV → Prop} (q : zpr st f) : ∃ a st', st = .inr (.inr a) :: st' ∧ f a st' := by
  obtain ⟨v, st', rfl, q⟩ := zpop_at q
  obtain ⟨a, rfl, q⟩ := zref_at q
  exact ⟨a, st', rfl, q⟩
theorem zp2_at {st : List zV} {f : Int → Int → List zV → Prop} (q : zp2 st f) : ∃ a b st', st = .inl b :: .inl a :: st' ∧ f a b st' := by
  obtain ⟨b, st1, rfl, q1⟩ := zp1_at q
  obtain ⟨a, st2, rfl, q⟩ := zp1_at q1
  exact ⟨a, b, st2, rfl, q⟩
theorem zp2l_at {st : List zV} {f : Int → Int → List zV → Prop} (q : zp2l st f) : ∃ a b st', st = .inr (.inl b) :: .inr (.inl a) :: st' ∧ f a b st' := by
  obtain ⟨b, st1, rfl, q1⟩ := zpl_at q
  obtain ⟨a, st2, rfl, q⟩ := zpl_at q1
  exact ⟨a, b, st2, rfl, q⟩
theorem zopt_at {α : Type} {o : Option α} {f : α → Prop} (q : zopt o f) : ∃ a, o = some a ∧ f a := by
  cases o with
  | none => exact False.elim q
  | some a => exact ⟨a, rfl, q⟩
theorem zcat1_at {Z : zX} {v : zV} {f : Prop} (q : zcat1 v f) : (zc Z v).category = 1 ∧ f := by
  rcases v with a | a | a
  · exact ⟨rfl, q⟩
  · exact False.elim q
  · exact ⟨rfl, q⟩
theorem zargs_at : ∀ {n : Nat} {as st : List zV} {f : List zV → List zV → Prop}, zargs n as st f → ∃ bs st', bs.length = n ∧ st = bs ++ st' ∧ f (bs.reverse ++ as) st'
  | 0, as, st, f, q => ⟨[], st, rfl, rfl, q⟩
  | n + 1, as, [], f, q => by simp [zargs] at q
  | n + 1, as, v :: st, f, q => by
    simp only [zargs] at q
    obtain ⟨bs, st', h1, h2, h3⟩ := zargs_at q
    exact ⟨v :: bs, st', by simp [h1], by rw [h2]; rfl, by simpa using h3⟩
theorem zIR_to {a : Int} (h : zIR a) : (Int32.ofInt a).toInt = a := Int32.toInt_ofInt_of_le (by have := h.1; omega) (by have := h.2; omega)
theorem zLR_to {a : Int} (h : zLR a) : (Int64.ofInt a).toInt = a := Int64.toInt_ofInt_of_le (by have := h.1; omega) (by have := h.2; omega)
theorem zIR_lt {a b : Int} (ha : zIR a) (hb : zIR b) : Int32.ofInt a < Int32.ofInt b ↔ a < b := by rw [Int32.lt_iff_toInt_lt, zIR_to ha, zIR_to hb]
theorem zIR_le {a b : Int} (ha : zIR a) (hb : zIR b) : Int32.ofInt a ≤ Int32.ofInt b ↔ a ≤ b := by rw [Int32.le_iff_toInt_le, zIR_to ha, zIR_to hb]
theorem zIR_eq {a b : Int} (ha : zIR a) (hb : zIR b) : Int32.ofInt a = Int32.ofInt b ↔ a = b := by rw [← Int32.toInt_inj, zIR_to ha, zIR_to hb]
theorem zIR_0 : zIR 0 := ⟨by decide, by decide⟩
theorem zof0 : Int32.ofInt 0 = 0 := by decide
theorem zin_of {i : Int} {n : Nat} (h0 : 0 ≤ i) (h1 : i < n) (hn : n < 2 ^ 31) : vp_in (Int32.ofInt i) n ∧ (Int32.ofInt i).toNatClampNeg = i.toNat := by
  have ht : (Int32.ofInt i).toInt = i := Int32.toInt_ofInt_of_le (by omega) (by omega)
  refine ⟨vp_in_iff.mpr ⟨by rw [ht]; exact h0, by rw [ht]; exact h1⟩, ?_⟩
  show (Int32.ofInt i).toInt.toNat = i.toNat
  rw [ht]
def zbig : Bool := zSh.all (fun sh => match sh with
  | .inr (.inl (_, n)) => decide (n < 2 ^ 31)
  | .inr (.inr rs) => decide (rs.length < 2 ^ 31)
  | _ => true)
theorem zbig_ok : zbig = true := by decide +kernel
theorem zarr_at {t r n : Nat} (h : zarr t r = some n) : zSh[r]? = some (.inr (.inl (t, n))) ∧ n < 2 ^ 31 := by
  unfold zarr at h
  split at h
  · rename_i t' n' h'
    split at h
    · rename_i ht
      subst ht
      cases h
      refine ⟨h', ?_⟩
      have := List.all_eq_true.mp zbig_ok _ (List.mem_of_getElem? h')
      simpa using this
    · cases h
  · cases h
theorem zrow_at {r : Nat} {rs : List Nat} (h : zrow r = some rs) : zSh[r]? = some (.inr (.inr rs)) ∧ rs.length < 2 ^ 31 := by
  unfold zrow at h
  split at h
  · rename_i rs' h'
    cases h
    refine ⟨h', ?_⟩
    have := List.all_eq_true.mp zbig_ok _ (List.mem_of_getElem? h')
    simpa using this
  · cases h
theorem zft_at {ci r k : Nat} {f : Bool ⊕ Nat} (h : zft ci r k = some f) : ∃ fs, zSh[r]? = some (.inl (ci, fs)) ∧ fs[k]? = some f := by
  unfold zft at h
  split at h
  · rename_i c fs h'
    split at h
    · rename_i hc
      subst hc
      exact ⟨fs, h', h⟩
    · cases h
  · cases h
def zkd (T : u_T) (fs : List (Bool ⊕ Nat)) (k : Nat) : Bool := match fs[k]? with
  | some (.inl b) => !(T k).2.2.2 && decide (parseFieldDescriptor (T k).2.2.1 = some (if b then .long else .int))
  | _ => true
def zkinds : Bool := zSh.all (fun sh => match sh with
  | .inl (ci, fs) => match vwCl[ci]? with
    | some (_, T, N) => decide (fs.length = N) && (List.range N).all (zkd T fs)
    | none => false
  | _ => true)
theorem zkinds_ok : zkinds = true := by decide +kernel
theorem zkinds_at {ci r k : Nat} {fs : List (Bool ⊕ Nat)} {C : String} {T : u_T} {N : Nat} (h : zSh[r]? = some (.inl (ci, fs))) (hc : vwCl[ci]? = some (C, T, N)) : fs.length = N ∧ ∀ b, fs[k]? = some (.inl b) → (T k).2.2.2 = false ∧ parseFieldDescriptor (T k).2.2.1 = some (if b then .long else .int) := by
  have h1 := List.all_eq_true.mp zkinds_ok _ (List.mem_of_getElem? h)
  simp only [hc, Bool.and_eq_true, decide_eq_true_eq] at h1
  refine ⟨h1.1, fun b hb => ?_⟩
  have hk : k < fs.length := (List.getElem?_eq_some_iff.mp hb).1
  have h2 := List.all_eq_true.mp h1.2 k (List.mem_range.mpr (by omega))
  simp only [zkd, hb, Bool.and_eq_true, decide_eq_true_eq] at h2
  exact ⟨by simpa using h2.1, h2.2⟩
def zFieldOk (own : String) (args : Array Value) (s : State) (i ci k : Nat) : Prop := ∃ (C : String) (T : u_T) (N : Nat) (ty0 : Nat → FieldType), vwCl[ci]? = some (C, T, N) ∧ k < N ∧ (∀ w ∈ u_ws C T N, w.before args s = true) ∧ (∀ k, k < N → parseFieldDescriptor (T k).2.2.1 = some (ty0 k)) ∧ (∀ a, a < N → ∀ b, b < N → a ≠ b → (T a).2.1 ≠ (T b).2.1) ∧ (Cond.fieldLink own i (T k).1 (T k).2.1 (T k).2.2.1).before args s = true
def zConstOk (own : String) (args : Array Value) (s : State) (i : Nat) (v : zV) : Prop := match v with
  | .inl a => (Cond.constant own i (Int32.ofInt a)).before args s = true
  | .inr (.inl a) => (Cond.constantLong own i (Int64.ofInt a)).before args s = true
  | _ => False
def zStatOk (Z : zX) (own : String) (args : Array Value) (s : State) (i : Nat) (v : zV) : Prop := ∃ C n d : String, va_Z C n d (zc Z v) (zA Z) s s.heap ∧ ((Cond.fieldLink own i C n d).before args s = true ∨ ∃ host : String, (Cond.fieldLinkNest own i C n d host).before args s = true)
def zExtOk (Z : zX) (s : State) (r : Nat) (q : Nat × Nat × (Int → Int)) : Prop := va_T (if q.1 = 0 then .int else .byte) (zad Z r) q.2.1 (fun j => .int (Int32.ofInt (q.2.2 j))) (zA Z) s s.heap ∧ q.2.1 < 2 ^ 31 ∧ (q.1 = 0 ∨ q.1 = 2)
def zObjOk (Z : zX) (own : String) (args : Array Value) (s : State) (i r : Nat) (v : zV) : Prop := ∃ o n d : String, va_OF o n d (zc Z v) (zad Z r) (zA Z) s s.heap ∧ (Cond.fieldLink own i o n d).before args s = true
def zMach (Z : zX) (F : zF) (own : String) (cc : ByteArray) (p : Program) (s : State) (m : MethodId) (args : Array Value) (c : Code) : Prop :=
  p.tables.exec = Jvm.exec ∧ c.code = cc ∧ s.vm.findClass own = some m.cls ∧ va_K Z.1 vwCl (ztys Z) s ∧ (∀ M, va_D (zA Z) (zw Z M)) ∧ (∀ i ci k, zFf F i = some (ci, k) → zFieldOk own args s i ci k) ∧ (∀ i v, zFc F i = some v → zConstOk own args s i v) ∧ (∀ i v, zFs F i = some v → zStatOk Z own args s i v) ∧ (∀ r q, zFx F r = some q → zExtOk Z s r q) ∧ (∀ i r v, zFo F i r = some v → zObjOk Z own args s i r v)
def zW (Z : zX) (p : Program) (l : Launch) (e : Env) (R : Room) (s : State) (m : MethodId) (args : Array Value) (below : List Frame) (meth : Method) (c : Code) (cells slots : Nat) (Q : State → Prop) (nL : Nat) : zK := fun pc ls st M =>
  ls.length = nL → ∀ (H : Heap) (locs : List Loc) (la : Array Slot), lv_has la nL (zL Z 0 ls) → va_P Z.1 vwCl (zw Z M) H → va_S (zA Z) s.heap H locs → W p l e R s m args below meth c H locs cells slots Q (F0 m pc la (st.map (zc Z)))
theorem zl_at {Z : zX} {nL : Nat} {la : Array Slot} {ls : List (Option zV)} {n : Nat} {v : zV} (hl : lv_has la nL (zL Z 0 ls)) (h : ls[n]? = some (some v)) : la[n]? = some (.val (zc Z v)) := by
  have := hl.2.2 (n, zc Z v) (zL_mem.mpr ⟨n, v, h, by simp⟩)
  exact this
theorem lv_less {la : Array Slot} {nL : Nat} {l1 l2 : List (Nat × Value)} (h : lv_has la nL l1) (hs : ∀ q ∈ l2, q ∈ l1) : lv_has la nL l2 := ⟨h.1, h.2.1, fun q hq => h.2.2 q (hs q hq)⟩
theorem zkeep_at {Z : zX} {x : Option zV} {w : zV} (h : zkeep x = some w) : x = some w ∧ (zc Z w).category = 1 := by
  rcases x with _ | a | a | a
  · cases h
  · cases h; exact ⟨rfl, rfl⟩
  · cases h
  · cases h; exact ⟨rfl, rfl⟩
theorem zst1_len : ∀ (ls : List (Option zV)) (i : Nat) (v : zV), (zst1 ls i v).length = ls.length
  | [], _, _ => by simp [zst1]
  | _ :: ls, 0, v => by simp [zst1]
  | x :: ls, 1, v => by simp [zst1, zst1_len ls 0 v]
  | x :: ls, n + 2, v => by simp [zst1, zst1_len ls (n + 1) v]
theorem zst2_len : ∀ (ls : List (Option zV)) (i : Nat) (v : zV), (zst2 ls i v).length = ls.length
  | [], _, _ => by simp [zst2]
  | [x], _, _ => by simp [zst2]
  | _ :: _ :: ls, 0, v => by simp [zst2]
  | x :: y :: ls, 1, v => by simp [zst2, zst2_len (y :: ls) 0 v]
  | x :: y :: ls, n + 2, v => by simp [zst2, zst2_len (y :: ls) (n + 1) v]
theorem zst1_get (Z : zX) : ∀ (ls : List (Option zV)) (i : Nat) (v : zV) (j : Nat) (w : zV), (zst1 ls i v)[j]? = some (some w) → (j = i ∧ w = v) ∨ (j ≠ i ∧ ls[j]? = some (some w) ∧ (j + 1 = i → (zc Z w).category = 1))
  | [], _, _, _, _, h => by simp [zst1] at h
  | _ :: ls, 0, v, 0, w, h => by simp [zst1] at h; exact Or.inl ⟨rfl, h.symm⟩
  | _ :: ls, 0, v, j + 1, w, h => by simp [zst1] at h; exact Or.inr ⟨by omega, by simpa using h, by omega⟩
  | x :: ls, 1, v, 0, w, h => by
    simp [zst1] at h
    obtain ⟨h1, h2⟩ := zkeep_at (Z := Z) h
    exact Or.inr ⟨by omega, by simp [h1], fun _ => h2⟩
  | x :: ls, 1, v, j + 1, w, h => by
    simp only [zst1, List.getElem?_cons_succ] at h
    rcases zst1_get Z ls 0 v j w h with ⟨h1, h2⟩ | ⟨h1, h2, h3⟩
    · exact Or.inl ⟨by omega, h2⟩
    · exact Or.inr ⟨by omega, by simpa using h2, by omega⟩
  | x :: ls, n + 2, v, 0, w, h => by simp [zst1] at h; exact Or.inr ⟨by omega, by simp [h], by omega⟩
  | x :: ls, n + 2, v, j + 1, w, h => by
    simp only [zst1, List.getElem?_cons_succ] at h
    rcases zst1_get Z ls (n + 1) v j w h with ⟨h1, h2⟩ | ⟨h1, h2, h3⟩
    · exact Or.inl ⟨by omega, h2⟩
    · exact Or.inr ⟨by omega, by simpa using h2, fun h4 => h3 (by omega)⟩
theorem zst2_get (Z : zX) : ∀ (ls : List (Option zV)) (i : Nat) (v : zV) (j : Nat) (w : zV), i + 1 < ls.length → (zst2 ls i v)[j]? = some (some w) → (j = i ∧ w = v) ∨ (j ≠ i ∧ j ≠ i + 1 ∧ ls[j]? = some (some w) ∧ (j + 1 = i → (zc Z w).category = 1))
  | [], _, _, _, _, hn, h => by simp at hn
  | [x], _, _, _, _, hn, h => by simp at hn
  | _ :: _ :: ls, 0, v, 0, w, hn, h => by simp [zst2] at h; exact Or.inl ⟨rfl, h.symm⟩
  | _ :: _ :: ls, 0, v, 1, w, hn, h => by simp [zst2] at h
  | _ :: _ :: ls, 0, v, j + 2, w, hn, h => by simp [zst2] at h; exact Or.inr ⟨by omega, by omega, by simpa using h, by omega⟩
  | x :: y :: ls, 1, v, 0, w, hn, h => by
    simp [zst2] at h
    obtain ⟨h1, h2⟩ := zkeep_at (Z := Z) h
    exact Or.inr ⟨by omega, by omega, by simp [h1], fun _ => h2⟩
  | x :: y :: ls, 1, v, j + 1, w, hn, h => by
    simp only [zst2, List.getElem?_cons_succ] at h
    rcases zst2_get Z (y :: ls) 0 v j w (by simp at hn ⊢; omega) h with ⟨h1, h2⟩ | ⟨h1, h1', h2, h3⟩
    · exact Or.inl ⟨by omega, h2⟩
    · exact Or.inr ⟨by omega, by omega, by simpa using h2, by omega⟩
  | x :: y :: ls, n + 2, v, 0, w, hn, h => by simp [zst2] at h; exact Or.inr ⟨by omega, by omega, by simp [h], by omega⟩
  | x :: y :: ls, n + 2, v, j + 1, w, hn, h => by
    simp only [zst2, List.getElem?_cons_succ] at h
    rcases zst2_get Z (y :: ls) (n + 1) v j w (by simp at hn ⊢; omega) h with ⟨h1, h2⟩ | ⟨h1, h1', h2, h3⟩
    · exact Or.inl ⟨by omega, h2⟩
    · exact Or.inr ⟨by omega, by omega, by simpa using h2, fun h4 => h3 (by omega)⟩
theorem zst1_has {Z : zX} {la : Array Slot} {nL i : Nat} {ls : List (Option zV)} {v : zV} (h : lv_has la nL ((i, zc Z v) :: (zL Z 0 ls).filter (fun q => !(q.1 == i) && !(q.1 + 1 == i && q.2.category == 2)))) : lv_has la nL (zL Z 0 (zst1 ls i v)) := by
  refine lv_less h (fun q hq => ?_)
  obtain ⟨j, w, h1, h2⟩ := zL_mem.mp hq
  rcases zst1_get Z ls i v j w h1 with ⟨h3, h4⟩ | ⟨h3, h4, h5⟩
  · exact List.mem_cons.mpr (Or.inl (by rw [h2, h3, h4]; simp))
  · refine List.mem_cons.mpr (Or.inr (List.mem_filter.mpr ⟨zL_mem.mpr ⟨j, w, h4, h2⟩, ?_⟩))
    subst h2
    by_cases h6 : j + 1 = i
    · simp [h3, h5 h6]
    · simp [h3, h6]
theorem zst2_has {Z : zX} {la : Array Slot} {nL i : Nat} {ls : List (Option zV)} {v : zV} (hn : i + 1 < ls.length) (h : lv_has la nL ((i, zc Z v) :: (zL Z 0 ls).filter (fun q => !(q.1 == i) && (!(q.1 == i + 1) && !(q.1 + 1 == i && q.2.category == 2))))) : lv_has la nL (zL Z 0 (zst2 ls i v)) := by
  refine lv_less h (fun q hq => ?_)
  obtain ⟨j, w, h1, h2⟩ := zL_mem.mp hq
  rcases zst2_get Z ls i v j w hn h1 with ⟨h3, h4⟩ | ⟨h3, h3', h4, h5⟩
  · exact List.mem_cons.mpr (Or.inl (by rw [h2, h3, h4]; simp))
  · refine List.mem_cons.mpr (Or.inr (List.mem_filter.mpr ⟨zL_mem.mpr ⟨j, w, h4, h2⟩, ?_⟩))
    subst h2
    by_cases h6 : j + 1 = i
    · simp [h3, h3', h5 h6]
    · simp [h3, h3', h6]
