def zas {α : Type} : List (Nat × α) → Nat → Option α
  | [], _ => none
  | (k, v) :: l, i => if i = k then some v else zas l i
theorem zas_all {α : Type} {P : Nat → α → Prop} : ∀ {l : List (Nat × α)}, (∀ q ∈ l, P q.1 q.2) → ∀ i v, zas l i = some v → P i v
  | [], _, _, _, h => by simp [zas] at h
  | (k, w) :: l, hl, i, v, h => by
    unfold zas at h
    split at h
    · rename_i hik
      cases h
      exact hik ▸ hl (k, w) List.mem_cons_self
    · exact zas_all (fun q hq => hl q (List.mem_cons_of_mem _ hq)) i v h
theorem zno {α : Type} {P : α → Prop} : ∀ q ∈ ([] : List α), P q := fun _ h => absurd h List.not_mem_nil
theorem zqm {w : Cond} (i : Nat) (h : lw_tbl[i]? = some w) (hg : goodWord w = true) : w ∈ zTw := zTw_in (List.mem_of_getElem? h) hg
def zv (ci : Nat) (T : zT) : zT := fun as M post => zrcv ci as ∧ T as M post
theorem zcell_same {Z : zX} {M M' : zM} {k : Nat} {sh : zH} (h : ∀ i, M' k i = M k i) : zcell Z M' k sh = zcell Z M k sh := by
  rcases sh with ⟨ci, fs⟩ | ⟨t, n⟩ | rs
  · simp only [zcell]
    congr 3
    funext j f
    rcases f with b | r
    · cases b <;> simp [zfv, h]
    · rfl
  · match t with
    | 0 => simp only [zcell, h]
    | 1 => simp only [zcell, h]
    | (t + 2) => simp only [zcell, h]
  · rfl
theorem zw_setG {Z : zX} {M M' : zM} {k : Nat} {sh : zH} {E : va_E} (h : zSh[k]? = some sh) (hM : ∀ j, j ≠ k → ∀ i, M' j i = M j i) (hE : E = zcell Z M' k sh) : (zw Z M).set k (zad Z k, E) = zw Z M' := by
  apply List.ext_getElem?
  intro j
  by_cases hj : k = j
  · subst hj
    rw [zw_get h, List.getElem?_set_self (by have := (List.getElem?_eq_some_iff.mp (zw_get (Z := Z) (M := M) h)).1; exact this), hE]
  · rw [List.getElem?_set_ne hj]
    unfold zw
    rw [List.getElem?_mapIdx, List.getElem?_mapIdx]
    cases zSh[j]? with
    | none => rfl
    | some x => simp only [Option.map_some, zcell_same (hM j (fun q => hj q.symm))]
def zcpy (M : zM) (a : Nat) (sp : Int) (b : Nat) (dp n : Int) : zM := fun k i => if k = b ∧ dp ≤ i ∧ i < dp + n then M a (sp + (i - dp)) else M k i
def zcopyT : zT := fun as M post => match as with
  | [.inr (.inr a), .inl sp, .inr (.inr b), .inl dp, .inl n] => ∃ na nb : Nat, zarr 0 a = some na ∧ zarr 0 b = some nb ∧ (0 ≤ sp ∧ 0 ≤ dp ∧ 0 ≤ n ∧ sp + n ≤ na ∧ dp + n ≤ nb) ∧ post none (zcpy M a sp b dp n)
  | _ => False
theorem zcallC {p : Program} {l : Launch} {e : Env} {R : Room} {s : State} {m : MethodId} {args : Array Value} {below : List Frame} {meth : Method} {c : Code} {cells slots : Nat} {Q : State → Prop} {Z : zX} {cc : ByteArray} {own : String} {nL i : Nat} {y0 : MethodName} {ret0 : Option FieldType} (S : CallFix p m c cc nL s args (zws y0 cc nL ret0) own) (hKn : zKn Z s s.heap)
    (w1 : .methodLink own i arraycopyName ∈ zTw) (w2 : .native arraycopyName ∈ zTw) (w3 : .static arraycopyName ∈ zTw) (w4 : .initialized "java/lang/System" ∈ zTw) (hf : 1 ≤ R.frames) (hlo : 8 + (nativeFrameWords "java/lang/System" "arraycopy" 5 + 11) ≤ R.locals) :
    zCallOk Z p l e R s m args below meth c cells slots Q nL cc i (true, 5, false, zcopyT) := by
  intro pc ls as st M post d hlen hst hT kk hn H locs la hl hP hS
  have ht : ∀ w ∈ zTw, w.before args s = true := fun w h => S.2.2.2.2 w (List.mem_cons_of_mem _ h)
  unfold zcopyT at hT
  simp only at hT
  split at hT
  · rename_i a sp b dp n
    obtain ⟨na, nb, h1, h2, ⟨h3, h4, h5, h6, h7⟩, hp⟩ := hT
    obtain ⟨g1, g2⟩ := zarr_at h1
    obtain ⟨g3, g4⟩ := zarr_at h2
    have e1 := zw_get (Z := Z) (M := M) g1
    have e2 := zw_get (Z := Z) (M := M) g3
    simp only [zcell] at e1 e2
    have tI : ∀ z : Int, 0 ≤ z → z < 2 ^ 31 → ¬ Int32.ofInt z < 0 ∧ (Int32.ofInt z).toNatClampNeg = z.toNat := by
      intro z z0 z1
      have ht : (Int32.ofInt z).toInt = z := Int32.toInt_ofInt_of_le (by omega) (by omega)
      refine ⟨fun h => ?_, ?_⟩
      · rw [Int32.lt_iff_toInt_lt, ht] at h
        simp at h
        omega
      · show (Int32.ofInt z).toInt.toNat = z.toNat
        rw [ht]
    obtain ⟨s1, s2⟩ := tI sp h3 (by omega)
    obtain ⟨d1, d2⟩ := tI dp h4 (by omega)
    obtain ⟨n1, n2⟩ := tI n h5 (by omega)
    have hsum := zcat_sum Z st
    refine va_copyi (rest := st.map (zc Z)) S.1 S.2.1 (S.2.2.1.trans hl.1.symm) S.2.2.2.1 (ht _ w1) (ht _ w2) (ht _ w3) (ht _ w4) hKn.1 hP (hKn.2.1 M) hS a b 0 0 e1 e2 rfl rfl rfl s1 d1 n1 (by rw [s2, n2]; omega) (by rw [d2, n2]; omega) (fun _ _ => rfl) hf (by omega) d (fun H1 locs1 hP1 hD1 hS1 => ?_)
    rw [s2, d2, n2] at hP1
    have e3 := zw_setG (Z := Z) (M := M) (M' := zcpy M a sp b dp n) (E := .inl (Z.2.2.2 0, nb, .inl (va_cpy (fun j : Nat => Int32.ofInt (M a j)) (fun j : Nat => Int32.ofInt (M b j)) sp.toNat dp.toNat n.toNat))) g3 (fun j hj i => by simp [zcpy, hj]) (by
      simp only [zcell]
      have : va_cpy (fun j : Nat => Int32.ofInt (M a j)) (fun j : Nat => Int32.ofInt (M b j)) sp.toNat dp.toNat n.toNat = fun j : Nat => Int32.ofInt (zcpy M a sp b dp n b j) := by
        funext j
        simp only [va_cpy, zcpy, true_and]
        by_cases hj : dp.toNat ≤ j ∧ j < dp.toNat + n.toNat
        · rw [if_pos hj, if_pos (by omega)]
          rw [show ((sp.toNat + (j - dp.toNat) : Nat) : Int) = sp + ((j : Int) - dp) by omega]
        · rw [if_neg hj, if_neg (by omega)]
      rw [this])
    rw [e3] at hP1
    exact zans_go (kk none _ hp) hn H1 locs1 la hl hP1 hS1
  · exact False.elim hT
def zmaxT : zT := fun as M post => match as with
  | [.inl a, .inl b] => (zIR a ∧ zIR b) ∧ post (some (.inl (if a < b then b else a))) M
  | _ => False
def zminT : zT := fun as M post => match as with
  | [.inl a, .inl b] => (zIR a ∧ zIR b) ∧ post (some (.inl (if b < a then b else a))) M
  | _ => False
def zabsT : zT := fun as M post => match as with
  | [.inl a] => zIR a ∧ post (some (.inl (if 0 ≤ a then a else 0 - a))) M
  | _ => False
section ZMath
variable {p : Program} {l : Launch} {e : Env} {R : Room} {s : State} {m : MethodId} {args : Array Value} {below : List Frame} {meth : Method} {c : Code} {cells slots : Nat} {Q : State → Prop} {Z : zX} {cc : ByteArray} {own : String} {nL i : Nat} {y0 : MethodName} {ret0 : Option FieldType}
theorem zcallMax (S : CallFix p m c cc nL s args (zws y0 cc nL ret0) own)
    (w1 : .methodLink own i Lib.Math.max.name ∈ zTw) (w2 : .static Lib.Math.max.name ∈ zTw) (w3 : .initialized "java/lang/Math" ∈ zTw) (w4 : .code Lib.Math.max.name Lib.Math.max.code 2 (some .int) ∈ zTw) (hf : 1 ≤ R.frames) (hlo : 21 ≤ R.locals) (hc : cells ≤ R.cells) (hs : slots ≤ R.slots) :
    zCallOk Z p l e R s m args below meth c cells slots Q nL cc i (true, 2, true, zmaxT) := by
  intro pc ls as st M post d hlen hst hT kk hn H locs la hl hP hS
  have ht : ∀ w ∈ zTw, w.before args s = true := fun w h => S.2.2.2.2 w (List.mem_cons_of_mem _ h)
  unfold zmaxT at hT
  simp only at hT
  split at hT
  · rename_i a b
    obtain ⟨⟨h1, h2⟩, hp⟩ := hT
    have hsum := zcat_sum Z st
    refine va_mmax (rest := st.map (zc Z)) (x := Int32.ofInt a) (y := Int32.ofInt b) S.1 S.2.1 (S.2.2.1.trans hl.1.symm) S.2.2.2.1 (ht _ w1) (ht _ w2) (ht _ w3) (ht _ w4) hf (by omega) hc hs d ?_
    have := zans_go (kk _ _ hp) hn H locs la hl hP hS
    have e : (if Int32.ofInt a < Int32.ofInt b then Int32.ofInt b else Int32.ofInt a) = Int32.ofInt (if a < b then b else a) := by
      simp only [zIR_lt h1 h2]
      split <;> rfl
    rw [e]
    exact this
  · exact False.elim hT
theorem zcallMin (S : CallFix p m c cc nL s args (zws y0 cc nL ret0) own)
    (w1 : .methodLink own i Lib.Math.min.name ∈ zTw) (w2 : .static Lib.Math.min.name ∈ zTw) (w3 : .initialized "java/lang/Math" ∈ zTw) (w4 : .code Lib.Math.min.name Lib.Math.min.code 2 (some .int) ∈ zTw) (hf : 1 ≤ R.frames) (hlo : 21 ≤ R.locals) (hc : cells ≤ R.cells) (hs : slots ≤ R.slots) :
    zCallOk Z p l e R s m args below meth c cells slots Q nL cc i (true, 2, true, zminT) := by
  intro pc ls as st M post d hlen hst hT kk hn H locs la hl hP hS
  have ht : ∀ w ∈ zTw, w.before args s = true := fun w h => S.2.2.2.2 w (List.mem_cons_of_mem _ h)
  unfold zminT at hT
  simp only at hT
  split at hT
  · rename_i a b
    obtain ⟨⟨h1, h2⟩, hp⟩ := hT
    have hsum := zcat_sum Z st
    refine va_mmin (rest := st.map (zc Z)) (x := Int32.ofInt a) (y := Int32.ofInt b) S.1 S.2.1 (S.2.2.1.trans hl.1.symm) S.2.2.2.1 (ht _ w1) (ht _ w2) (ht _ w3) (ht _ w4) hf (by omega) hc hs d ?_
    have := zans_go (kk _ _ hp) hn H locs la hl hP hS
    have e : (if Int32.ofInt b < Int32.ofInt a then Int32.ofInt b else Int32.ofInt a) = Int32.ofInt (if b < a then b else a) := by
      simp only [zIR_lt h2 h1]
      split <;> rfl
    rw [e]
    exact this
  · exact False.elim hT
theorem zcallAbs (S : CallFix p m c cc nL s args (zws y0 cc nL ret0) own)
    (w1 : .methodLink own i Lib.Math.abs.name ∈ zTw) (w2 : .static Lib.Math.abs.name ∈ zTw) (w3 : .initialized "java/lang/Math" ∈ zTw) (w4 : .code Lib.Math.abs.name Lib.Math.abs.code 1 (some .int) ∈ zTw) (hf : 1 ≤ R.frames) (hlo : 21 ≤ R.locals) (hc : cells ≤ R.cells) (hs : slots ≤ R.slots) :
    zCallOk Z p l e R s m args below meth c cells slots Q nL cc i (true, 1, true, zabsT) := by
  intro pc ls as st M post d hlen hst hT kk hn H locs la hl hP hS
  have ht : ∀ w ∈ zTw, w.before args s = true := fun w h => S.2.2.2.2 w (List.mem_cons_of_mem _ h)
  unfold zabsT at hT
  simp only at hT
  split at hT
  · rename_i a
    obtain ⟨h1, hp⟩ := hT
    have hsum := zcat_sum Z st
    refine va_mabs (rest := st.map (zc Z)) (x := Int32.ofInt a) S.1 S.2.1 (S.2.2.1.trans hl.1.symm) S.2.2.2.1 (ht _ w1) (ht _ w2) (ht _ w3) (ht _ w4) hf (by omega) hc hs d ?_
    have := zans_go (kk _ _ hp) hn H locs la hl hP hS
    have e : (if 0 ≤ Int32.ofInt a then Int32.ofInt a else 0 - Int32.ofInt a) = Int32.ofInt (if 0 ≤ a then a else 0 - a) := by
      rw [← zof0]
      simp only [zIR_le zIR_0 h1]
      split
      · rfl
      · rw [Int32.ofInt_sub]
    rw [e]
    exact this
  · exact False.elim hT
end ZMath
theorem zuX0 : ∀ w ∈ u_ws RX0 TX0 2, w ∈ zTw := by
  have h : ∀ w ∈ u_ws RX0 TX0 2, w ∈ lw_tbl ∧ goodWord w = true := by decide +kernel
  exact fun w hw => zTw_in (h w hw).1 (h w hw).2
theorem zuX1 : ∀ w ∈ u_ws RX1 TX1 3, w ∈ zTw := by
  have h : ∀ w ∈ u_ws RX1 TX1 3, w ∈ lw_tbl ∧ goodWord w = true := by decide +kernel
  exact fun w hw => zTw_in (h w hw).1 (h w hw).2
theorem zuX2 : ∀ w ∈ u_ws RX2 TX2 3, w ∈ zTw := by
  have h : ∀ w ∈ u_ws RX2 TX2 3, w ∈ lw_tbl ∧ goodWord w = true := by decide +kernel
  exact fun w hw => zTw_in (h w hw).1 (h w hw).2
theorem zuX3 : ∀ w ∈ u_ws RX3 TX3 6, w ∈ zTw := by
  have h : ∀ w ∈ u_ws RX3 TX3 6, w ∈ lw_tbl ∧ goodWord w = true := by decide +kernel
  exact fun w hw => zTw_in (h w hw).1 (h w hw).2
theorem zuX4 : ∀ w ∈ u_ws RX4 TX4 5, w ∈ zTw := by
  have h : ∀ w ∈ u_ws RX4 TX4 5, w ∈ lw_tbl ∧ goodWord w = true := by decide +kernel
  exact fun w hw => zTw_in (h w hw).1 (h w hw).2
theorem zuX5 : ∀ w ∈ u_ws RX5 TX5 6, w ∈ zTw := by
  have h : ∀ w ∈ u_ws RX5 TX5 6, w ∈ lw_tbl ∧ goodWord w = true := by decide +kernel
  exact fun w hw => zTw_in (h w hw).1 (h w hw).2
theorem zuX6 : ∀ w ∈ u_ws RX6 TX6 5, w ∈ zTw := by
  have h : ∀ w ∈ u_ws RX6 TX6 5, w ∈ lw_tbl ∧ goodWord w = true := by decide +kernel
  exact fun w hw => zTw_in (h w hw).1 (h w hw).2
theorem zuX7 : ∀ w ∈ u_ws RX7 TX7 16, w ∈ zTw := by
  have h : ∀ w ∈ u_ws RX7 TX7 16, w ∈ lw_tbl ∧ goodWord w = true := by decide +kernel
  exact fun w hw => zTw_in (h w hw).1 (h w hw).2
theorem zuX8 : ∀ w ∈ u_ws RX8 TX8 40, w ∈ zTw := by
  have h : ∀ w ∈ u_ws RX8 TX8 40, w ∈ lw_tbl ∧ goodWord w = true := by decide +kernel
  exact fun w hw => zTw_in (h w hw).1 (h w hw).2
def fJ0 : zF := (zas [], zas [], zas [(38, .inl 1)], zas [(110, (2, 3, zk110)), (111, (2, 2, zk111))], fun i r => match zas ([(9, [(100, .inr (.inr 110)), (101, .inr (.inr 111))]), (15, [(100, .inl 0), (101, .inl 0)])] : List (Nat × List (Nat × zV))) i with | some l => zas l r | none => none)
set_option maxRecDepth 20000 in
theorem tabfJ0 (Z : zX) (args : Array Value) (s : State) (hts : ∀ w ∈ zTw, w.before args s = true) (hE : zE Z s s.heap) : zTab Z fJ0 RJ0 args s :=
  ⟨fun i ci k h => (zas_all (P := fun i (q : Nat × Nat) => zFieldOk RJ0 args s i q.1 q.2) (l := []) (zno) i (ci, k) h), zas_all (P := fun i v => zConstOk RJ0 args s i v) (l := []) (zno), zas_all (P := fun i v => zStatOk Z RJ0 args s i v) (l := [(38, .inl 1)]) (List.forall_mem_cons.mpr ⟨⟨_, _, _, hE.2.2.2.2.2.2.1, Or.inl (hts _ (zqm 362 (by decide +kernel) (by decide +kernel)))⟩, zno⟩), zas_all (P := fun r q => zExtOk Z s r q) (l := [(110, (2, 3, zk110)), (111, (2, 2, zk111))]) (List.forall_mem_cons.mpr ⟨⟨hE.2.2.2.2.2.2.2.2.2.2.2.2.2.1, Nat.lt_of_lt_of_le (by decide : 3 < 100) (by decide), by decide⟩, List.forall_mem_cons.mpr ⟨⟨hE.2.2.2.2.2.2.2.2.2.2.2.2.2.2.1, Nat.lt_of_lt_of_le (by decide : 2 < 100) (by decide), by decide⟩, zno⟩⟩), by
    intro i r v h
    have hh : ∀ l, zas ([(9, [(100, .inr (.inr 110)), (101, .inr (.inr 111))]), (15, [(100, .inl 0), (101, .inl 0)])] : List (Nat × List (Nat × zV))) i = some l → ∀ r v, zas l r = some v → zObjOk Z RJ0 args s i r v := zas_all (P := fun i (l : List (Nat × zV)) => ∀ r v, zas l r = some v → zObjOk Z RJ0 args s i r v) (l := [(9, [(100, .inr (.inr 110)), (101, .inr (.inr 111))]), (15, [(100, .inl 0), (101, .inl 0)])]) (List.forall_mem_cons.mpr ⟨(zas_all (P := fun r v => zObjOk Z RJ0 args s 9 r v) (l := [(100, .inr (.inr 110)), (101, .inr (.inr 111))]) (List.forall_mem_cons.mpr ⟨⟨_, _, _, hE.2.2.2.2.2.2.2.2.2.2.2.1, hts _ (zqm 1367 (by decide +kernel) (by decide +kernel))⟩, List.forall_mem_cons.mpr ⟨⟨_, _, _, hE.2.2.2.2.2.2.2.2.2.2.2.2.1, hts _ (zqm 1367 (by decide +kernel) (by decide +kernel))⟩, zno⟩⟩)), List.forall_mem_cons.mpr ⟨(zas_all (P := fun r v => zObjOk Z RJ0 args s 15 r v) (l := [(100, .inl 0), (101, .inl 0)]) (List.forall_mem_cons.mpr ⟨⟨_, _, _, hE.2.2.2.2.2.2.2.2.2.1, hts _ (zqm 1366 (by decide +kernel) (by decide +kernel))⟩, List.forall_mem_cons.mpr ⟨⟨_, _, _, hE.2.2.2.2.2.2.2.2.2.2.1, hts _ (zqm 1366 (by decide +kernel) (by decide +kernel))⟩, zno⟩⟩)), zno⟩⟩) i
    unfold zFo fJ0 at h
    simp only at h
    split at h
    · rename_i l hl
      exact hh l hl r v h
    · cases h⟩
def fJ1 : zF := (zas [], zas [], zas [], zas [(110, (2, 3, zk110)), (111, (2, 2, zk111))], fun i r => match zas ([] : List (Nat × List (Nat × zV))) i with | some l => zas l r | none => none)
set_option maxRecDepth 20000 in
theorem tabfJ1 (Z : zX) (args : Array Value) (s : State) (hts : ∀ w ∈ zTw, w.before args s = true) (hE : zE Z s s.heap) : zTab Z fJ1 RJ1 args s :=
  ⟨fun i ci k h => (zas_all (P := fun i (q : Nat × Nat) => zFieldOk RJ1 args s i q.1 q.2) (l := []) (zno) i (ci, k) h), zas_all (P := fun i v => zConstOk RJ1 args s i v) (l := []) (zno), zas_all (P := fun i v => zStatOk Z RJ1 args s i v) (l := []) (zno), zas_all (P := fun r q => zExtOk Z s r q) (l := [(110, (2, 3, zk110)), (111, (2, 2, zk111))]) (List.forall_mem_cons.mpr ⟨⟨hE.2.2.2.2.2.2.2.2.2.2.2.2.2.1, Nat.lt_of_lt_of_le (by decide : 3 < 100) (by decide), by decide⟩, List.forall_mem_cons.mpr ⟨⟨hE.2.2.2.2.2.2.2.2.2.2.2.2.2.2.1, Nat.lt_of_lt_of_le (by decide : 2 < 100) (by decide), by decide⟩, zno⟩⟩), fun i r v h => by simp [zFo, fJ1, zas] at h⟩
def fJ6 : zF := (zas [], zas [(265, .inl (1431655765)), (266, .inl (858993459)), (267, .inl (252645135))], zas [], zas [], fun i r => match zas ([] : List (Nat × List (Nat × zV))) i with | some l => zas l r | none => none)
set_option maxRecDepth 20000 in
theorem tabfJ6 (Z : zX) (args : Array Value) (s : State) (hts : ∀ w ∈ zTw, w.before args s = true) (hE : zE Z s s.heap) : zTab Z fJ6 RJ6 args s :=
  ⟨fun i ci k h => (zas_all (P := fun i (q : Nat × Nat) => zFieldOk RJ6 args s i q.1 q.2) (l := []) (zno) i (ci, k) h), zas_all (P := fun i v => zConstOk RJ6 args s i v) (l := [(265, .inl (1431655765)), (266, .inl (858993459)), (267, .inl (252645135))]) (List.forall_mem_cons.mpr ⟨hts _ (zqm 550 (by decide +kernel) (by decide +kernel)), List.forall_mem_cons.mpr ⟨hts _ (zqm 551 (by decide +kernel) (by decide +kernel)), List.forall_mem_cons.mpr ⟨hts _ (zqm 552 (by decide +kernel) (by decide +kernel)), zno⟩⟩⟩), zas_all (P := fun i v => zStatOk Z RJ6 args s i v) (l := []) (zno), zas_all (P := fun r q => zExtOk Z s r q) (l := []) (zno), fun i r v h => by simp [zFo, fJ6, zas] at h⟩
def fJ7 : zF := (zas [], zas [], zas [], zas [], fun i r => match zas ([] : List (Nat × List (Nat × zV))) i with | some l => zas l r | none => none)
set_option maxRecDepth 20000 in
theorem tabfJ7 (Z : zX) (args : Array Value) (s : State) (hts : ∀ w ∈ zTw, w.before args s = true) (hE : zE Z s s.heap) : zTab Z fJ7 RJ7 args s :=
  ⟨fun i ci k h => (zas_all (P := fun i (q : Nat × Nat) => zFieldOk RJ7 args s i q.1 q.2) (l := []) (zno) i (ci, k) h), zas_all (P := fun i v => zConstOk RJ7 args s i v) (l := []) (zno), zas_all (P := fun i v => zStatOk Z RJ7 args s i v) (l := []) (zno), zas_all (P := fun r q => zExtOk Z s r q) (l := []) (zno), fun i r v h => by simp [zFo, fJ7, zas] at h⟩
def fX0 : zF := (zas [(7, (0, 0)), (13, (0, 1))], zas [], zas [], zas [], fun i r => match zas ([] : List (Nat × List (Nat × zV))) i with | some l => zas l r | none => none)
set_option maxRecDepth 20000 in
theorem tabfX0 (Z : zX) (args : Array Value) (s : State) (hts : ∀ w ∈ zTw, w.before args s = true) (hE : zE Z s s.heap) : zTab Z fX0 RX0 args s :=
  ⟨fun i ci k h => (zas_all (P := fun i (q : Nat × Nat) => zFieldOk RX0 args s i q.1 q.2) (l := [(7, (0, 0)), (13, (0, 1))]) (List.forall_mem_cons.mpr ⟨⟨RX0, TX0, 2, tyX0, rfl, by decide, fun w h => hts w (zuX0 w h), tyX0_ok, nmX0, hts _ (zqm 248 (by decide +kernel) (by decide +kernel))⟩, List.forall_mem_cons.mpr ⟨⟨RX0, TX0, 2, tyX0, rfl, by decide, fun w h => hts w (zuX0 w h), tyX0_ok, nmX0, hts _ (zqm 249 (by decide +kernel) (by decide +kernel))⟩, zno⟩⟩) i (ci, k) h), zas_all (P := fun i v => zConstOk RX0 args s i v) (l := []) (zno), zas_all (P := fun i v => zStatOk Z RX0 args s i v) (l := []) (zno), zas_all (P := fun r q => zExtOk Z s r q) (l := []) (zno), fun i r v h => by simp [zFo, fX0, zas] at h⟩
def fX1 : zF := (zas [(9, (1, 0)), (15, (1, 1)), (19, (1, 2))], zas [], zas [], zas [], fun i r => match zas ([] : List (Nat × List (Nat × zV))) i with | some l => zas l r | none => none)
set_option maxRecDepth 20000 in
theorem tabfX1 (Z : zX) (args : Array Value) (s : State) (hts : ∀ w ∈ zTw, w.before args s = true) (hE : zE Z s s.heap) : zTab Z fX1 RX1 args s :=
  ⟨fun i ci k h => (zas_all (P := fun i (q : Nat × Nat) => zFieldOk RX1 args s i q.1 q.2) (l := [(9, (1, 0)), (15, (1, 1)), (19, (1, 2))]) (List.forall_mem_cons.mpr ⟨⟨RX1, TX1, 3, tyX1, rfl, by decide, fun w h => hts w (zuX1 w h), tyX1_ok, nmX1, hts _ (zqm 260 (by decide +kernel) (by decide +kernel))⟩, List.forall_mem_cons.mpr ⟨⟨RX1, TX1, 3, tyX1, rfl, by decide, fun w h => hts w (zuX1 w h), tyX1_ok, nmX1, hts _ (zqm 262 (by decide +kernel) (by decide +kernel))⟩, List.forall_mem_cons.mpr ⟨⟨RX1, TX1, 3, tyX1, rfl, by decide, fun w h => hts w (zuX1 w h), tyX1_ok, nmX1, hts _ (zqm 264 (by decide +kernel) (by decide +kernel))⟩, zno⟩⟩⟩) i (ci, k) h), zas_all (P := fun i v => zConstOk RX1 args s i v) (l := []) (zno), zas_all (P := fun i v => zStatOk Z RX1 args s i v) (l := []) (zno), zas_all (P := fun r q => zExtOk Z s r q) (l := []) (zno), fun i r v h => by simp [zFo, fX1, zas] at h⟩
def fX2 : zF := (zas [(9, (2, 0)), (15, (2, 1)), (18, (2, 2))], zas [], zas [], zas [], fun i r => match zas ([] : List (Nat × List (Nat × zV))) i with | some l => zas l r | none => none)
set_option maxRecDepth 20000 in
theorem tabfX2 (Z : zX) (args : Array Value) (s : State) (hts : ∀ w ∈ zTw, w.before args s = true) (hE : zE Z s s.heap) : zTab Z fX2 RX2 args s :=
  ⟨fun i ci k h => (zas_all (P := fun i (q : Nat × Nat) => zFieldOk RX2 args s i q.1 q.2) (l := [(9, (2, 0)), (15, (2, 1)), (18, (2, 2))]) (List.forall_mem_cons.mpr ⟨⟨RX2, TX2, 3, tyX2, rfl, by decide, fun w h => hts w (zuX2 w h), tyX2_ok, nmX2, hts _ (zqm 232 (by decide +kernel) (by decide +kernel))⟩, List.forall_mem_cons.mpr ⟨⟨RX2, TX2, 3, tyX2, rfl, by decide, fun w h => hts w (zuX2 w h), tyX2_ok, nmX2, hts _ (zqm 233 (by decide +kernel) (by decide +kernel))⟩, List.forall_mem_cons.mpr ⟨⟨RX2, TX2, 3, tyX2, rfl, by decide, fun w h => hts w (zuX2 w h), tyX2_ok, nmX2, hts _ (zqm 234 (by decide +kernel) (by decide +kernel))⟩, zno⟩⟩⟩) i (ci, k) h), zas_all (P := fun i v => zConstOk RX2 args s i v) (l := []) (zno), zas_all (P := fun i v => zStatOk Z RX2 args s i v) (l := []) (zno), zas_all (P := fun r q => zExtOk Z s r q) (l := []) (zno), fun i r v h => by simp [zFo, fX2, zas] at h⟩
def fX3 : zF := (zas [(9, (3, 0)), (15, (3, 1)), (18, (3, 2)), (21, (3, 3)), (25, (3, 4)), (28, (3, 5)), (31, (5, 2)), (50, (5, 5))], zas [], zas [(44, .inr (.inr 102)), (47, .inr (.inr 103))], zas [(102, (0, 3, zk102)), (103, (0, 3, zk103))], fun i r => match zas ([] : List (Nat × List (Nat × zV))) i with | some l => zas l r | none => none)
set_option maxRecDepth 20000 in
theorem tabfX3 (Z : zX) (args : Array Value) (s : State) (hts : ∀ w ∈ zTw, w.before args s = true) (hE : zE Z s s.heap) : zTab Z fX3 RX3 args s :=
  ⟨fun i ci k h => (zas_all (P := fun i (q : Nat × Nat) => zFieldOk RX3 args s i q.1 q.2) (l := [(9, (3, 0)), (15, (3, 1)), (18, (3, 2)), (21, (3, 3)), (25, (3, 4)), (28, (3, 5)), (31, (5, 2)), (50, (5, 5))]) (List.forall_mem_cons.mpr ⟨⟨RX3, TX3, 6, tyX3, rfl, by decide, fun w h => hts w (zuX3 w h), tyX3_ok, nmX3, hts _ (zqm 202 (by decide +kernel) (by decide +kernel))⟩, List.forall_mem_cons.mpr ⟨⟨RX3, TX3, 6, tyX3, rfl, by decide, fun w h => hts w (zuX3 w h), tyX3_ok, nmX3, hts _ (zqm 204 (by decide +kernel) (by decide +kernel))⟩, List.forall_mem_cons.mpr ⟨⟨RX3, TX3, 6, tyX3, rfl, by decide, fun w h => hts w (zuX3 w h), tyX3_ok, nmX3, hts _ (zqm 206 (by decide +kernel) (by decide +kernel))⟩, List.forall_mem_cons.mpr ⟨⟨RX3, TX3, 6, tyX3, rfl, by decide, fun w h => hts w (zuX3 w h), tyX3_ok, nmX3, hts _ (zqm 208 (by decide +kernel) (by decide +kernel))⟩, List.forall_mem_cons.mpr ⟨⟨RX3, TX3, 6, tyX3, rfl, by decide, fun w h => hts w (zuX3 w h), tyX3_ok, nmX3, hts _ (zqm 210 (by decide +kernel) (by decide +kernel))⟩, List.forall_mem_cons.mpr ⟨⟨RX3, TX3, 6, tyX3, rfl, by decide, fun w h => hts w (zuX3 w h), tyX3_ok, nmX3, hts _ (zqm 211 (by decide +kernel) (by decide +kernel))⟩, List.forall_mem_cons.mpr ⟨⟨RX5, TX5, 6, tyX5, rfl, by decide, fun w h => hts w (zuX5 w h), tyX5_ok, nmX5, hts _ (zqm 119 (by decide +kernel) (by decide +kernel))⟩, List.forall_mem_cons.mpr ⟨⟨RX5, TX5, 6, tyX5, rfl, by decide, fun w h => hts w (zuX5 w h), tyX5_ok, nmX5, hts _ (zqm 127 (by decide +kernel) (by decide +kernel))⟩, zno⟩⟩⟩⟩⟩⟩⟩⟩) i (ci, k) h), zas_all (P := fun i v => zConstOk RX3 args s i v) (l := []) (zno), zas_all (P := fun i v => zStatOk Z RX3 args s i v) (l := [(44, .inr (.inr 102)), (47, .inr (.inr 103))]) (List.forall_mem_cons.mpr ⟨⟨_, _, _, hE.1, Or.inr ⟨_, va_Nw.use rfl hE.2.2.2.2.2.2.2.2.2.2.2.2.2.2.2.1⟩⟩, List.forall_mem_cons.mpr ⟨⟨_, _, _, hE.2.1, Or.inr ⟨_, va_Nw.use rfl hE.2.2.2.2.2.2.2.2.2.2.2.2.2.2.2.2⟩⟩, zno⟩⟩), zas_all (P := fun r q => zExtOk Z s r q) (l := [(102, (0, 3, zk102)), (103, (0, 3, zk103))]) (List.forall_mem_cons.mpr ⟨⟨hE.2.2.2.1, Nat.lt_of_lt_of_le (by decide : 3 < 100) (by decide), by decide⟩, List.forall_mem_cons.mpr ⟨⟨hE.2.2.2.2.1, Nat.lt_of_lt_of_le (by decide : 3 < 100) (by decide), by decide⟩, zno⟩⟩), fun i r v h => by simp [zFo, fX3, zas] at h⟩
def fX4 : zF := (zas [(9, (4, 0)), (15, (4, 1)), (18, (4, 2)), (21, (4, 3)), (24, (4, 4))], zas [], zas [], zas [], fun i r => match zas ([] : List (Nat × List (Nat × zV))) i with | some l => zas l r | none => none)
set_option maxRecDepth 20000 in
theorem tabfX4 (Z : zX) (args : Array Value) (s : State) (hts : ∀ w ∈ zTw, w.before args s = true) (hE : zE Z s s.heap) : zTab Z fX4 RX4 args s :=
  ⟨fun i ci k h => (zas_all (P := fun i (q : Nat × Nat) => zFieldOk RX4 args s i q.1 q.2) (l := [(9, (4, 0)), (15, (4, 1)), (18, (4, 2)), (21, (4, 3)), (24, (4, 4))]) (List.forall_mem_cons.mpr ⟨⟨RX4, TX4, 5, tyX4, rfl, by decide, fun w h => hts w (zuX4 w h), tyX4_ok, nmX4, hts _ (zqm 150 (by decide +kernel) (by decide +kernel))⟩, List.forall_mem_cons.mpr ⟨⟨RX4, TX4, 5, tyX4, rfl, by decide, fun w h => hts w (zuX4 w h), tyX4_ok, nmX4, hts _ (zqm 152 (by decide +kernel) (by decide +kernel))⟩, List.forall_mem_cons.mpr ⟨⟨RX4, TX4, 5, tyX4, rfl, by decide, fun w h => hts w (zuX4 w h), tyX4_ok, nmX4, hts _ (zqm 154 (by decide +kernel) (by decide +kernel))⟩, List.forall_mem_cons.mpr ⟨⟨RX4, TX4, 5, tyX4, rfl, by decide, fun w h => hts w (zuX4 w h), tyX4_ok, nmX4, hts _ (zqm 156 (by decide +kernel) (by decide +kernel))⟩, List.forall_mem_cons.mpr ⟨⟨RX4, TX4, 5, tyX4, rfl, by decide, fun w h => hts w (zuX4 w h), tyX4_ok, nmX4, hts _ (zqm 158 (by decide +kernel) (by decide +kernel))⟩, zno⟩⟩⟩⟩⟩) i (ci, k) h), zas_all (P := fun i v => zConstOk RX4 args s i v) (l := []) (zno), zas_all (P := fun i v => zStatOk Z RX4 args s i v) (l := []) (zno), zas_all (P := fun r q => zExtOk Z s r q) (l := []) (zno), fun i r v h => by simp [zFo, fX4, zas] at h⟩
def fX5 : zF := (zas [(9, (5, 1)), (15, (5, 2)), (18, (5, 3)), (22, (5, 4)), (25, (5, 5)), (28, (5, 0))], zas [], zas [], zas [], fun i r => match zas ([] : List (Nat × List (Nat × zV))) i with | some l => zas l r | none => none)
set_option maxRecDepth 20000 in
theorem tabfX5 (Z : zX) (args : Array Value) (s : State) (hts : ∀ w ∈ zTw, w.before args s = true) (hE : zE Z s s.heap) : zTab Z fX5 RX5 args s :=
  ⟨fun i ci k h => (zas_all (P := fun i (q : Nat × Nat) => zFieldOk RX5 args s i q.1 q.2) (l := [(9, (5, 1)), (15, (5, 2)), (18, (5, 3)), (22, (5, 4)), (25, (5, 5)), (28, (5, 0))]) (List.forall_mem_cons.mpr ⟨⟨RX5, TX5, 6, tyX5, rfl, by decide, fun w h => hts w (zuX5 w h), tyX5_ok, nmX5, hts _ (zqm 117 (by decide +kernel) (by decide +kernel))⟩, List.forall_mem_cons.mpr ⟨⟨RX5, TX5, 6, tyX5, rfl, by decide, fun w h => hts w (zuX5 w h), tyX5_ok, nmX5, hts _ (zqm 118 (by decide +kernel) (by decide +kernel))⟩, List.forall_mem_cons.mpr ⟨⟨RX5, TX5, 6, tyX5, rfl, by decide, fun w h => hts w (zuX5 w h), tyX5_ok, nmX5, hts _ (zqm 121 (by decide +kernel) (by decide +kernel))⟩, List.forall_mem_cons.mpr ⟨⟨RX5, TX5, 6, tyX5, rfl, by decide, fun w h => hts w (zuX5 w h), tyX5_ok, nmX5, hts _ (zqm 123 (by decide +kernel) (by decide +kernel))⟩, List.forall_mem_cons.mpr ⟨⟨RX5, TX5, 6, tyX5, rfl, by decide, fun w h => hts w (zuX5 w h), tyX5_ok, nmX5, hts _ (zqm 125 (by decide +kernel) (by decide +kernel))⟩, List.forall_mem_cons.mpr ⟨⟨RX5, TX5, 6, tyX5, rfl, by decide, fun w h => hts w (zuX5 w h), tyX5_ok, nmX5, hts _ (zqm 116 (by decide +kernel) (by decide +kernel))⟩, zno⟩⟩⟩⟩⟩⟩) i (ci, k) h), zas_all (P := fun i v => zConstOk RX5 args s i v) (l := []) (zno), zas_all (P := fun i v => zStatOk Z RX5 args s i v) (l := []) (zno), zas_all (P := fun r q => zExtOk Z s r q) (l := []) (zno), fun i r v h => by simp [zFo, fX5, zas] at h⟩
def fX6 : zF := (zas [(9, (6, 0)), (15, (6, 1)), (18, (6, 2)), (21, (6, 3)), (24, (6, 4))], zas [], zas [], zas [], fun i r => match zas ([] : List (Nat × List (Nat × zV))) i with | some l => zas l r | none => none)
set_option maxRecDepth 20000 in
theorem tabfX6 (Z : zX) (args : Array Value) (s : State) (hts : ∀ w ∈ zTw, w.before args s = true) (hE : zE Z s s.heap) : zTab Z fX6 RX6 args s :=
  ⟨fun i ci k h => (zas_all (P := fun i (q : Nat × Nat) => zFieldOk RX6 args s i q.1 q.2) (l := [(9, (6, 0)), (15, (6, 1)), (18, (6, 2)), (21, (6, 3)), (24, (6, 4))]) (List.forall_mem_cons.mpr ⟨⟨RX6, TX6, 5, tyX6, rfl, by decide, fun w h => hts w (zuX6 w h), tyX6_ok, nmX6, hts _ (zqm 177 (by decide +kernel) (by decide +kernel))⟩, List.forall_mem_cons.mpr ⟨⟨RX6, TX6, 5, tyX6, rfl, by decide, fun w h => hts w (zuX6 w h), tyX6_ok, nmX6, hts _ (zqm 178 (by decide +kernel) (by decide +kernel))⟩, List.forall_mem_cons.mpr ⟨⟨RX6, TX6, 5, tyX6, rfl, by decide, fun w h => hts w (zuX6 w h), tyX6_ok, nmX6, hts _ (zqm 179 (by decide +kernel) (by decide +kernel))⟩, List.forall_mem_cons.mpr ⟨⟨RX6, TX6, 5, tyX6, rfl, by decide, fun w h => hts w (zuX6 w h), tyX6_ok, nmX6, hts _ (zqm 180 (by decide +kernel) (by decide +kernel))⟩, List.forall_mem_cons.mpr ⟨⟨RX6, TX6, 5, tyX6, rfl, by decide, fun w h => hts w (zuX6 w h), tyX6_ok, nmX6, hts _ (zqm 181 (by decide +kernel) (by decide +kernel))⟩, zno⟩⟩⟩⟩⟩) i (ci, k) h), zas_all (P := fun i v => zConstOk RX6 args s i v) (l := []) (zno), zas_all (P := fun i v => zStatOk Z RX6 args s i v) (l := []) (zno), zas_all (P := fun r q => zExtOk Z s r q) (l := []) (zno), fun i r v h => by simp [zFo, fX6, zas] at h⟩
def fX7 : zF := (zas [(14, (7, 0)), (22, (7, 1)), (28, (7, 2)), (32, (7, 3)), (38, (7, 4)), (44, (7, 5)), (48, (7, 6)), (55, (7, 7)), (59, (7, 8)), (65, (7, 9)), (72, (7, 10)), (76, (7, 11)), (80, (7, 12)), (83, (7, 13)), (86, (7, 14)), (89, (7, 15)), (113, (5, 4)), (116, (5, 5)), (119, (5, 2)), (134, (1, 2)), (137, (1, 0)), (146, (3, 0)), (149, (3, 1)), (152, (3, 2)), (159, (3, 3)), (162, (3, 5)), (234, (4, 4)), (299, (1, 1)), (316, (5, 3)), (319, (6, 4)), (355, (4, 3)), (358, (4, 0)), (361, (4, 1)), (363, (4, 2))], zas [(197, .inr (.inl (-9223372036854775806))), (298, .inl (-2147483648)), (320, .inr (.inl (17))), (322, .inr (.inl (31))), (406, .inl (1103515245))], zas [(207, .inr (.inr 104))], zas [(104, (0, 8, zk104))], fun i r => match zas ([] : List (Nat × List (Nat × zV))) i with | some l => zas l r | none => none)
set_option maxRecDepth 20000 in
theorem tabfX7 (Z : zX) (args : Array Value) (s : State) (hts : ∀ w ∈ zTw, w.before args s = true) (hE : zE Z s s.heap) : zTab Z fX7 RX7 args s :=
  ⟨fun i ci k h => (zas_all (P := fun i (q : Nat × Nat) => zFieldOk RX7 args s i q.1 q.2) (l := [(14, (7, 0)), (22, (7, 1)), (28, (7, 2)), (32, (7, 3)), (38, (7, 4)), (44, (7, 5)), (48, (7, 6)), (55, (7, 7)), (59, (7, 8)), (65, (7, 9)), (72, (7, 10)), (76, (7, 11)), (80, (7, 12)), (83, (7, 13)), (86, (7, 14)), (89, (7, 15)), (113, (5, 4)), (116, (5, 5)), (119, (5, 2)), (134, (1, 2)), (137, (1, 0)), (146, (3, 0)), (149, (3, 1)), (152, (3, 2)), (159, (3, 3)), (162, (3, 5)), (234, (4, 4)), (299, (1, 1)), (316, (5, 3)), (319, (6, 4)), (355, (4, 3)), (358, (4, 0)), (361, (4, 1)), (363, (4, 2))]) (List.forall_mem_cons.mpr ⟨⟨RX7, TX7, 16, tyX7, rfl, by decide, fun w h => hts w (zuX7 w h), tyX7_ok, nmX7, hts _ (zqm 274 (by decide +kernel) (by decide +kernel))⟩, List.forall_mem_cons.mpr ⟨⟨RX7, TX7, 16, tyX7, rfl, by decide, fun w h => hts w (zuX7 w h), tyX7_ok, nmX7, hts _ (zqm 275 (by decide +kernel) (by decide +kernel))⟩, List.forall_mem_cons.mpr ⟨⟨RX7, TX7, 16, tyX7, rfl, by decide, fun w h => hts w (zuX7 w h), tyX7_ok, nmX7, hts _ (zqm 276 (by decide +kernel) (by decide +kernel))⟩, List.forall_mem_cons.mpr ⟨⟨RX7, TX7, 16, tyX7, rfl, by decide, fun w h => hts w (zuX7 w h), tyX7_ok, nmX7, hts _ (zqm 277 (by decide +kernel) (by decide +kernel))⟩, List.forall_mem_cons.mpr ⟨⟨RX7, TX7, 16, tyX7, rfl, by decide, fun w h => hts w (zuX7 w h), tyX7_ok, nmX7, hts _ (zqm 278 (by decide +kernel) (by decide +kernel))⟩, List.forall_mem_cons.mpr ⟨⟨RX7, TX7, 16, tyX7, rfl, by decide, fun w h => hts w (zuX7 w h), tyX7_ok, nmX7, hts _ (zqm 279 (by decide +kernel) (by decide +kernel))⟩, List.forall_mem_cons.mpr ⟨⟨RX7, TX7, 16, tyX7, rfl, by decide, fun w h => hts w (zuX7 w h), tyX7_ok, nmX7, hts _ (zqm 280 (by decide +kernel) (by decide +kernel))⟩, List.forall_mem_cons.mpr ⟨⟨RX7, TX7, 16, tyX7, rfl, by decide, fun w h => hts w (zuX7 w h), tyX7_ok, nmX7, hts _ (zqm 281 (by decide +kernel) (by decide +kernel))⟩, List.forall_mem_cons.mpr ⟨⟨RX7, TX7, 16, tyX7, rfl, by decide, fun w h => hts w (zuX7 w h), tyX7_ok, nmX7, hts _ (zqm 282 (by decide +kernel) (by decide +kernel))⟩, List.forall_mem_cons.mpr ⟨⟨RX7, TX7, 16, tyX7, rfl, by decide, fun w h => hts w (zuX7 w h), tyX7_ok, nmX7, hts _ (zqm 283 (by decide +kernel) (by decide +kernel))⟩, List.forall_mem_cons.mpr ⟨⟨RX7, TX7, 16, tyX7, rfl, by decide, fun w h => hts w (zuX7 w h), tyX7_ok, nmX7, hts _ (zqm 284 (by decide +kernel) (by decide +kernel))⟩, List.forall_mem_cons.mpr ⟨⟨RX7, TX7, 16, tyX7, rfl, by decide, fun w h => hts w (zuX7 w h), tyX7_ok, nmX7, hts _ (zqm 285 (by decide +kernel) (by decide +kernel))⟩, List.forall_mem_cons.mpr ⟨⟨RX7, TX7, 16, tyX7, rfl, by decide, fun w h => hts w (zuX7 w h), tyX7_ok, nmX7, hts _ (zqm 286 (by decide +kernel) (by decide +kernel))⟩, List.forall_mem_cons.mpr ⟨⟨RX7, TX7, 16, tyX7, rfl, by decide, fun w h => hts w (zuX7 w h), tyX7_ok, nmX7, hts _ (zqm 287 (by decide +kernel) (by decide +kernel))⟩, List.forall_mem_cons.mpr ⟨⟨RX7, TX7, 16, tyX7, rfl, by decide, fun w h => hts w (zuX7 w h), tyX7_ok, nmX7, hts _ (zqm 288 (by decide +kernel) (by decide +kernel))⟩, List.forall_mem_cons.mpr ⟨⟨RX7, TX7, 16, tyX7, rfl, by decide, fun w h => hts w (zuX7 w h), tyX7_ok, nmX7, hts _ (zqm 289 (by decide +kernel) (by decide +kernel))⟩, List.forall_mem_cons.mpr ⟨⟨RX5, TX5, 6, tyX5, rfl, by decide, fun w h => hts w (zuX5 w h), tyX5_ok, nmX5, hts _ (zqm 124 (by decide +kernel) (by decide +kernel))⟩, List.forall_mem_cons.mpr ⟨⟨RX5, TX5, 6, tyX5, rfl, by decide, fun w h => hts w (zuX5 w h), tyX5_ok, nmX5, hts _ (zqm 126 (by decide +kernel) (by decide +kernel))⟩, List.forall_mem_cons.mpr ⟨⟨RX5, TX5, 6, tyX5, rfl, by decide, fun w h => hts w (zuX5 w h), tyX5_ok, nmX5, hts _ (zqm 120 (by decide +kernel) (by decide +kernel))⟩, List.forall_mem_cons.mpr ⟨⟨RX1, TX1, 3, tyX1, rfl, by decide, fun w h => hts w (zuX1 w h), tyX1_ok, nmX1, hts _ (zqm 265 (by decide +kernel) (by decide +kernel))⟩, List.forall_mem_cons.mpr ⟨⟨RX1, TX1, 3, tyX1, rfl, by decide, fun w h => hts w (zuX1 w h), tyX1_ok, nmX1, hts _ (zqm 261 (by decide +kernel) (by decide +kernel))⟩, List.forall_mem_cons.mpr ⟨⟨RX3, TX3, 6, tyX3, rfl, by decide, fun w h => hts w (zuX3 w h), tyX3_ok, nmX3, hts _ (zqm 203 (by decide +kernel) (by decide +kernel))⟩, List.forall_mem_cons.mpr ⟨⟨RX3, TX3, 6, tyX3, rfl, by decide, fun w h => hts w (zuX3 w h), tyX3_ok, nmX3, hts _ (zqm 205 (by decide +kernel) (by decide +kernel))⟩, List.forall_mem_cons.mpr ⟨⟨RX3, TX3, 6, tyX3, rfl, by decide, fun w h => hts w (zuX3 w h), tyX3_ok, nmX3, hts _ (zqm 207 (by decide +kernel) (by decide +kernel))⟩, List.forall_mem_cons.mpr ⟨⟨RX3, TX3, 6, tyX3, rfl, by decide, fun w h => hts w (zuX3 w h), tyX3_ok, nmX3, hts _ (zqm 209 (by decide +kernel) (by decide +kernel))⟩, List.forall_mem_cons.mpr ⟨⟨RX3, TX3, 6, tyX3, rfl, by decide, fun w h => hts w (zuX3 w h), tyX3_ok, nmX3, hts _ (zqm 212 (by decide +kernel) (by decide +kernel))⟩, List.forall_mem_cons.mpr ⟨⟨RX4, TX4, 5, tyX4, rfl, by decide, fun w h => hts w (zuX4 w h), tyX4_ok, nmX4, hts _ (zqm 159 (by decide +kernel) (by decide +kernel))⟩, List.forall_mem_cons.mpr ⟨⟨RX1, TX1, 3, tyX1, rfl, by decide, fun w h => hts w (zuX1 w h), tyX1_ok, nmX1, hts _ (zqm 263 (by decide +kernel) (by decide +kernel))⟩, List.forall_mem_cons.mpr ⟨⟨RX5, TX5, 6, tyX5, rfl, by decide, fun w h => hts w (zuX5 w h), tyX5_ok, nmX5, hts _ (zqm 122 (by decide +kernel) (by decide +kernel))⟩, List.forall_mem_cons.mpr ⟨⟨RX6, TX6, 5, tyX6, rfl, by decide, fun w h => hts w (zuX6 w h), tyX6_ok, nmX6, hts _ (zqm 182 (by decide +kernel) (by decide +kernel))⟩, List.forall_mem_cons.mpr ⟨⟨RX4, TX4, 5, tyX4, rfl, by decide, fun w h => hts w (zuX4 w h), tyX4_ok, nmX4, hts _ (zqm 157 (by decide +kernel) (by decide +kernel))⟩, List.forall_mem_cons.mpr ⟨⟨RX4, TX4, 5, tyX4, rfl, by decide, fun w h => hts w (zuX4 w h), tyX4_ok, nmX4, hts _ (zqm 151 (by decide +kernel) (by decide +kernel))⟩, List.forall_mem_cons.mpr ⟨⟨RX4, TX4, 5, tyX4, rfl, by decide, fun w h => hts w (zuX4 w h), tyX4_ok, nmX4, hts _ (zqm 153 (by decide +kernel) (by decide +kernel))⟩, List.forall_mem_cons.mpr ⟨⟨RX4, TX4, 5, tyX4, rfl, by decide, fun w h => hts w (zuX4 w h), tyX4_ok, nmX4, hts _ (zqm 155 (by decide +kernel) (by decide +kernel))⟩, zno⟩⟩⟩⟩⟩⟩⟩⟩⟩⟩⟩⟩⟩⟩⟩⟩⟩⟩⟩⟩⟩⟩⟩⟩⟩⟩⟩⟩⟩⟩⟩⟩⟩⟩) i (ci, k) h), zas_all (P := fun i v => zConstOk RX7 args s i v) (l := [(197, .inr (.inl (-9223372036854775806))), (298, .inl (-2147483648)), (320, .inr (.inl (17))), (322, .inr (.inl (31))), (406, .inl (1103515245))]) (List.forall_mem_cons.mpr ⟨hts _ (zqm 589 (by decide +kernel) (by decide +kernel)), List.forall_mem_cons.mpr ⟨hts _ (zqm 791 (by decide +kernel) (by decide +kernel)), List.forall_mem_cons.mpr ⟨hts _ (zqm 816 (by decide +kernel) (by decide +kernel)), List.forall_mem_cons.mpr ⟨hts _ (zqm 817 (by decide +kernel) (by decide +kernel)), List.forall_mem_cons.mpr ⟨hts _ (zqm 750 (by decide +kernel) (by decide +kernel)), zno⟩⟩⟩⟩⟩), zas_all (P := fun i v => zStatOk Z RX7 args s i v) (l := [(207, .inr (.inr 104))]) (List.forall_mem_cons.mpr ⟨⟨_, _, _, hE.2.2.1, Or.inl (hts _ (zqm 598 (by decide +kernel) (by decide +kernel)))⟩, zno⟩), zas_all (P := fun r q => zExtOk Z s r q) (l := [(104, (0, 8, zk104))]) (List.forall_mem_cons.mpr ⟨⟨hE.2.2.2.2.2.1, Nat.lt_of_lt_of_le (by decide : 8 < 100) (by decide), by decide⟩, zno⟩), fun i r v h => by simp [zFo, fX7, zas] at h⟩
def fX8 : zF := (zas [(7, (8, 0)), (13, (8, 1)), (16, (8, 3)), (19, (8, 4)), (22, (8, 6)), (25, (8, 7)), (28, (8, 9)), (31, (8, 10)), (34, (8, 11)), (37, (8, 13)), (40, (8, 14)), (43, (8, 15)), (46, (8, 17)), (49, (8, 18)), (52, (8, 19)), (55, (8, 20)), (58, (8, 21)), (61, (8, 22)), (64, (8, 23)), (67, (8, 24)), (70, (8, 25)), (73, (8, 26)), (76, (8, 27)), (79, (8, 29)), (82, (8, 30)), (85, (8, 31)), (88, (8, 32)), (91, (8, 33)), (94, (8, 34)), (98, (8, 35)), (101, (8, 36)), (104, (8, 37)), (107, (8, 38)), (127, (8, 2)), (131, (8, 5)), (166, (8, 8)), (178, (8, 12)), (181, (8, 16)), (290, (8, 28)), (323, (8, 39))], zas [(110, .inr (.inl (-9223372036854775808))), (313, .inl (1103515245)), (333, .inl (-2147483648)), (337, .inr (.inl (31))), (346, .inr (.inl (17)))], zas [], zas [], fun i r => match zas ([] : List (Nat × List (Nat × zV))) i with | some l => zas l r | none => none)
set_option maxRecDepth 20000 in
theorem tabfX8 (Z : zX) (args : Array Value) (s : State) (hts : ∀ w ∈ zTw, w.before args s = true) (hE : zE Z s s.heap) : zTab Z fX8 RX8 args s :=
  ⟨fun i ci k h => (zas_all (P := fun i (q : Nat × Nat) => zFieldOk RX8 args s i q.1 q.2) (l := [(7, (8, 0)), (13, (8, 1)), (16, (8, 3)), (19, (8, 4)), (22, (8, 6)), (25, (8, 7)), (28, (8, 9)), (31, (8, 10)), (34, (8, 11)), (37, (8, 13)), (40, (8, 14)), (43, (8, 15)), (46, (8, 17)), (49, (8, 18)), (52, (8, 19)), (55, (8, 20)), (58, (8, 21)), (61, (8, 22)), (64, (8, 23)), (67, (8, 24)), (70, (8, 25)), (73, (8, 26)), (76, (8, 27)), (79, (8, 29)), (82, (8, 30)), (85, (8, 31)), (88, (8, 32)), (91, (8, 33)), (94, (8, 34)), (98, (8, 35)), (101, (8, 36)), (104, (8, 37)), (107, (8, 38)), (127, (8, 2)), (131, (8, 5)), (166, (8, 8)), (178, (8, 12)), (181, (8, 16)), (290, (8, 28)), (323, (8, 39))]) (List.forall_mem_cons.mpr ⟨⟨RX8, TX8, 40, tyX8, rfl, by decide, fun w h => hts w (zuX8 w h), tyX8_ok, nmX8, hts _ (zqm 852 (by decide +kernel) (by decide +kernel))⟩, List.forall_mem_cons.mpr ⟨⟨RX8, TX8, 40, tyX8, rfl, by decide, fun w h => hts w (zuX8 w h), tyX8_ok, nmX8, hts _ (zqm 853 (by decide +kernel) (by decide +kernel))⟩, List.forall_mem_cons.mpr ⟨⟨RX8, TX8, 40, tyX8, rfl, by decide, fun w h => hts w (zuX8 w h), tyX8_ok, nmX8, hts _ (zqm 855 (by decide +kernel) (by decide +kernel))⟩, List.forall_mem_cons.mpr ⟨⟨RX8, TX8, 40, tyX8, rfl, by decide, fun w h => hts w (zuX8 w h), tyX8_ok, nmX8, hts _ (zqm 856 (by decide +kernel) (by decide +kernel))⟩, List.forall_mem_cons.mpr ⟨⟨RX8, TX8, 40, tyX8, rfl, by decide, fun w h => hts w (zuX8 w h), tyX8_ok, nmX8, hts _ (zqm 858 (by decide +kernel) (by decide +kernel))⟩, List.forall_mem_cons.mpr ⟨⟨RX8, TX8, 40, tyX8, rfl, by decide, fun w h => hts w (zuX8 w h), tyX8_ok, nmX8, hts _ (zqm 859 (by decide +kernel) (by decide +kernel))⟩, List.forall_mem_cons.mpr ⟨⟨RX8, TX8, 40, tyX8, rfl, by decide, fun w h => hts w (zuX8 w h), tyX8_ok, nmX8, hts _ (zqm 861 (by decide +kernel) (by decide +kernel))⟩, List.forall_mem_cons.mpr ⟨⟨RX8, TX8, 40, tyX8, rfl, by decide, fun w h => hts w (zuX8 w h), tyX8_ok, nmX8, hts _ (zqm 862 (by decide +kernel) (by decide +kernel))⟩, List.forall_mem_cons.mpr ⟨⟨RX8, TX8, 40, tyX8, rfl, by decide, fun w h => hts w (zuX8 w h), tyX8_ok, nmX8, hts _ (zqm 863 (by decide +kernel) (by decide +kernel))⟩, List.forall_mem_cons.mpr ⟨⟨RX8, TX8, 40, tyX8, rfl, by decide, fun w h => hts w (zuX8 w h), tyX8_ok, nmX8, hts _ (zqm 865 (by decide +kernel) (by decide +kernel))⟩, List.forall_mem_cons.mpr ⟨⟨RX8, TX8, 40, tyX8, rfl, by decide, fun w h => hts w (zuX8 w h), tyX8_ok, nmX8, hts _ (zqm 866 (by decide +kernel) (by decide +kernel))⟩, List.forall_mem_cons.mpr ⟨⟨RX8, TX8, 40, tyX8, rfl, by decide, fun w h => hts w (zuX8 w h), tyX8_ok, nmX8, hts _ (zqm 867 (by decide +kernel) (by decide +kernel))⟩, List.forall_mem_cons.mpr ⟨⟨RX8, TX8, 40, tyX8, rfl, by decide, fun w h => hts w (zuX8 w h), tyX8_ok, nmX8, hts _ (zqm 869 (by decide +kernel) (by decide +kernel))⟩, List.forall_mem_cons.mpr ⟨⟨RX8, TX8, 40, tyX8, rfl, by decide, fun w h => hts w (zuX8 w h), tyX8_ok, nmX8, hts _ (zqm 870 (by decide +kernel) (by decide +kernel))⟩, List.forall_mem_cons.mpr ⟨⟨RX8, TX8, 40, tyX8, rfl, by decide, fun w h => hts w (zuX8 w h), tyX8_ok, nmX8, hts _ (zqm 871 (by decide +kernel) (by decide +kernel))⟩, List.forall_mem_cons.mpr ⟨⟨RX8, TX8, 40, tyX8, rfl, by decide, fun w h => hts w (zuX8 w h), tyX8_ok, nmX8, hts _ (zqm 872 (by decide +kernel) (by decide +kernel))⟩, List.forall_mem_cons.mpr ⟨⟨RX8, TX8, 40, tyX8, rfl, by decide, fun w h => hts w (zuX8 w h), tyX8_ok, nmX8, hts _ (zqm 873 (by decide +kernel) (by decide +kernel))⟩, List.forall_mem_cons.mpr ⟨⟨RX8, TX8, 40, tyX8, rfl, by decide, fun w h => hts w (zuX8 w h), tyX8_ok, nmX8, hts _ (zqm 874 (by decide +kernel) (by decide +kernel))⟩, List.forall_mem_cons.mpr ⟨⟨RX8, TX8, 40, tyX8, rfl, by decide, fun w h => hts w (zuX8 w h), tyX8_ok, nmX8, hts _ (zqm 875 (by decide +kernel) (by decide +kernel))⟩, List.forall_mem_cons.mpr ⟨⟨RX8, TX8, 40, tyX8, rfl, by decide, fun w h => hts w (zuX8 w h), tyX8_ok, nmX8, hts _ (zqm 876 (by decide +kernel) (by decide +kernel))⟩, List.forall_mem_cons.mpr ⟨⟨RX8, TX8, 40, tyX8, rfl, by decide, fun w h => hts w (zuX8 w h), tyX8_ok, nmX8, hts _ (zqm 877 (by decide +kernel) (by decide +kernel))⟩, List.forall_mem_cons.mpr ⟨⟨RX8, TX8, 40, tyX8, rfl, by decide, fun w h => hts w (zuX8 w h), tyX8_ok, nmX8, hts _ (zqm 878 (by decide +kernel) (by decide +kernel))⟩, List.forall_mem_cons.mpr ⟨⟨RX8, TX8, 40, tyX8, rfl, by decide, fun w h => hts w (zuX8 w h), tyX8_ok, nmX8, hts _ (zqm 879 (by decide +kernel) (by decide +kernel))⟩, List.forall_mem_cons.mpr ⟨⟨RX8, TX8, 40, tyX8, rfl, by decide, fun w h => hts w (zuX8 w h), tyX8_ok, nmX8, hts _ (zqm 881 (by decide +kernel) (by decide +kernel))⟩, List.forall_mem_cons.mpr ⟨⟨RX8, TX8, 40, tyX8, rfl, by decide, fun w h => hts w (zuX8 w h), tyX8_ok, nmX8, hts _ (zqm 882 (by decide +kernel) (by decide +kernel))⟩, List.forall_mem_cons.mpr ⟨⟨RX8, TX8, 40, tyX8, rfl, by decide, fun w h => hts w (zuX8 w h), tyX8_ok, nmX8, hts _ (zqm 883 (by decide +kernel) (by decide +kernel))⟩, List.forall_mem_cons.mpr ⟨⟨RX8, TX8, 40, tyX8, rfl, by decide, fun w h => hts w (zuX8 w h), tyX8_ok, nmX8, hts _ (zqm 884 (by decide +kernel) (by decide +kernel))⟩, List.forall_mem_cons.mpr ⟨⟨RX8, TX8, 40, tyX8, rfl, by decide, fun w h => hts w (zuX8 w h), tyX8_ok, nmX8, hts _ (zqm 885 (by decide +kernel) (by decide +kernel))⟩, List.forall_mem_cons.mpr ⟨⟨RX8, TX8, 40, tyX8, rfl, by decide, fun w h => hts w (zuX8 w h), tyX8_ok, nmX8, hts _ (zqm 886 (by decide +kernel) (by decide +kernel))⟩, List.forall_mem_cons.mpr ⟨⟨RX8, TX8, 40, tyX8, rfl, by decide, fun w h => hts w (zuX8 w h), tyX8_ok, nmX8, hts _ (zqm 887 (by decide +kernel) (by decide +kernel))⟩, List.forall_mem_cons.mpr ⟨⟨RX8, TX8, 40, tyX8, rfl, by decide, fun w h => hts w (zuX8 w h), tyX8_ok, nmX8, hts _ (zqm 888 (by decide +kernel) (by decide +kernel))⟩, List.forall_mem_cons.mpr ⟨⟨RX8, TX8, 40, tyX8, rfl, by decide, fun w h => hts w (zuX8 w h), tyX8_ok, nmX8, hts _ (zqm 889 (by decide +kernel) (by decide +kernel))⟩, List.forall_mem_cons.mpr ⟨⟨RX8, TX8, 40, tyX8, rfl, by decide, fun w h => hts w (zuX8 w h), tyX8_ok, nmX8, hts _ (zqm 890 (by decide +kernel) (by decide +kernel))⟩, List.forall_mem_cons.mpr ⟨⟨RX8, TX8, 40, tyX8, rfl, by decide, fun w h => hts w (zuX8 w h), tyX8_ok, nmX8, hts _ (zqm 854 (by decide +kernel) (by decide +kernel))⟩, List.forall_mem_cons.mpr ⟨⟨RX8, TX8, 40, tyX8, rfl, by decide, fun w h => hts w (zuX8 w h), tyX8_ok, nmX8, hts _ (zqm 857 (by decide +kernel) (by decide +kernel))⟩, List.forall_mem_cons.mpr ⟨⟨RX8, TX8, 40, tyX8, rfl, by decide, fun w h => hts w (zuX8 w h), tyX8_ok, nmX8, hts _ (zqm 860 (by decide +kernel) (by decide +kernel))⟩, List.forall_mem_cons.mpr ⟨⟨RX8, TX8, 40, tyX8, rfl, by decide, fun w h => hts w (zuX8 w h), tyX8_ok, nmX8, hts _ (zqm 864 (by decide +kernel) (by decide +kernel))⟩, List.forall_mem_cons.mpr ⟨⟨RX8, TX8, 40, tyX8, rfl, by decide, fun w h => hts w (zuX8 w h), tyX8_ok, nmX8, hts _ (zqm 868 (by decide +kernel) (by decide +kernel))⟩, List.forall_mem_cons.mpr ⟨⟨RX8, TX8, 40, tyX8, rfl, by decide, fun w h => hts w (zuX8 w h), tyX8_ok, nmX8, hts _ (zqm 880 (by decide +kernel) (by decide +kernel))⟩, List.forall_mem_cons.mpr ⟨⟨RX8, TX8, 40, tyX8, rfl, by decide, fun w h => hts w (zuX8 w h), tyX8_ok, nmX8, hts _ (zqm 891 (by decide +kernel) (by decide +kernel))⟩, zno⟩⟩⟩⟩⟩⟩⟩⟩⟩⟩⟩⟩⟩⟩⟩⟩⟩⟩⟩⟩⟩⟩⟩⟩⟩⟩⟩⟩⟩⟩⟩⟩⟩⟩⟩⟩⟩⟩⟩⟩) i (ci, k) h), zas_all (P := fun i v => zConstOk RX8 args s i v) (l := [(110, .inr (.inl (-9223372036854775808))), (313, .inl (1103515245)), (333, .inl (-2147483648)), (337, .inr (.inl (31))), (346, .inr (.inl (17)))]) (List.forall_mem_cons.mpr ⟨hts _ (zqm 1192 (by decide +kernel) (by decide +kernel)), List.forall_mem_cons.mpr ⟨hts _ (zqm 1293 (by decide +kernel) (by decide +kernel)), List.forall_mem_cons.mpr ⟨hts _ (zqm 1326 (by decide +kernel) (by decide +kernel)), List.forall_mem_cons.mpr ⟨hts _ (zqm 1348 (by decide +kernel) (by decide +kernel)), List.forall_mem_cons.mpr ⟨hts _ (zqm 1347 (by decide +kernel) (by decide +kernel)), zno⟩⟩⟩⟩⟩), zas_all (P := fun i v => zStatOk Z RX8 args s i v) (l := []) (zno), zas_all (P := fun r q => zExtOk Z s r q) (l := []) (zno), fun i r v h => by simp [zFo, fX8, zas] at h⟩
