def zk102 (j : Int) : Int := if j = 0 then 3 else if j = 1 then 2 else 5
def zk103 (j : Int) : Int := if j = 0 then 1 else if j = 1 then 2 else 0
def zk104 (j : Int) : Int := if j = 0 then 1 else if j = 1 then 1 else if j = 2 then 2 else if j = 3 then 6 else if j = 4 then 24 else if j = 5 then 120 else if j = 6 then 720 else 5040
def zk110 (j : Int) : Int := if j = 0 then 112 else if j = 1 then 116 else 105
def zk111 (j : Int) : Int := if j = 0 then 114 else 119
def zE (Z : zX) (U : State) (H : Heap) : Prop := va_Z RX7 "STOMACHS" "[I" (.ref (zad Z 102)) (zA Z) U H ∧ va_Z RX7 "STRIDES" "[I" (.ref (zad Z 103)) (zA Z) U H ∧ va_Z RX7 "FACTORIALS" "[I" (.ref (zad Z 104)) (zA Z) U H ∧ va_T .int (zad Z 102) 3 (fun j : Nat => .int (Int32.ofInt (zk102 j))) (zA Z) U H ∧ va_T .int (zad Z 103) 3 (fun j : Nat => .int (Int32.ofInt (zk103 j))) (zA Z) U H ∧ va_T .int (zad Z 104) 8 (fun j : Nat => .int (Int32.ofInt (zk104 j))) (zA Z) U H ∧ va_Z "java/lang/String" "COMPACT_STRINGS" "Z" (.int (Int32.ofInt 1)) (zA Z) U H ∧ va_O "java/lang/String" (zad Z 100) (zA Z) U H ∧ va_O "java/lang/String" (zad Z 101) (zA Z) U H ∧ va_OF "java/lang/String" "coder" "B" (.int (Int32.ofInt 0)) (zad Z 100) (zA Z) U H ∧ va_OF "java/lang/String" "coder" "B" (.int (Int32.ofInt 0)) (zad Z 101) (zA Z) U H ∧ va_OF "java/lang/String" "value" "[B" (.ref (zad Z 110)) (zad Z 100) (zA Z) U H ∧ va_OF "java/lang/String" "value" "[B" (.ref (zad Z 111)) (zad Z 101) (zA Z) U H ∧ va_T .byte (zad Z 110) 3 (fun j : Nat => .int (Int32.ofInt (zk110 j))) (zA Z) U H ∧ va_T .byte (zad Z 111) 2 (fun j : Nat => .int (Int32.ofInt (zk111 j))) (zA Z) U H ∧ va_Nw (.fieldLinkNest RX3 44 RX7 "STOMACHS" "[I" RX7) U ∧ va_Nw (.fieldLinkNest RX3 47 RX7 "STRIDES" "[I" RX7) U
theorem zE_to {Z : zX} {u U : State} {H H1 : Heap} (h : zE Z u H) (hW : u.WarmedH U.vm) (hq : ∀ a : Nat, a < H.size → ¬ zA Z a → H1[a]? = H[a]?) : zE Z U H1 :=
  ⟨(h.1.moved hW.alike).kept hq, (h.2.1.moved hW.alike).kept hq, (h.2.2.1.moved hW.alike).kept hq, (h.2.2.2.1.moved hW.alike).kept hq, (h.2.2.2.2.1.moved hW.alike).kept hq, (h.2.2.2.2.2.1.moved hW.alike).kept hq, (h.2.2.2.2.2.2.1.moved hW.alike).kept hq, (h.2.2.2.2.2.2.2.1.moved hW.alike).kept hq, (h.2.2.2.2.2.2.2.2.1.moved hW.alike).kept hq, (h.2.2.2.2.2.2.2.2.2.1.moved hW.alike).kept hq, (h.2.2.2.2.2.2.2.2.2.2.1.moved hW.alike).kept hq, (h.2.2.2.2.2.2.2.2.2.2.2.1.moved hW.alike).kept hq, (h.2.2.2.2.2.2.2.2.2.2.2.2.1.moved hW.alike).kept hq, (h.2.2.2.2.2.2.2.2.2.2.2.2.2.1.moved hW.alike).kept hq, (h.2.2.2.2.2.2.2.2.2.2.2.2.2.2.1.moved hW.alike).kept hq, va_Nw.warmF hW h.2.2.2.2.2.2.2.2.2.2.2.2.2.2.2.1, va_Nw.warmF hW h.2.2.2.2.2.2.2.2.2.2.2.2.2.2.2.2⟩
theorem zE_call {Z : zX} {U : State} {g : JFrame} {mk : MethodId} {a : Array Value} (h : zE Z U U.heap) : zE Z (U.calling g mk a) (U.calling g mk a).heap :=
  ⟨h.1.moved (Vm.Alike.refl U.vm), h.2.1.moved (Vm.Alike.refl U.vm), h.2.2.1.moved (Vm.Alike.refl U.vm), h.2.2.2.1.moved (Vm.Alike.refl U.vm), h.2.2.2.2.1.moved (Vm.Alike.refl U.vm), h.2.2.2.2.2.1.moved (Vm.Alike.refl U.vm), h.2.2.2.2.2.2.1.moved (Vm.Alike.refl U.vm), h.2.2.2.2.2.2.2.1.moved (Vm.Alike.refl U.vm), h.2.2.2.2.2.2.2.2.1.moved (Vm.Alike.refl U.vm), h.2.2.2.2.2.2.2.2.2.1.moved (Vm.Alike.refl U.vm), h.2.2.2.2.2.2.2.2.2.2.1.moved (Vm.Alike.refl U.vm), h.2.2.2.2.2.2.2.2.2.2.2.1.moved (Vm.Alike.refl U.vm), h.2.2.2.2.2.2.2.2.2.2.2.2.1.moved (Vm.Alike.refl U.vm), h.2.2.2.2.2.2.2.2.2.2.2.2.2.1.moved (Vm.Alike.refl U.vm), h.2.2.2.2.2.2.2.2.2.2.2.2.2.2.1.moved (Vm.Alike.refl U.vm), va_Nw.same rfl rfl h.2.2.2.2.2.2.2.2.2.2.2.2.2.2.2.1, va_Nw.same rfl rfl h.2.2.2.2.2.2.2.2.2.2.2.2.2.2.2.2⟩
def zKn (Z : zX) (U : State) (H : Heap) : Prop := va_K Z.1 vwCl (ztys Z) U ∧ (∀ M, va_D (zA Z) (zw Z M)) ∧ zE Z U H
theorem zKn_to {Z : zX} {u U : State} {H H1 : Heap} (h : zKn Z u H) (hW : u.WarmedH U.vm) (hq : ∀ a : Nat, a < H.size → ¬ zA Z a → H1[a]? = H[a]?) : zKn Z U H1 := ⟨h.1.moved hW.alike, h.2.1, zE_to h.2.2 hW hq⟩
theorem zKn_call {Z : zX} {U : State} {g : JFrame} {mk : MethodId} {a : Array Value} (h : zKn Z U U.heap) : zKn Z (U.calling g mk a) (U.calling g mk a).heap := ⟨va_K.moved (u := U) (U := U.calling g mk a) (Vm.Alike.refl U.vm) h.1, h.2.1, zE_call h.2.2⟩
def zPc (Z : zX) (as : List zV) (M : zM) : Array Value → State → Prop := fun v U => v = (as.map (zc Z)).toArray ∧ va_P Z.1 vwCl (zw Z M) U.heap ∧ zKn Z U U.heap
def zQc (Z : zX) (post : zP) : Array Value → State → Outcome → State → Prop := fun _ st o t => ∃ (r : Option zV) (M : zM), o = .returned (r.map (zc Z)) ∧ post r M ∧ va_P Z.1 vwCl (zw Z M) t.heap ∧ va_F (zA Z) st t
def zMet (l : Launch) (y : MethodName) (ws : List Cond) (rm : Room) (Z : zX) (T : zT) : Prop := ∀ (as : List zV) (M : zM) (post : zP), T as M post → Met l y ws rm (zPc Z as M) (zQc Z post) 0 0 (zA Z)
theorem zPc_blind {Z : zX} {as : List zV} {M : zM} : FrameBlind (zPc Z as M) := fun _ _ _ _ h => ⟨h.1, h.2.1, zKn_call h.2.2⟩
def zwords : List zV → Nat
  | [] => 0
  | .inr (.inl _) :: as => zwords as + 2
  | _ :: as => zwords as + 1
def zent : List zV → Nat → List (Option zV)
  | [], n => List.replicate n none
  | .inr (.inl a) :: as, n + 2 => some (.inr (.inl a)) :: none :: zent as n
  | .inl a :: as, n + 1 => some (.inl a) :: zent as n
  | .inr (.inr a) :: as, n + 1 => some (.inr (.inr a)) :: zent as n
  | _, _ => []
theorem zL_none (Z : zX) : ∀ (n i : Nat), zL Z i (List.replicate n none) = []
  | 0, _ => rfl
  | n + 1, i => by rw [List.replicate_succ]; simp only [zL]; exact zL_none Z n (i + 1)
theorem zent_len : ∀ (as : List zV) (n : Nat), zwords as ≤ n → (zent as n).length = n
  | [], n, _ => by simp [zent]
  | .inl a :: as, 0, h => by simp [zwords] at h
  | .inl a :: as, n + 1, h => by simp [zwords] at h; simp [zent, zent_len as n h]
  | .inr (.inr a) :: as, 0, h => by simp [zwords] at h
  | .inr (.inr a) :: as, n + 1, h => by simp [zwords] at h; simp [zent, zent_len as n h]
  | .inr (.inl a) :: as, 0, h => by simp [zwords] at h
  | .inr (.inl a) :: as, 1, h => by simp [zwords] at h
  | .inr (.inl a) :: as, n + 2, h => by simp [zwords] at h; simp [zent, zent_len as n h]
theorem zent_L (Z : zX) : ∀ (as : List zV) (n i : Nat), zwords as ≤ n → zL Z i (zent as n) = lv_args i (as.map (zc Z))
  | [], n, i, _ => by simp only [zent]; rw [zL_none]; rfl
  | .inl a :: as, 0, _, h => by simp [zwords] at h
  | .inl a :: as, n + 1, i, h => by
    simp only [zwords] at h
    simp only [zent, zL, List.map_cons, lv_args]
    rw [zent_L Z as n (i + 1) (by omega)]
    simp [zc, Value.category]
  | .inr (.inr a) :: as, 0, _, h => by simp [zwords] at h
  | .inr (.inr a) :: as, n + 1, i, h => by
    simp only [zwords] at h
    simp only [zent, zL, List.map_cons, lv_args]
    rw [zent_L Z as n (i + 1) (by omega)]
    simp [zc, Value.category]
  | .inr (.inl a) :: as, 0, _, h => by simp [zwords] at h
  | .inr (.inl a) :: as, 1, _, h => by simp [zwords] at h
  | .inr (.inl a) :: as, n + 2, i, h => by
    simp only [zwords] at h
    simp only [zent, zL, List.map_cons, lv_args]
    rw [zent_L Z as n (i + 1 + 1) (by omega)]
    simp [zc, Value.category]
theorem zsl_len (Z : zX) : ∀ (as : List zV), (lg_sl (as.map (zc Z))).length = zwords as
  | [] => rfl
  | .inl a :: as => by simp only [List.map_cons, lg_sl, List.flatMap_cons, List.length_append, zwords]; rw [show (List.flatMap (fun v : Value => if v.category = 2 then [Slot.val v, Slot.second] else [Slot.val v]) (as.map (zc Z))) = lg_sl (as.map (zc Z)) from rfl, zsl_len Z as]; simp [zc, Value.category]; omega
  | .inr (.inr a) :: as => by simp only [List.map_cons, lg_sl, List.flatMap_cons, List.length_append, zwords]; rw [show (List.flatMap (fun v : Value => if v.category = 2 then [Slot.val v, Slot.second] else [Slot.val v]) (as.map (zc Z))) = lg_sl (as.map (zc Z)) from rfl, zsl_len Z as]; simp [zc, Value.category]; omega
  | .inr (.inl a) :: as => by simp only [List.map_cons, lg_sl, List.flatMap_cons, List.length_append, zwords]; rw [show (List.flatMap (fun v : Value => if v.category = 2 then [Slot.val v, Slot.second] else [Slot.val v]) (as.map (zc Z))) = lg_sl (as.map (zc Z)) from rfl, zsl_len Z as]; simp [zc, Value.category]; omega
def zTab (Z : zX) (F : zF) (own : String) (args : Array Value) (s : State) : Prop :=
  (∀ i ci k, zFf F i = some (ci, k) → zFieldOk own args s i ci k) ∧ (∀ i v, zFc F i = some v → zConstOk own args s i v) ∧ (∀ i v, zFs F i = some v → zStatOk Z own args s i v) ∧ (∀ r q, zFx F r = some q → zExtOk Z s r q) ∧ (∀ i r v, zFo F i r = some v → zObjOk Z own args s i r v)
def zrk (k : Nat) (ret : Option FieldType) : Prop := (k = 0 ∧ ret = none) ∨ (k = 1 ∧ ret = some .int) ∨ (k = 2 ∧ ret = some .boolean) ∨ (k = 3 ∧ ret = some .long) ∨ (k = 4 ∧ ∃ n, ret = some (.object n)) ∨ (k = 5 ∧ ret = some .byte)
def zcls (r : Nat) : Option Nat := match zSh[r]? with
  | some (.inl (ci, _)) => some ci
  | _ => if r = 100 ∨ r = 101 then some 99 else none
def zrcv (ci : Nat) (as : List zV) : Prop := match as with
  | .inr (.inr r) :: _ => zcls r = some ci
  | _ => False
def zgo (F : zF) (V : zN) (cc : ByteArray) (nL : Nat) : zT := fun as M post => zwords as ≤ nL ∧ zU F V cc post 0 (zent as nL) [] M
def zTw : List Cond := lw_tbl.filter goodWord
theorem zTw_in {w : Cond} (h : w ∈ lw_tbl) (hg : goodWord w = true) : w ∈ zTw := List.mem_filter.mpr ⟨h, hg⟩
theorem zTw_good {w : Cond} (h : w ∈ zTw) : (w.onTables && w.keeps) = true ∨ ∃ ty, w = .arrayClass ty := good_of_word (List.mem_filter.mp h).2
def zws (y : MethodName) (cc : ByteArray) (nL : Nat) (ret : Option FieldType) : List Cond := .code y cc nL ret :: zTw
theorem zmet {l : Launch} {y : MethodName} {cc : ByteArray} {nL : Nat} {ret : Option FieldType} {rm : Room} {Z : zX} {F : zF} {V : zN} (hy : plainName y.cls = true) (hF : ∀ (args : Array Value) (s : State), (∀ w ∈ zTw, w.before args s = true) → zE Z s s.heap → zTab Z F y.cls args s) (hk : zrk (zNr V) ret)
    (hV : ∀ (p : Program) (e : Env) (s : State) (m : MethodId) (args : Array Value) (below : List Frame) (meth : Method) (c : Code) (Q : State → Prop), CallFix p m c cc nL s args (zws y cc nL ret) y.cls → zKn Z s s.heap → ∀ i q, zNi V i = some q → zCallOk Z p l e rm s m args below meth c 0 0 Q nL cc i q) :
    zMet l y (zws y cc nL ret) rm Z (zgo F V cc nL) := by
  intro as M post hT
  refine Met.ofW (cc := cc) (maxL := nL) (ret := ret) hy rfl ?_
  intro p e s m args below meth c s₁ B hml hv
  obtain ⟨rfl, hP, hKn⟩ := hv
  have hx := B.exec
  have hb := B.bytes
  have hr := B.returns
  have hts := atoms_spec (ws := zws y cc nL ret) B.pre
  have hown : s.vm.findClass y.cls = some m.cls := findClass_of_methodNamed B.named
  have hlocks := B.notSynchronized
  have hE := hF ((as.map (zc Z)).toArray) s (fun w h => hts w (List.mem_cons_of_mem _ h)) hKn.2.2
  have X : zMach Z F y.cls cc p s m ((as.map (zc Z)).toArray) c := ⟨hx, hb, hown, hKn.1, hKn.2.1, hE.1, hE.2.1, hE.2.2.1, hE.2.2.2.1, hE.2.2.2.2⟩
  have hl := lv_entry (as.map (zc Z)) (n := nL) (by rw [zsl_len]; exact hT.1)
  rw [lg_entry_eq]
  rw [← zent_L Z as nL 0 hT.1] at hl
  refine zsound (Rp := post) X (hV p e s m _ below meth c _ ⟨hx, hb, hml, hown, hts⟩ hKn) ?_ hT.2 (zent_len as nL hT.1) s.heap [] _ hl hP va_S.rf
  intro pc la M' H locs hP' hS'
  have hq : ∀ (r : Option zV), post r M' → ∀ t : State, t.heap = H → s.WarmedH t.vm → zQc Z post ((as.map (zc Z)).toArray) s (.returned (r.map (zc Z))) t := fun r hr t ht _ => ⟨r, M', rfl, hr, by rw [ht]; exact hP', hS'.F ht⟩
  refine ⟨fun a d h1 h2 => ?_, fun a d h1 h2 => ?_, fun a d h1 h2 => ?_, fun d h1 h2 => ?_⟩
  · rcases hk with ⟨k, _⟩ | ⟨k, k2⟩ | ⟨k, k2⟩ | ⟨k, _⟩ | ⟨k, _⟩ | ⟨k, k2⟩
    · rw [k] at h1; omega
    · exact W.iret hx hb (hr.trans k2) (hq _ h2) hS'.2.2 d
    · have h3 : a = 0 ∨ a = 1 := by omega
      exact W.zret hx hb (hr.trans k2) (by rcases h3 with rfl | rfl <;> rfl) (hq _ h2) hS'.2.2 d
    · rw [k] at h1; omega
    · rw [k] at h1; omega
    · have h3 : a = 0 := by omega
      subst h3
      exact W.zret hx hb (hr.trans k2) rfl (hq _ h2) hS'.2.2 d
  · rcases hk with ⟨k, _⟩ | ⟨k, k2⟩ | ⟨k, k2⟩ | ⟨k, k2⟩ | ⟨k, _⟩ | ⟨k, _⟩
    · omega
    · omega
    · omega
    · exact W.lret hx hb (hr.trans k2) (hq _ h2) hS'.2.2 d
    · omega
    · omega
  · rcases hk with ⟨k, _⟩ | ⟨k, k2⟩ | ⟨k, k2⟩ | ⟨k, k2⟩ | ⟨k, n, k2⟩ | ⟨k, _⟩
    · omega
    · omega
    · omega
    · omega
    · exact W.aret hx hb (hr.trans k2) (Or.inl ⟨n, rfl⟩) (Or.inr ⟨_, rfl⟩) (hq _ h2) hS'.2.2 d
    · omega
  · rcases hk with ⟨k, k2⟩ | ⟨k, k2⟩ | ⟨k, k2⟩ | ⟨k, k2⟩ | ⟨k, n, k2⟩ | ⟨k, _⟩
    · exact W.vret hx hb (hr.trans k2) (hq _ h2) hS'.2.2 d
    · omega
    · omega
    · omega
    · omega
    · omega
section ZS4
variable {p : Program} {l : Launch} {e : Env} {R : Room} {s : State} {m : MethodId} {args : Array Value} {below : List Frame} {meth : Method} {c : Code} {cells slots : Nat} {Q : State → Prop} {H : Heap} {locs : List Loc}
variable {Z : zX} {cc : ByteArray} {own : String} {nL pc : Nat}
theorem zrun_go {la : Array Slot} {st0 rest : List Value} {a : Array Value} {post : zP} (hr : va_Run p l e R s m args below meth c H locs cells slots 0 0 (F0 m pc la st0) rest (zQc Z post a) (zA Z)) (hS : va_S (zA Z) s.heap H locs)
    (kk : ∀ (r : Option zV) (M : zM) (H1 : Heap) (locs1 : List Loc), post r M → va_P Z.1 vwCl (zw Z M) H1 → va_S (zA Z) s.heap H1 locs1 → W p l e R s m args below meth c H1 locs1 cells slots Q (F0 m (pc + 3) la ((r.map (zc Z)).toList ++ rest))) : W p l e R s m args below meth c H locs cells slots Q (F0 m pc la st0) := by
  intro T hT X
  obtain ⟨v, st₀, t, T', L, h0, X', hL, e1, e2, ⟨r, M, hv, hp, hb, hz, hk⟩, st⟩ := hr T hT X
  cases hv
  rw [h0] at hz hk
  obtain ⟨t2, a1, b1⟩ := kk r M T'.heap (locs ++ L) hp (by rw [e1]; exact hb)
    ⟨Nat.le_trans hS.1 (by rw [e1]; exact hz), fun q h1 h2 => by rw [e1, hk q (Nat.lt_of_lt_of_le h1 hS.1) h2]; exact hS.2.1 q h1 h2, fun q hq => by
      rcases List.mem_append.mp hq with h | h
      · exact hS.2.2 q h
      · exact hL q h⟩ T' rfl X'
  exact ⟨t2, st t2 a1, b1⟩
theorem zcat_sum (Z : zX) : ∀ st : List zV, ((st.map (zc Z)).map fun v => v.category).sum ≤ 2 * st.length
  | [] => by simp
  | v :: st => by
    have := zcat_sum Z st
    rcases v with a | a | a <;> simp [zc, Value.category] at this ⊢ <;> omega
theorem zans_go {b : Bool} {r : Option zV} {f : List zV → Prop} (q : zans b r f) : f r.toList := by
  unfold zans at q
  split at q
  · exact q
  · exact q
  · exact False.elim q
theorem zcallS {i n : Nat} {hr : Bool} {y : MethodName} {bytes : ByteArray} {maxL : Nat} {ret : Option FieldType} {rm : Room} {T : zT} {y0 : MethodName} {ret0 : Option FieldType} (hM : zMet l y (zws y bytes maxL ret) rm Z T) (S : CallFix p m c cc nL s args (zws y0 cc nL ret0) own) (hKn : zKn Z s s.heap)
    (w1 : .methodLink own i y ∈ zTw) (w2 : .static y ∈ zTw) (w3 : .initialized y.cls ∈ zTw) (w4 : .code y bytes maxL ret ∈ zTw) (hd : y.cls ≠ "java/lang/invoke/MethodHandle" ∧ y.cls ≠ "java/lang/invoke/VarHandle" ∧ (parseMethodDescriptor y.desc).map (fun d => d.parameters.length) = some n) (hR : rm.frames + 1 ≤ R.frames ∧ 8 + (maxL + 11) + rm.locals ≤ R.locals) (hrc : rm.cells = 0) (hrs : rm.slots = 0) (hcs : cells ≤ R.cells ∧ slots ≤ R.slots) :
    zCallOk Z p l e R s m args below meth c cells slots Q nL cc i (true, n, hr, T) := by
  intro pc ls as st M post d hlen hst hT kk hn H locs la hl hP hS
  have hG : GoodIn (zws y0 cc nL ret0) (va_wsS own i y (zws y bytes maxL ret)) := by
    intro w hw
    have : w ∈ zTw := by
      rcases List.mem_append.mp hw with hw | hw
      · rcases List.mem_cons.mp hw with rfl | hw
        · exact w1
        · rcases List.mem_cons.mp hw with rfl | hw
          · exact w2
          · rcases List.mem_cons.mp hw with rfl | hw
            · exact w3
            · cases hw
      · rcases List.mem_cons.mp hw with rfl | hw
        · exact w4
        · exact hw
    exact ⟨List.mem_cons_of_mem _ this, zTw_good this⟩
  have cw := va_cwS (R := R) (s := s) (args := args) (mc := 0) (ms := 0) n S.2.2.2.2 hG rfl hrc hrs hd hR
  have hsum := zcat_sum Z st
  refine zrun_go (va_runS (As := as.map (zc Z)) (rest := st.map (zc Z)) S (hM as M post hT) cw ⟨zPc_blind, fun U hU hW => ⟨rfl, by rw [hU]; exact hP, by rw [hU]; exact zKn_to hKn hW (fun a h1 h2 => hS.2.1 a h1 h2)⟩⟩ rfl (by rw [List.length_map]; exact hlen) hl.1 (by simp) (lv_room (by omega)) d hcs) hS (fun r M1 H1 locs1 hp hP1 hS1 => ?_)
  have := zans_go (kk r M1 hp) hn H1 locs1 la hl hP1 hS1
  rw [List.map_append] at this
  cases r <;> exact this
theorem zrecv_ok {ci r : Nat} {C : String} {M : zM} (hKn : zKn Z s s.heap) (hP : va_P Z.1 vwCl (zw Z M) H) (hS : va_S (zA Z) s.heap H locs) (h : zcls r = some ci) (hC : (ci = 99 ∧ C = "java/lang/String") ∨ (vwCl[ci]?).map (fun q => q.1) = some C) : ∃ cell : Cell, H[zad Z r]? = some cell ∧ cell.vm.isStatics = false ∧ s.vm.findClass C = some cell.cls := by
  unfold zcls at h
  split at h
  · rename_i c2 fs hs
    cases h
    rcases hC with ⟨rfl, _⟩ | hC
    · exfalso
      have h1 := List.all_eq_true.mp zkinds_ok _ (List.mem_of_getElem? hs)
      simp at h1
    · cases hq : vwCl[ci]? with
      | none => rw [hq] at hC; cases hC
      | some q =>
        rw [hq] at hC
        cases hC
        have h3 := zw_get (Z := Z) (M := M) hs
        simp only [zcell] at h3
        exact va_recv hKn.1 hP hq h3
  · split at h
    · rename_i hr
      cases h
      rcases hC with ⟨_, rfl⟩ | hC
      · have hE := hKn.2.2
        unfold zE at hE
        rcases hr with rfl | rfl
        · obtain ⟨cell, h1, h2, h3, -⟩ := (hE.2.2.2.2.2.2.2.1).kept hS.2.1
          exact ⟨cell, h1, h2, h3⟩
        · obtain ⟨cell, h1, h2, h3, -⟩ := (hE.2.2.2.2.2.2.2.2.1).kept hS.2.1
          exact ⟨cell, h1, h2, h3⟩
      · simp at hC
    · cases h
theorem zcallV {i n ci : Nat} {hr : Bool} {y : MethodName} {bytes : ByteArray} {maxL : Nat} {ret : Option FieldType} {rm : Room} {T : zT} {y0 : MethodName} {ret0 : Option FieldType} (hM : zMet l y (zws y bytes maxL ret) rm Z T) (S : CallFix p m c cc nL s args (zws y0 cc nL ret0) own) (hKn : zKn Z s s.heap) (hC : (ci = 99 ∧ y.cls = "java/lang/String") ∨ (vwCl[ci]?).map (fun q => q.1) = some y.cls)
    (w1 : .methodLink own i y ∈ zTw) (w2 : .instanceMethod y ∈ zTw) (w3 : .selects y.cls y y ∈ zTw) (w5 : .initialized y.cls ∈ zTw) (w4 : .code y bytes maxL ret ∈ zTw) (hd : y.cls ≠ "java/lang/invoke/MethodHandle" ∧ y.cls ≠ "java/lang/invoke/VarHandle" ∧ (parseMethodDescriptor y.desc).map (fun d => d.parameters.length) = some n) (hR : rm.frames + 1 ≤ R.frames ∧ 8 + (maxL + 11) + rm.locals ≤ R.locals) (hrc : rm.cells = 0) (hrs : rm.slots = 0) (hcs : cells ≤ R.cells ∧ slots ≤ R.slots) :
    zCallOk Z p l e R s m args below meth c cells slots Q nL cc i (false, n + 1, hr, fun as M post => zrcv ci as ∧ T as M post) := by
  intro pc ls as st M post d hlen hst hT kk hn H locs la hl hP hS
  obtain ⟨hrv, hT⟩ := hT
  match as, hlen, hrv, hT with
  | .inr (.inr b) :: as, hlen, hrv, hT =>
    have hG : GoodIn (zws y0 cc nL ret0) (wsV own i y.cls y (zws y bytes maxL ret)) := by
      intro w hw
      have : w ∈ zTw := by
        rcases List.mem_append.mp hw with hw | hw
        · rcases List.mem_cons.mp hw with rfl | hw
          · exact w1
          · rcases List.mem_cons.mp hw with rfl | hw
            · exact w2
            · rcases List.mem_cons.mp hw with rfl | hw
              · exact w3
              · rcases List.mem_cons.mp hw with rfl | hw
                · exact w5
                · cases hw
        · rcases List.mem_cons.mp hw with rfl | hw
          · exact w4
          · exact hw
      exact ⟨List.mem_cons_of_mem _ this, zTw_good this⟩
    have cw := cwV (R := R) (s := s) (args := args) (mc := 0) (ms := 0) n S.2.2.2.2 hG rfl hrc hrs ⟨rfl, hd⟩ hR
    have hsum := zcat_sum Z st
    refine zrun_go (va_runV (b := zad Z b) (As := as.map (zc Z)) (rest := st.map (zc Z)) S (hM _ M post hT) cw ⟨zPc_blind, zrecv_ok hKn hP hS hrv hC, fun U hU hW => ⟨rfl, by rw [hU]; exact hP, by rw [hU]; exact zKn_to hKn hW (fun a h1 h2 => hS.2.1 a h1 h2)⟩⟩ rfl (by rw [List.length_map]; simpa using hlen) hl.1 (by simp [zc]) (lv_room (by omega)) d hcs) hS (fun r M1 H1 locs1 hp hP1 hS1 => ?_)
    have := zans_go (kk r M1 hp) hn H1 locs1 la hl hP1 hS1
    rw [List.map_append] at this
    cases r <;> exact this
end ZS4
