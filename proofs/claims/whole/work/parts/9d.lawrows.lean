section ZL
variable {p : Program} {l : Launch} {e : Env} {R : Room} {s : State} {m : MethodId} {args : Array Value} {below : List Frame} {meth : Method} {c : Code} {cells slots : Nat} {Q : State → Prop} {H : Heap} {locs : List Loc}
variable {Z : zX} {cc : ByteArray} {own : String} {nL pc : Nat}
theorem zcallVL {i n ci : Nat} {hr : Bool} {y : MethodName} {bytes : ByteArray} {maxL : Nat} {ret : Option FieldType} {rm : Room} {T : zT} (hM : zMet l y (zws y bytes maxL ret) rm Z T) (S : CallFix p m c cc nL s args zTw own) (hKn : zKn Z s s.heap) (hC : (ci = 99 ∧ y.cls = "java/lang/String") ∨ (vwCl[ci]?).map (fun q => q.1) = some y.cls)
    (w1 : .methodLink own i y ∈ zTw) (w2 : .instanceMethod y ∈ zTw) (w3 : .selects y.cls y y ∈ zTw) (w5 : .initialized y.cls ∈ zTw) (w4 : .code y bytes maxL ret ∈ zTw) (hd : y.cls ≠ "java/lang/invoke/MethodHandle" ∧ y.cls ≠ "java/lang/invoke/VarHandle" ∧ (parseMethodDescriptor y.desc).map (fun d => d.parameters.length) = some n) (hR : rm.frames + 1 ≤ R.frames ∧ 8 + (maxL + 11) + rm.locals ≤ R.locals) (hrc : rm.cells = 0) (hrs : rm.slots = 0) (hcs : cells ≤ R.cells ∧ slots ≤ R.slots) :
    zCallOk Z p l e R s m args below meth c cells slots Q nL cc i (false, n + 1, hr, zv ci T) := by
  intro pc ls as st M post d hlen hst hT kk hn H locs la hl hP hS
  obtain ⟨hrv, hT⟩ := hT
  match as, hlen, hrv, hT with
  | .inr (.inr b) :: as, hlen, hrv, hT =>
    have hG : GoodIn zTw (wsV own i y.cls y (zws y bytes maxL ret)) := by
      intro w hw
      have : w ∈ zTw := by
        rcases List.mem_append.mp hw with hw | hw
        · rcases List.mem_cons.mp hw with rfl | hw
          · exact w1
          · rcases List.mem_cons.mp hw with rfl | hw
            · exact w2
            · rcases List.mem_cons.mp hw with rfl | hw
              · exact w3
              · rcases List.mem_cons.mp hw with rfl | hw
                · exact w5
                · cases hw
        · rcases List.mem_cons.mp hw with rfl | hw
          · exact w4
          · exact hw
      exact ⟨this, zTw_good this⟩
    have cw := cwV (R := R) (s := s) (args := args) (mc := 0) (ms := 0) n S.2.2.2.2 hG rfl hrc hrs ⟨rfl, hd⟩ hR
    have hsum := zcat_sum Z st
    refine zrun_go (va_runV (b := zad Z b) (As := as.map (zc Z)) (rest := st.map (zc Z)) S (hM _ M post hT) cw ⟨zPc_blind, zrecv_ok hKn hP hS hrv hC, fun U hU hW => ⟨rfl, by rw [hU]; exact hP, by rw [hU]; exact zKn_to hKn hW (fun a h1 h2 => hS.2.1 a h1 h2)⟩⟩ rfl (by rw [List.length_map]; simpa using hlen) hl.1 (by simp [zc]) (lv_room (by omega)) d hcs) hS (fun r M1 H1 locs1 hp hP1 hS1 => ?_)
    have := zans_go (kk r M1 hp) hn H1 locs1 la hl hP1 hS1
    rw [List.map_append] at this
    cases r <;> exact this
end ZL
def znorm (r : Option zV) : Option zV := match r with
  | some (.inl a) => some (.inl (Int32.ofInt a).toInt)
  | some (.inr (.inl a)) => some (.inr (.inl (Int64.ofInt a).toInt))
  | x => x
def znm (T : zT) : zT := fun as M post => T as M (fun r M' => post (znorm r) M')
theorem znorm_c {Z : zX} (r : Option zV) : (znorm r).map (zc Z) = r.map (zc Z) := by
  rcases r with _ | a | a | a
  · rfl
  · show some (Value.int (Int32.ofInt (Int32.ofInt a).toInt)) = some (Value.int (Int32.ofInt a))
    rw [Int32.ofInt_toInt]
  · show some (Value.long (Int64.ofInt (Int64.ofInt a).toInt)) = some (Value.long (Int64.ofInt a))
    rw [Int64.ofInt_toInt]
  · rfl
theorem znm_met {l : Launch} {y : MethodName} {ws : List Cond} {rm : Room} {Z : zX} {T : zT} (h : zMet l y ws rm Z T) : zMet l y ws rm Z (znm T) := by
  intro as M post hT
  have key : ∀ a st o t, zQc Z (fun r M' => post (znorm r) M') a st o t → zQc Z post a st o t := fun a st o t ⟨r, M', h1, h2, h3, h4⟩ => ⟨znorm r, M', by rw [znorm_c]; exact h1, h2, h3, h4⟩
  intro p e h1 h2 h3 s m a b h4 h5 h6 h7
  obtain ⟨n, o, q1, q2, q3, q4, q5⟩ := h as M _ hT p e h1 h2 h3 s m a b h4 h5 h6 h7
  exact ⟨n, o, q1, q2, q3, key _ _ _ _ q4, q5⟩
theorem zcvn {ci : Nat} {T : zT} {as : List zV} {M : zM} {f : zV → zM → Prop} (h : zrcv ci as) (q : T as M (fun r M' => ∃ v, znorm r = some v ∧ f v M')) : zcv (zv ci (znm T)) as M f := ⟨fun r M' => ∃ v, r = some v ∧ f v M', ⟨h, q⟩, fun _ _ q => q⟩
def fL (L : Nat) (xs : Int → Int) : zF := (fun _ => none, fun _ => none, fun _ => none, fun r => if r = 105 then some (0, L, xs) else none, fun _ _ => none)
theorem hL_r {L : Nat} {xs : Int → Int} {M : zM} {i : Int} {g : Int → Prop} : zread (fL L xs) 0 105 M i g ↔ ((0 ≤ i ∧ i < L) ∧ g (xs i)) := ⟨fun h => h.2, fun h => ⟨rfl, h⟩⟩
theorem hL_l {L : Nat} {xs : Int → Int} {g : Int → Prop} : zlenof (fL L xs) 105 g ↔ g L := Iff.rfl
def vL : zN := (zas [(13, (false, 3, true, zv 7 (znm tX7_type))), (17, (false, 3, true, zv 8 (znm tX8_type))), (18, (false, 2, true, zv 7 (znm tX7_wipe))), (22, (false, 2, true, zv 8 (znm tX8_wipe))), (23, (false, 2, true, zv 7 (znm tX7_undo))), (26, (false, 2, true, zv 8 (znm tX8_undo))), (27, (false, 2, true, zv 7 (znm tX7_fault))), (30, (false, 2, true, zv 8 (znm tX8_fault))), (31, (false, 3, true, zv 7 (znm tX7_member))), (34, (false, 3, true, zv 8 (znm tX8_member))), (35, (false, 3, true, zv 7 (znm tX7_cow))), (38, (false, 3, true, zv 8 (znm tX8_cow))), (39, (false, 4, true, zv 7 (znm tX7_feed))), (43, (false, 4, true, zv 8 (znm tX8_feed))), (44, (false, 1, true, zv 7 (znm tX7_back))), (48, (false, 1, true, zv 8 (znm tX8_back))), (49, (false, 2, true, zv 7 (znm tX7_read))), (52, (false, 2, true, zv 8 (znm tX8_read))), (53, (false, 5, true, zv 7 (znm tX7_at))), (57, (false, 5, true, zv 8 (znm tX8_at))), (58, (false, 4, true, zv 7 (znm tX7_able))), (61, (false, 4, true, zv 8 (znm tX8_able))), (62, (false, 4, true, zv 7 (znm tX7_house))), (65, (false, 4, true, zv 8 (znm tX8_house))), (66, (false, 2, true, zv 7 (znm tX7_pusey))), (69, (false, 2, true, zv 8 (znm tX8_pusey))), (70, (false, 1, true, zv 7 (znm tX7_weaned))), (73, (false, 1, true, zv 8 (znm tX8_weaned))), (74, (false, 2, true, zv 7 (znm tX7_says))), (77, (false, 2, true, zv 8 (znm tX8_says))), (78, (false, 4, true, zv 7 (znm tX7_power))), (82, (false, 4, true, zv 8 (znm tX8_power))), (83, (false, 5, true, zv 7 (znm tX7_rear))), (86, (false, 5, true, zv 8 (znm tX8_rear))), (87, (false, 4, true, zv 7 (znm tX7_carry))), (90, (false, 4, true, zv 8 (znm tX8_carry))), (91, (false, 2, true, zv 7 (znm tX7_spare))), (94, (false, 2, true, zv 8 (znm tX8_spare))), (95, (false, 5, true, zv 7 (znm tX7_seen))), (98, (false, 5, true, zv 8 (znm tX8_seen))), (99, (false, 1, true, zv 7 (znm tX7_forget))), (102, (false, 1, true, zv 8 (znm tX8_forget))), (103, (false, 1, true, zv 7 (znm tX7_never))), (106, (false, 1, true, zv 8 (znm tX8_never))), (107, (false, 2, true, zv 7 (znm tX7_sort))), (110, (false, 2, true, zv 8 (znm tX8_sort))), (111, (false, 3, true, zv 7 (znm tX7_first))), (114, (false, 3, true, zv 8 (znm tX8_first))), (115, (false, 3, true, zv 7 (znm tX7_ask))), (118, (false, 3, true, zv 8 (znm tX8_ask))), (119, (false, 5, true, zv 7 (znm tX7_cream))), (123, (false, 5, true, zv 8 (znm tX8_cream))), (124, (false, 4, true, zv 7 (znm tX7_years))), (127, (false, 4, true, zv 8 (znm tX8_years))), (128, (false, 4, true, zv 7 (znm tX7_sheet))), (131, (false, 4, true, zv 8 (znm tX8_sheet))), (132, (false, 2, true, zv 7 (znm tX7_lose))), (135, (false, 2, true, zv 8 (znm tX8_lose))), (136, (false, 5, true, zv 7 (znm tX7_put))), (139, (false, 5, true, zv 8 (znm tX8_put))), (140, (false, 4, true, zv 7 (znm tX7_get))), (143, (false, 4, true, zv 8 (znm tX8_get))), (144, (false, 6, true, zv 7 (znm tX7_copy))), (148, (false, 6, true, zv 8 (znm tX8_copy))), (149, (false, 4, true, zv 7 (znm tX7_write))), (152, (false, 4, true, zv 8 (znm tX8_write))), (153, (false, 2, true, zv 7 (znm tX7_count))), (156, (false, 2, true, zv 8 (znm tX8_count))), (157, (false, 1, true, zv 7 (znm tX7_digest))), (161, (false, 1, true, zv 8 (znm tX8_digest)))], 2)
def uL (L : Nat) (xs : Int → Int) (R : zP) : zK := zU (fL L xs) vL code R
theorem dL_18 : decode code 18 = .ok (.iload_n 3, 1) := by decide +kernel
theorem rL_18 {L : Nat} {xs : Int → Int} {R : zP} {x0 x1 x2 : Option zV} {st : List zV} {M : zM} {a : Int} : uL L xs R 18 [x0, x1, x2, some (.inl a)] st M ↔ uL L xs R 19 [x0, x1, x2, some (.inl a)] (.inl a :: st) M := zU_step dL_18 (Or.inl rfl)
theorem dL_19 : decode code 19 = .ok (.aload_n 0, 1) := by decide +kernel
theorem rL_19 {L : Nat} {xs : Int → Int} {R : zP} {x1 x2 x3 : Option zV} {st : List zV} {M : zM} {a : Nat} : uL L xs R 19 [some (.inr (.inr a)), x1, x2, x3] st M ↔ uL L xs R 20 [some (.inr (.inr a)), x1, x2, x3] (.inr (.inr a) :: st) M := zU_step dL_19 (Or.inl rfl)
theorem dL_20 : decode code 20 = .ok (.arraylength, 1) := by decide +kernel
theorem rL_20 {L : Nat} {xs : Int → Int} {R : zP} {x0 x1 x2 x3 : Option zV} {st : List zV} {M : zM} {r : Nat} : uL L xs R 20 [x0, x1, x2, x3] (.inr (.inr r) :: st) M ↔ zlenof (fL L xs) r (fun v => uL L xs R 21 [x0, x1, x2, x3] (.inl v :: st) M) := zU_step dL_20 (Or.inl rfl)
theorem dL_21 : decode code 21 = .ok (.bipush 6, 2) := by decide +kernel
theorem rL_21 {L : Nat} {xs : Int → Int} {R : zP} {x0 x1 x2 x3 : Option zV} {st : List zV} {M : zM} : uL L xs R 21 [x0, x1, x2, x3] st M ↔ uL L xs R 23 [x0, x1, x2, x3] (.inl (6) :: st) M := Iff.trans (zU_step dL_21 (Or.inl rfl)) ⟨fun h => h.2, fun h => ⟨by decide, h⟩⟩
theorem dL_23 : decode code 23 = .ok (.isub, 1) := by decide +kernel
theorem rL_23 {L : Nat} {xs : Int → Int} {R : zP} {x0 x1 x2 x3 : Option zV} {st : List zV} {M : zM} {a b : Int} : uL L xs R 23 [x0, x1, x2, x3] (.inl b :: .inl a :: st) M ↔ uL L xs R 24 [x0, x1, x2, x3] (.inl (a - b) :: st) M := zU_step dL_23 (Or.inl rfl)
theorem dL_24 : decode code 24 = .ok (.if_icmp .gt 1348, 3) := by decide +kernel
theorem rL_24 {L : Nat} {xs : Int → Int} {R : zP} {x0 x1 x2 x3 : Option zV} {st : List zV} {M : zM} {a b : Int} : uL L xs R 24 [x0, x1, x2, x3] (.inl b :: .inl a :: st) M ↔ ((zIR a ∧ zIR b) ∧ if b < a then uL L xs R 1372 [x0, x1, x2, x3] st M else uL L xs R 27 [x0, x1, x2, x3] st M) := Iff.trans (zU_step dL_24 (Or.inl rfl)) ⟨fun h => ⟨⟨h.1.1, h.1.2.1⟩, (zite (c := b < a)).mpr h.2⟩, fun h => ⟨⟨h.1.1, h.1.2, by decide⟩, (zite (c := b < a)).mp h.2⟩⟩
theorem dL_27 : decode code 27 = .ok (.aload_n 0, 1) := by decide +kernel
theorem rL_27 {L : Nat} {xs : Int → Int} {R : zP} {x1 x2 x3 : Option zV} {st : List zV} {M : zM} {a : Nat} : uL L xs R 27 [some (.inr (.inr a)), x1, x2, x3] st M ↔ uL L xs R 28 [some (.inr (.inr a)), x1, x2, x3] (.inr (.inr a) :: st) M := zU_step dL_27 (Or.inl rfl)
theorem dL_28 : decode code 28 = .ok (.iload_n 3, 1) := by decide +kernel
theorem rL_28 {L : Nat} {xs : Int → Int} {R : zP} {x0 x1 x2 : Option zV} {st : List zV} {M : zM} {a : Int} : uL L xs R 28 [x0, x1, x2, some (.inl a)] st M ↔ uL L xs R 29 [x0, x1, x2, some (.inl a)] (.inl a :: st) M := zU_step dL_28 (Or.inl rfl)
theorem dL_29 : decode code 29 = .ok (.iaload, 1) := by decide +kernel
theorem rL_29 {L : Nat} {xs : Int → Int} {R : zP} {x0 x1 x2 x3 : Option zV} {st : List zV} {M : zM} {i : Int} {r : Nat} : uL L xs R 29 [x0, x1, x2, x3] (.inl i :: .inr (.inr r) :: st) M ↔ zread (fL L xs) 0 r M i (fun v => uL L xs R 30 [x0, x1, x2, x3] (.inl v :: st) M) := zU_step dL_29 (Or.inl rfl)
theorem dL_30 : decode code 30 = .ok (.bipush 63, 2) := by decide +kernel
theorem rL_30 {L : Nat} {xs : Int → Int} {R : zP} {x0 x1 x2 x3 : Option zV} {st : List zV} {M : zM} : uL L xs R 30 [x0, x1, x2, x3] st M ↔ uL L xs R 32 [x0, x1, x2, x3] (.inl (63) :: st) M := Iff.trans (zU_step dL_30 (Or.inl rfl)) ⟨fun h => h.2, fun h => ⟨by decide, h⟩⟩
theorem dL_32 : decode code 32 = .ok (.iand, 1) := by decide +kernel
theorem rL_32 {L : Nat} {xs : Int → Int} {R : zP} {x0 x1 x2 x3 : Option zV} {st : List zV} {M : zM} {a b : Int} : uL L xs R 32 [x0, x1, x2, x3] (.inl b :: .inl a :: st) M ↔ uL L xs R 33 [x0, x1, x2, x3] (.inl (zand a b) :: st) M := zU_step dL_32 (Or.inl rfl)
theorem dL_33 : decode code 33 = .ok (.tableswitch 1333 0 34 #[155, 188, 211, 234, 257, 290, 323, 366, 379, 402, 455, 498, 541, 564, 577, 600, 644, 697, 740, 763, 816, 829, 842, 865, 898, 931, 985, 1028, 1071, 1094, 1147, 1190, 1253, 1296, 1319], 155) := by decide +kernel
theorem rL_33 {L : Nat} {xs : Int → Int} {R : zP} {x0 x1 x2 x3 : Option zV} {st : List zV} {M : zM} {a : Int} (hz : zIR a) (ho : (a < 0 ∨ 34 < a) → uL L xs R 1366 [x0, x1, x2, x3] st M) (hc : (a = 0 → uL L xs R 188 [x0, x1, x2, x3] st M) ∧ (a = 1 → uL L xs R 221 [x0, x1, x2, x3] st M) ∧ (a = 2 → uL L xs R 244 [x0, x1, x2, x3] st M) ∧ (a = 3 → uL L xs R 267 [x0, x1, x2, x3] st M) ∧ (a = 4 → uL L xs R 290 [x0, x1, x2, x3] st M) ∧ (a = 5 → uL L xs R 323 [x0, x1, x2, x3] st M) ∧ (a = 6 → uL L xs R 356 [x0, x1, x2, x3] st M) ∧ (a = 7 → uL L xs R 399 [x0, x1, x2, x3] st M) ∧ (a = 8 → uL L xs R 412 [x0, x1, x2, x3] st M) ∧ (a = 9 → uL L xs R 435 [x0, x1, x2, x3] st M) ∧ (a = 10 → uL L xs R 488 [x0, x1, x2, x3] st M) ∧ (a = 11 → uL L xs R 531 [x0, x1, x2, x3] st M) ∧ (a = 12 → uL L xs R 574 [x0, x1, x2, x3] st M) ∧ (a = 13 → uL L xs R 597 [x0, x1, x2, x3] st M) ∧ (a = 14 → uL L xs R 610 [x0, x1, x2, x3] st M) ∧ (a = 15 → uL L xs R 633 [x0, x1, x2, x3] st M) ∧ (a = 16 → uL L xs R 677 [x0, x1, x2, x3] st M) ∧ (a = 17 → uL L xs R 730 [x0, x1, x2, x3] st M) ∧ (a = 18 → uL L xs R 773 [x0, x1, x2, x3] st M) ∧ (a = 19 → uL L xs R 796 [x0, x1, x2, x3] st M) ∧ (a = 20 → uL L xs R 849 [x0, x1, x2, x3] st M) ∧ (a = 21 → uL L xs R 862 [x0, x1, x2, x3] st M) ∧ (a = 22 → uL L xs R 875 [x0, x1, x2, x3] st M) ∧ (a = 23 → uL L xs R 898 [x0, x1, x2, x3] st M) ∧ (a = 24 → uL L xs R 931 [x0, x1, x2, x3] st M) ∧ (a = 25 → uL L xs R 964 [x0, x1, x2, x3] st M) ∧ (a = 26 → uL L xs R 1018 [x0, x1, x2, x3] st M) ∧ (a = 27 → uL L xs R 1061 [x0, x1, x2, x3] st M) ∧ (a = 28 → uL L xs R 1104 [x0, x1, x2, x3] st M) ∧ (a = 29 → uL L xs R 1127 [x0, x1, x2, x3] st M) ∧ (a = 30 → uL L xs R 1180 [x0, x1, x2, x3] st M) ∧ (a = 31 → uL L xs R 1223 [x0, x1, x2, x3] st M) ∧ (a = 32 → uL L xs R 1286 [x0, x1, x2, x3] st M) ∧ (a = 33 → uL L xs R 1329 [x0, x1, x2, x3] st M) ∧ (a = 34 → uL L xs R 1352 [x0, x1, x2, x3] st M)) : uL L xs R 33 [x0, x1, x2, x3] (.inl a :: st) M := by
  refine (zU_step dL_33 (Or.inr rfl)).mpr ⟨hz, ?_⟩
  by_cases e : a < 0 ∨ 34 < a
  · simp only [zsw, if_pos e, zopt]
    exact ⟨by decide, ho e⟩
  · have e2 : a = 0 ∨ a = 1 ∨ a = 2 ∨ a = 3 ∨ a = 4 ∨ a = 5 ∨ a = 6 ∨ a = 7 ∨ a = 8 ∨ a = 9 ∨ a = 10 ∨ a = 11 ∨ a = 12 ∨ a = 13 ∨ a = 14 ∨ a = 15 ∨ a = 16 ∨ a = 17 ∨ a = 18 ∨ a = 19 ∨ a = 20 ∨ a = 21 ∨ a = 22 ∨ a = 23 ∨ a = 24 ∨ a = 25 ∨ a = 26 ∨ a = 27 ∨ a = 28 ∨ a = 29 ∨ a = 30 ∨ a = 31 ∨ a = 32 ∨ a = 33 ∨ a = 34 := by omega
    rcases e2 with e2 | e2 | e2 | e2 | e2 | e2 | e2 | e2 | e2 | e2 | e2 | e2 | e2 | e2 | e2 | e2 | e2 | e2 | e2 | e2 | e2 | e2 | e2 | e2 | e2 | e2 | e2 | e2 | e2 | e2 | e2 | e2 | e2 | e2 | e2
    · subst e2
      exact ⟨by decide, hc.1 rfl⟩
    · subst e2
      exact ⟨by decide, hc.2.1 rfl⟩
    · subst e2
      exact ⟨by decide, hc.2.2.1 rfl⟩
    · subst e2
      exact ⟨by decide, hc.2.2.2.1 rfl⟩
    · subst e2
      exact ⟨by decide, hc.2.2.2.2.1 rfl⟩
    · subst e2
      exact ⟨by decide, hc.2.2.2.2.2.1 rfl⟩
    · subst e2
      exact ⟨by decide, hc.2.2.2.2.2.2.1 rfl⟩
    · subst e2
      exact ⟨by decide, hc.2.2.2.2.2.2.2.1 rfl⟩
    · subst e2
      exact ⟨by decide, hc.2.2.2.2.2.2.2.2.1 rfl⟩
    · subst e2
      exact ⟨by decide, hc.2.2.2.2.2.2.2.2.2.1 rfl⟩
    · subst e2
      exact ⟨by decide, hc.2.2.2.2.2.2.2.2.2.2.1 rfl⟩
    · subst e2
      exact ⟨by decide, hc.2.2.2.2.2.2.2.2.2.2.2.1 rfl⟩
    · subst e2
      exact ⟨by decide, hc.2.2.2.2.2.2.2.2.2.2.2.2.1 rfl⟩
    · subst e2
      exact ⟨by decide, hc.2.2.2.2.2.2.2.2.2.2.2.2.2.1 rfl⟩
    · subst e2
      exact ⟨by decide, hc.2.2.2.2.2.2.2.2.2.2.2.2.2.2.1 rfl⟩
    · subst e2
      exact ⟨by decide, hc.2.2.2.2.2.2.2.2.2.2.2.2.2.2.2.1 rfl⟩
    · subst e2
      exact ⟨by decide, hc.2.2.2.2.2.2.2.2.2.2.2.2.2.2.2.2.1 rfl⟩
    · subst e2
      exact ⟨by decide, hc.2.2.2.2.2.2.2.2.2.2.2.2.2.2.2.2.2.1 rfl⟩
    · subst e2
      exact ⟨by decide, hc.2.2.2.2.2.2.2.2.2.2.2.2.2.2.2.2.2.2.1 rfl⟩
    · subst e2
      exact ⟨by decide, hc.2.2.2.2.2.2.2.2.2.2.2.2.2.2.2.2.2.2.2.1 rfl⟩
    · subst e2
      exact ⟨by decide, hc.2.2.2.2.2.2.2.2.2.2.2.2.2.2.2.2.2.2.2.2.1 rfl⟩
    · subst e2
      exact ⟨by decide, hc.2.2.2.2.2.2.2.2.2.2.2.2.2.2.2.2.2.2.2.2.2.1 rfl⟩
    · subst e2
      exact ⟨by decide, hc.2.2.2.2.2.2.2.2.2.2.2.2.2.2.2.2.2.2.2.2.2.2.1 rfl⟩
    · subst e2
      exact ⟨by decide, hc.2.2.2.2.2.2.2.2.2.2.2.2.2.2.2.2.2.2.2.2.2.2.2.1 rfl⟩
    · subst e2
      exact ⟨by decide, hc.2.2.2.2.2.2.2.2.2.2.2.2.2.2.2.2.2.2.2.2.2.2.2.2.1 rfl⟩
    · subst e2
      exact ⟨by decide, hc.2.2.2.2.2.2.2.2.2.2.2.2.2.2.2.2.2.2.2.2.2.2.2.2.2.1 rfl⟩
    · subst e2
      exact ⟨by decide, hc.2.2.2.2.2.2.2.2.2.2.2.2.2.2.2.2.2.2.2.2.2.2.2.2.2.2.1 rfl⟩
    · subst e2
      exact ⟨by decide, hc.2.2.2.2.2.2.2.2.2.2.2.2.2.2.2.2.2.2.2.2.2.2.2.2.2.2.2.1 rfl⟩
    · subst e2
      exact ⟨by decide, hc.2.2.2.2.2.2.2.2.2.2.2.2.2.2.2.2.2.2.2.2.2.2.2.2.2.2.2.2.1 rfl⟩
    · subst e2
      exact ⟨by decide, hc.2.2.2.2.2.2.2.2.2.2.2.2.2.2.2.2.2.2.2.2.2.2.2.2.2.2.2.2.2.1 rfl⟩
    · subst e2
      exact ⟨by decide, hc.2.2.2.2.2.2.2.2.2.2.2.2.2.2.2.2.2.2.2.2.2.2.2.2.2.2.2.2.2.2.1 rfl⟩
    · subst e2
      exact ⟨by decide, hc.2.2.2.2.2.2.2.2.2.2.2.2.2.2.2.2.2.2.2.2.2.2.2.2.2.2.2.2.2.2.2.1 rfl⟩
    · subst e2
      exact ⟨by decide, hc.2.2.2.2.2.2.2.2.2.2.2.2.2.2.2.2.2.2.2.2.2.2.2.2.2.2.2.2.2.2.2.2.1 rfl⟩
    · subst e2
      exact ⟨by decide, hc.2.2.2.2.2.2.2.2.2.2.2.2.2.2.2.2.2.2.2.2.2.2.2.2.2.2.2.2.2.2.2.2.2.1 rfl⟩
    · subst e2
      exact ⟨by decide, hc.2.2.2.2.2.2.2.2.2.2.2.2.2.2.2.2.2.2.2.2.2.2.2.2.2.2.2.2.2.2.2.2.2.2 rfl⟩
theorem dL_188 : decode code 188 = .ok (.aload_n 1, 1) := by decide +kernel
theorem rL_188 {L : Nat} {xs : Int → Int} {R : zP} {x0 x2 x3 : Option zV} {st : List zV} {M : zM} {a : Nat} : uL L xs R 188 [x0, some (.inr (.inr a)), x2, x3] st M ↔ uL L xs R 189 [x0, some (.inr (.inr a)), x2, x3] (.inr (.inr a) :: st) M := zU_step dL_188 (Or.inl rfl)
theorem dL_189 : decode code 189 = .ok (.aload_n 0, 1) := by decide +kernel
theorem rL_189 {L : Nat} {xs : Int → Int} {R : zP} {x1 x2 x3 : Option zV} {st : List zV} {M : zM} {a : Nat} : uL L xs R 189 [some (.inr (.inr a)), x1, x2, x3] st M ↔ uL L xs R 190 [some (.inr (.inr a)), x1, x2, x3] (.inr (.inr a) :: st) M := zU_step dL_189 (Or.inl rfl)
theorem dL_190 : decode code 190 = .ok (.iload_n 3, 1) := by decide +kernel
theorem rL_190 {L : Nat} {xs : Int → Int} {R : zP} {x0 x1 x2 : Option zV} {st : List zV} {M : zM} {a : Int} : uL L xs R 190 [x0, x1, x2, some (.inl a)] st M ↔ uL L xs R 191 [x0, x1, x2, some (.inl a)] (.inl a :: st) M := zU_step dL_190 (Or.inl rfl)
theorem dL_191 : decode code 191 = .ok (.iconst 1, 1) := by decide +kernel
theorem rL_191 {L : Nat} {xs : Int → Int} {R : zP} {x0 x1 x2 x3 : Option zV} {st : List zV} {M : zM} : uL L xs R 191 [x0, x1, x2, x3] st M ↔ uL L xs R 192 [x0, x1, x2, x3] (.inl (1) :: st) M := zU_step dL_191 (Or.inl rfl)
theorem dL_192 : decode code 192 = .ok (.iadd, 1) := by decide +kernel
theorem rL_192 {L : Nat} {xs : Int → Int} {R : zP} {x0 x1 x2 x3 : Option zV} {st : List zV} {M : zM} {a b : Int} : uL L xs R 192 [x0, x1, x2, x3] (.inl b :: .inl a :: st) M ↔ uL L xs R 193 [x0, x1, x2, x3] (.inl (a + b) :: st) M := zU_step dL_192 (Or.inl rfl)
theorem dL_193 : decode code 193 = .ok (.iaload, 1) := by decide +kernel
theorem rL_193 {L : Nat} {xs : Int → Int} {R : zP} {x0 x1 x2 x3 : Option zV} {st : List zV} {M : zM} {i : Int} {r : Nat} : uL L xs R 193 [x0, x1, x2, x3] (.inl i :: .inr (.inr r) :: st) M ↔ zread (fL L xs) 0 r M i (fun v => uL L xs R 194 [x0, x1, x2, x3] (.inl v :: st) M) := zU_step dL_193 (Or.inl rfl)
theorem dL_194 : decode code 194 = .ok (.aload_n 0, 1) := by decide +kernel
theorem rL_194 {L : Nat} {xs : Int → Int} {R : zP} {x1 x2 x3 : Option zV} {st : List zV} {M : zM} {a : Nat} : uL L xs R 194 [some (.inr (.inr a)), x1, x2, x3] st M ↔ uL L xs R 195 [some (.inr (.inr a)), x1, x2, x3] (.inr (.inr a) :: st) M := zU_step dL_194 (Or.inl rfl)
theorem dL_195 : decode code 195 = .ok (.iload_n 3, 1) := by decide +kernel
theorem rL_195 {L : Nat} {xs : Int → Int} {R : zP} {x0 x1 x2 : Option zV} {st : List zV} {M : zM} {a : Int} : uL L xs R 195 [x0, x1, x2, some (.inl a)] st M ↔ uL L xs R 196 [x0, x1, x2, some (.inl a)] (.inl a :: st) M := zU_step dL_195 (Or.inl rfl)
theorem dL_196 : decode code 196 = .ok (.iconst 2, 1) := by decide +kernel
theorem rL_196 {L : Nat} {xs : Int → Int} {R : zP} {x0 x1 x2 x3 : Option zV} {st : List zV} {M : zM} : uL L xs R 196 [x0, x1, x2, x3] st M ↔ uL L xs R 197 [x0, x1, x2, x3] (.inl (2) :: st) M := zU_step dL_196 (Or.inl rfl)
theorem dL_197 : decode code 197 = .ok (.iadd, 1) := by decide +kernel
theorem rL_197 {L : Nat} {xs : Int → Int} {R : zP} {x0 x1 x2 x3 : Option zV} {st : List zV} {M : zM} {a b : Int} : uL L xs R 197 [x0, x1, x2, x3] (.inl b :: .inl a :: st) M ↔ uL L xs R 198 [x0, x1, x2, x3] (.inl (a + b) :: st) M := zU_step dL_197 (Or.inl rfl)
theorem dL_198 : decode code 198 = .ok (.iaload, 1) := by decide +kernel
theorem rL_198 {L : Nat} {xs : Int → Int} {R : zP} {x0 x1 x2 x3 : Option zV} {st : List zV} {M : zM} {i : Int} {r : Nat} : uL L xs R 198 [x0, x1, x2, x3] (.inl i :: .inr (.inr r) :: st) M ↔ zread (fL L xs) 0 r M i (fun v => uL L xs R 199 [x0, x1, x2, x3] (.inl v :: st) M) := zU_step dL_198 (Or.inl rfl)
theorem dL_199 : decode code 199 = .ok (.invokevirtual 13, 3) := by decide +kernel
theorem rL_199 {L : Nat} {xs : Int → Int} {R : zP} {x0 x1 x2 x3 : Option zV} {st : List zV} {M : zM} {a0 a1 a2 : zV} : uL L xs R 199 [x0, x1, x2, x3] (a2 :: a1 :: a0 :: st) M ↔ (st.length ≤ 4 ∧ zcv (zv 7 (znm tX7_type)) [a0, a1, a2] M (fun v M => uL L xs R 202 [x0, x1, x2, x3] (v :: st) M)) := Iff.trans (zU_step dL_199 (Or.inl rfl)) ⟨fun h => ⟨h.2.1, zcv_of h.2.2⟩, fun h => ⟨rfl, h.1, zcv_to h.2⟩⟩
theorem dL_202 : decode code 202 = .ok (.aload_n 2, 1) := by decide +kernel
theorem rL_202 {L : Nat} {xs : Int → Int} {R : zP} {x0 x1 x3 : Option zV} {st : List zV} {M : zM} {a : Nat} : uL L xs R 202 [x0, x1, some (.inr (.inr a)), x3] st M ↔ uL L xs R 203 [x0, x1, some (.inr (.inr a)), x3] (.inr (.inr a) :: st) M := zU_step dL_202 (Or.inl rfl)
theorem dL_203 : decode code 203 = .ok (.aload_n 0, 1) := by decide +kernel
theorem rL_203 {L : Nat} {xs : Int → Int} {R : zP} {x1 x2 x3 : Option zV} {st : List zV} {M : zM} {a : Nat} : uL L xs R 203 [some (.inr (.inr a)), x1, x2, x3] st M ↔ uL L xs R 204 [some (.inr (.inr a)), x1, x2, x3] (.inr (.inr a) :: st) M := zU_step dL_203 (Or.inl rfl)
theorem dL_204 : decode code 204 = .ok (.iload_n 3, 1) := by decide +kernel
theorem rL_204 {L : Nat} {xs : Int → Int} {R : zP} {x0 x1 x2 : Option zV} {st : List zV} {M : zM} {a : Int} : uL L xs R 204 [x0, x1, x2, some (.inl a)] st M ↔ uL L xs R 205 [x0, x1, x2, some (.inl a)] (.inl a :: st) M := zU_step dL_204 (Or.inl rfl)
theorem dL_205 : decode code 205 = .ok (.iconst 1, 1) := by decide +kernel
theorem rL_205 {L : Nat} {xs : Int → Int} {R : zP} {x0 x1 x2 x3 : Option zV} {st : List zV} {M : zM} : uL L xs R 205 [x0, x1, x2, x3] st M ↔ uL L xs R 206 [x0, x1, x2, x3] (.inl (1) :: st) M := zU_step dL_205 (Or.inl rfl)
theorem dL_206 : decode code 206 = .ok (.iadd, 1) := by decide +kernel
theorem rL_206 {L : Nat} {xs : Int → Int} {R : zP} {x0 x1 x2 x3 : Option zV} {st : List zV} {M : zM} {a b : Int} : uL L xs R 206 [x0, x1, x2, x3] (.inl b :: .inl a :: st) M ↔ uL L xs R 207 [x0, x1, x2, x3] (.inl (a + b) :: st) M := zU_step dL_206 (Or.inl rfl)
theorem dL_207 : decode code 207 = .ok (.iaload, 1) := by decide +kernel
theorem rL_207 {L : Nat} {xs : Int → Int} {R : zP} {x0 x1 x2 x3 : Option zV} {st : List zV} {M : zM} {i : Int} {r : Nat} : uL L xs R 207 [x0, x1, x2, x3] (.inl i :: .inr (.inr r) :: st) M ↔ zread (fL L xs) 0 r M i (fun v => uL L xs R 208 [x0, x1, x2, x3] (.inl v :: st) M) := zU_step dL_207 (Or.inl rfl)
theorem dL_208 : decode code 208 = .ok (.aload_n 0, 1) := by decide +kernel
theorem rL_208 {L : Nat} {xs : Int → Int} {R : zP} {x1 x2 x3 : Option zV} {st : List zV} {M : zM} {a : Nat} : uL L xs R 208 [some (.inr (.inr a)), x1, x2, x3] st M ↔ uL L xs R 209 [some (.inr (.inr a)), x1, x2, x3] (.inr (.inr a) :: st) M := zU_step dL_208 (Or.inl rfl)
theorem dL_209 : decode code 209 = .ok (.iload_n 3, 1) := by decide +kernel
theorem rL_209 {L : Nat} {xs : Int → Int} {R : zP} {x0 x1 x2 : Option zV} {st : List zV} {M : zM} {a : Int} : uL L xs R 209 [x0, x1, x2, some (.inl a)] st M ↔ uL L xs R 210 [x0, x1, x2, some (.inl a)] (.inl a :: st) M := zU_step dL_209 (Or.inl rfl)
theorem dL_210 : decode code 210 = .ok (.iconst 2, 1) := by decide +kernel
theorem rL_210 {L : Nat} {xs : Int → Int} {R : zP} {x0 x1 x2 x3 : Option zV} {st : List zV} {M : zM} : uL L xs R 210 [x0, x1, x2, x3] st M ↔ uL L xs R 211 [x0, x1, x2, x3] (.inl (2) :: st) M := zU_step dL_210 (Or.inl rfl)
theorem dL_211 : decode code 211 = .ok (.iadd, 1) := by decide +kernel
theorem rL_211 {L : Nat} {xs : Int → Int} {R : zP} {x0 x1 x2 x3 : Option zV} {st : List zV} {M : zM} {a b : Int} : uL L xs R 211 [x0, x1, x2, x3] (.inl b :: .inl a :: st) M ↔ uL L xs R 212 [x0, x1, x2, x3] (.inl (a + b) :: st) M := zU_step dL_211 (Or.inl rfl)
theorem dL_212 : decode code 212 = .ok (.iaload, 1) := by decide +kernel
theorem rL_212 {L : Nat} {xs : Int → Int} {R : zP} {x0 x1 x2 x3 : Option zV} {st : List zV} {M : zM} {i : Int} {r : Nat} : uL L xs R 212 [x0, x1, x2, x3] (.inl i :: .inr (.inr r) :: st) M ↔ zread (fL L xs) 0 r M i (fun v => uL L xs R 213 [x0, x1, x2, x3] (.inl v :: st) M) := zU_step dL_212 (Or.inl rfl)
theorem dL_213 : decode code 213 = .ok (.invokevirtual 17, 3) := by decide +kernel
theorem rL_213 {L : Nat} {xs : Int → Int} {R : zP} {x0 x1 x2 x3 : Option zV} {st : List zV} {M : zM} {a0 a1 a2 : zV} : uL L xs R 213 [x0, x1, x2, x3] (a2 :: a1 :: a0 :: st) M ↔ (st.length ≤ 4 ∧ zcv (zv 8 (znm tX8_type)) [a0, a1, a2] M (fun v M => uL L xs R 216 [x0, x1, x2, x3] (v :: st) M)) := Iff.trans (zU_step dL_213 (Or.inl rfl)) ⟨fun h => ⟨h.2.1, zcv_of h.2.2⟩, fun h => ⟨rfl, h.1, zcv_to h.2⟩⟩
theorem dL_216 : decode code 216 = .ok (.if_icmp .eq 1150, 3) := by decide +kernel
theorem rL_216 {L : Nat} {xs : Int → Int} {R : zP} {x0 x1 x2 x3 : Option zV} {st : List zV} {M : zM} {a b : Int} : uL L xs R 216 [x0, x1, x2, x3] (.inl b :: .inl a :: st) M ↔ ((zIR a ∧ zIR b) ∧ if a = b then uL L xs R 1366 [x0, x1, x2, x3] st M else uL L xs R 219 [x0, x1, x2, x3] st M) := Iff.trans (zU_step dL_216 (Or.inl rfl)) ⟨fun h => ⟨⟨h.1.1, h.1.2.1⟩, (zite (c := a = b)).mpr h.2⟩, fun h => ⟨⟨h.1.1, h.1.2, by decide⟩, (zite (c := a = b)).mp h.2⟩⟩
theorem dL_219 : decode code 219 = .ok (.iconst 0, 1) := by decide +kernel
theorem rL_219 {L : Nat} {xs : Int → Int} {R : zP} {x0 x1 x2 x3 : Option zV} {st : List zV} {M : zM} : uL L xs R 219 [x0, x1, x2, x3] st M ↔ uL L xs R 220 [x0, x1, x2, x3] (.inl (0) :: st) M := zU_step dL_219 (Or.inl rfl)
theorem dL_220 : decode code 220 = .ok (.ireturn, 1) := by decide +kernel
theorem rL_220 {L : Nat} {xs : Int → Int} {R : zP} {x0 x1 x2 x3 : Option zV} {M : zM} {a : Int} : uL L xs R 220 [x0, x1, x2, x3] [.inl a] M ↔ ((a = 0 ∨ a = 1) ∧ R (some (.inl a)) M) := Iff.trans (zU_step dL_220 (Or.inl rfl)) ⟨fun h => ⟨zret2 rfl h.2.1, h.2.2⟩, fun h => ⟨rfl, Or.inr (Or.inl ⟨rfl, h.1⟩), h.2⟩⟩
theorem dL_221 : decode code 221 = .ok (.aload_n 1, 1) := by decide +kernel
theorem rL_221 {L : Nat} {xs : Int → Int} {R : zP} {x0 x2 x3 : Option zV} {st : List zV} {M : zM} {a : Nat} : uL L xs R 221 [x0, some (.inr (.inr a)), x2, x3] st M ↔ uL L xs R 222 [x0, some (.inr (.inr a)), x2, x3] (.inr (.inr a) :: st) M := zU_step dL_221 (Or.inl rfl)
theorem dL_222 : decode code 222 = .ok (.aload_n 0, 1) := by decide +kernel
theorem rL_222 {L : Nat} {xs : Int → Int} {R : zP} {x1 x2 x3 : Option zV} {st : List zV} {M : zM} {a : Nat} : uL L xs R 222 [some (.inr (.inr a)), x1, x2, x3] st M ↔ uL L xs R 223 [some (.inr (.inr a)), x1, x2, x3] (.inr (.inr a) :: st) M := zU_step dL_222 (Or.inl rfl)
theorem dL_223 : decode code 223 = .ok (.iload_n 3, 1) := by decide +kernel
theorem rL_223 {L : Nat} {xs : Int → Int} {R : zP} {x0 x1 x2 : Option zV} {st : List zV} {M : zM} {a : Int} : uL L xs R 223 [x0, x1, x2, some (.inl a)] st M ↔ uL L xs R 224 [x0, x1, x2, some (.inl a)] (.inl a :: st) M := zU_step dL_223 (Or.inl rfl)
theorem dL_224 : decode code 224 = .ok (.iconst 1, 1) := by decide +kernel
theorem rL_224 {L : Nat} {xs : Int → Int} {R : zP} {x0 x1 x2 x3 : Option zV} {st : List zV} {M : zM} : uL L xs R 224 [x0, x1, x2, x3] st M ↔ uL L xs R 225 [x0, x1, x2, x3] (.inl (1) :: st) M := zU_step dL_224 (Or.inl rfl)
theorem dL_225 : decode code 225 = .ok (.iadd, 1) := by decide +kernel
theorem rL_225 {L : Nat} {xs : Int → Int} {R : zP} {x0 x1 x2 x3 : Option zV} {st : List zV} {M : zM} {a b : Int} : uL L xs R 225 [x0, x1, x2, x3] (.inl b :: .inl a :: st) M ↔ uL L xs R 226 [x0, x1, x2, x3] (.inl (a + b) :: st) M := zU_step dL_225 (Or.inl rfl)
theorem dL_226 : decode code 226 = .ok (.iaload, 1) := by decide +kernel
theorem rL_226 {L : Nat} {xs : Int → Int} {R : zP} {x0 x1 x2 x3 : Option zV} {st : List zV} {M : zM} {i : Int} {r : Nat} : uL L xs R 226 [x0, x1, x2, x3] (.inl i :: .inr (.inr r) :: st) M ↔ zread (fL L xs) 0 r M i (fun v => uL L xs R 227 [x0, x1, x2, x3] (.inl v :: st) M) := zU_step dL_226 (Or.inl rfl)
theorem dL_227 : decode code 227 = .ok (.invokevirtual 18, 3) := by decide +kernel
theorem rL_227 {L : Nat} {xs : Int → Int} {R : zP} {x0 x1 x2 x3 : Option zV} {st : List zV} {M : zM} {a0 a1 : zV} : uL L xs R 227 [x0, x1, x2, x3] (a1 :: a0 :: st) M ↔ (st.length ≤ 4 ∧ zcv (zv 7 (znm tX7_wipe)) [a0, a1] M (fun v M => uL L xs R 230 [x0, x1, x2, x3] (v :: st) M)) := Iff.trans (zU_step dL_227 (Or.inl rfl)) ⟨fun h => ⟨h.2.1, zcv_of h.2.2⟩, fun h => ⟨rfl, h.1, zcv_to h.2⟩⟩
theorem dL_230 : decode code 230 = .ok (.aload_n 2, 1) := by decide +kernel
theorem rL_230 {L : Nat} {xs : Int → Int} {R : zP} {x0 x1 x3 : Option zV} {st : List zV} {M : zM} {a : Nat} : uL L xs R 230 [x0, x1, some (.inr (.inr a)), x3] st M ↔ uL L xs R 231 [x0, x1, some (.inr (.inr a)), x3] (.inr (.inr a) :: st) M := zU_step dL_230 (Or.inl rfl)
theorem dL_231 : decode code 231 = .ok (.aload_n 0, 1) := by decide +kernel
theorem rL_231 {L : Nat} {xs : Int → Int} {R : zP} {x1 x2 x3 : Option zV} {st : List zV} {M : zM} {a : Nat} : uL L xs R 231 [some (.inr (.inr a)), x1, x2, x3] st M ↔ uL L xs R 232 [some (.inr (.inr a)), x1, x2, x3] (.inr (.inr a) :: st) M := zU_step dL_231 (Or.inl rfl)
theorem dL_232 : decode code 232 = .ok (.iload_n 3, 1) := by decide +kernel
theorem rL_232 {L : Nat} {xs : Int → Int} {R : zP} {x0 x1 x2 : Option zV} {st : List zV} {M : zM} {a : Int} : uL L xs R 232 [x0, x1, x2, some (.inl a)] st M ↔ uL L xs R 233 [x0, x1, x2, some (.inl a)] (.inl a :: st) M := zU_step dL_232 (Or.inl rfl)
theorem dL_233 : decode code 233 = .ok (.iconst 1, 1) := by decide +kernel
theorem rL_233 {L : Nat} {xs : Int → Int} {R : zP} {x0 x1 x2 x3 : Option zV} {st : List zV} {M : zM} : uL L xs R 233 [x0, x1, x2, x3] st M ↔ uL L xs R 234 [x0, x1, x2, x3] (.inl (1) :: st) M := zU_step dL_233 (Or.inl rfl)
theorem dL_234 : decode code 234 = .ok (.iadd, 1) := by decide +kernel
theorem rL_234 {L : Nat} {xs : Int → Int} {R : zP} {x0 x1 x2 x3 : Option zV} {st : List zV} {M : zM} {a b : Int} : uL L xs R 234 [x0, x1, x2, x3] (.inl b :: .inl a :: st) M ↔ uL L xs R 235 [x0, x1, x2, x3] (.inl (a + b) :: st) M := zU_step dL_234 (Or.inl rfl)
theorem dL_235 : decode code 235 = .ok (.iaload, 1) := by decide +kernel
theorem rL_235 {L : Nat} {xs : Int → Int} {R : zP} {x0 x1 x2 x3 : Option zV} {st : List zV} {M : zM} {i : Int} {r : Nat} : uL L xs R 235 [x0, x1, x2, x3] (.inl i :: .inr (.inr r) :: st) M ↔ zread (fL L xs) 0 r M i (fun v => uL L xs R 236 [x0, x1, x2, x3] (.inl v :: st) M) := zU_step dL_235 (Or.inl rfl)
theorem dL_236 : decode code 236 = .ok (.invokevirtual 22, 3) := by decide +kernel
theorem rL_236 {L : Nat} {xs : Int → Int} {R : zP} {x0 x1 x2 x3 : Option zV} {st : List zV} {M : zM} {a0 a1 : zV} : uL L xs R 236 [x0, x1, x2, x3] (a1 :: a0 :: st) M ↔ (st.length ≤ 4 ∧ zcv (zv 8 (znm tX8_wipe)) [a0, a1] M (fun v M => uL L xs R 239 [x0, x1, x2, x3] (v :: st) M)) := Iff.trans (zU_step dL_236 (Or.inl rfl)) ⟨fun h => ⟨h.2.1, zcv_of h.2.2⟩, fun h => ⟨rfl, h.1, zcv_to h.2⟩⟩
theorem dL_239 : decode code 239 = .ok (.if_icmp .eq 1127, 3) := by decide +kernel
theorem rL_239 {L : Nat} {xs : Int → Int} {R : zP} {x0 x1 x2 x3 : Option zV} {st : List zV} {M : zM} {a b : Int} : uL L xs R 239 [x0, x1, x2, x3] (.inl b :: .inl a :: st) M ↔ ((zIR a ∧ zIR b) ∧ if a = b then uL L xs R 1366 [x0, x1, x2, x3] st M else uL L xs R 242 [x0, x1, x2, x3] st M) := Iff.trans (zU_step dL_239 (Or.inl rfl)) ⟨fun h => ⟨⟨h.1.1, h.1.2.1⟩, (zite (c := a = b)).mpr h.2⟩, fun h => ⟨⟨h.1.1, h.1.2, by decide⟩, (zite (c := a = b)).mp h.2⟩⟩
theorem dL_242 : decode code 242 = .ok (.iconst 0, 1) := by decide +kernel
theorem rL_242 {L : Nat} {xs : Int → Int} {R : zP} {x0 x1 x2 x3 : Option zV} {st : List zV} {M : zM} : uL L xs R 242 [x0, x1, x2, x3] st M ↔ uL L xs R 243 [x0, x1, x2, x3] (.inl (0) :: st) M := zU_step dL_242 (Or.inl rfl)
theorem dL_243 : decode code 243 = .ok (.ireturn, 1) := by decide +kernel
theorem rL_243 {L : Nat} {xs : Int → Int} {R : zP} {x0 x1 x2 x3 : Option zV} {M : zM} {a : Int} : uL L xs R 243 [x0, x1, x2, x3] [.inl a] M ↔ ((a = 0 ∨ a = 1) ∧ R (some (.inl a)) M) := Iff.trans (zU_step dL_243 (Or.inl rfl)) ⟨fun h => ⟨zret2 rfl h.2.1, h.2.2⟩, fun h => ⟨rfl, Or.inr (Or.inl ⟨rfl, h.1⟩), h.2⟩⟩
theorem dL_244 : decode code 244 = .ok (.aload_n 1, 1) := by decide +kernel
theorem rL_244 {L : Nat} {xs : Int → Int} {R : zP} {x0 x2 x3 : Option zV} {st : List zV} {M : zM} {a : Nat} : uL L xs R 244 [x0, some (.inr (.inr a)), x2, x3] st M ↔ uL L xs R 245 [x0, some (.inr (.inr a)), x2, x3] (.inr (.inr a) :: st) M := zU_step dL_244 (Or.inl rfl)
theorem dL_245 : decode code 245 = .ok (.aload_n 0, 1) := by decide +kernel
theorem rL_245 {L : Nat} {xs : Int → Int} {R : zP} {x1 x2 x3 : Option zV} {st : List zV} {M : zM} {a : Nat} : uL L xs R 245 [some (.inr (.inr a)), x1, x2, x3] st M ↔ uL L xs R 246 [some (.inr (.inr a)), x1, x2, x3] (.inr (.inr a) :: st) M := zU_step dL_245 (Or.inl rfl)
theorem dL_246 : decode code 246 = .ok (.iload_n 3, 1) := by decide +kernel
theorem rL_246 {L : Nat} {xs : Int → Int} {R : zP} {x0 x1 x2 : Option zV} {st : List zV} {M : zM} {a : Int} : uL L xs R 246 [x0, x1, x2, some (.inl a)] st M ↔ uL L xs R 247 [x0, x1, x2, some (.inl a)] (.inl a :: st) M := zU_step dL_246 (Or.inl rfl)
theorem dL_247 : decode code 247 = .ok (.iconst 1, 1) := by decide +kernel
theorem rL_247 {L : Nat} {xs : Int → Int} {R : zP} {x0 x1 x2 x3 : Option zV} {st : List zV} {M : zM} : uL L xs R 247 [x0, x1, x2, x3] st M ↔ uL L xs R 248 [x0, x1, x2, x3] (.inl (1) :: st) M := zU_step dL_247 (Or.inl rfl)
theorem dL_248 : decode code 248 = .ok (.iadd, 1) := by decide +kernel
theorem rL_248 {L : Nat} {xs : Int → Int} {R : zP} {x0 x1 x2 x3 : Option zV} {st : List zV} {M : zM} {a b : Int} : uL L xs R 248 [x0, x1, x2, x3] (.inl b :: .inl a :: st) M ↔ uL L xs R 249 [x0, x1, x2, x3] (.inl (a + b) :: st) M := zU_step dL_248 (Or.inl rfl)
theorem dL_249 : decode code 249 = .ok (.iaload, 1) := by decide +kernel
theorem rL_249 {L : Nat} {xs : Int → Int} {R : zP} {x0 x1 x2 x3 : Option zV} {st : List zV} {M : zM} {i : Int} {r : Nat} : uL L xs R 249 [x0, x1, x2, x3] (.inl i :: .inr (.inr r) :: st) M ↔ zread (fL L xs) 0 r M i (fun v => uL L xs R 250 [x0, x1, x2, x3] (.inl v :: st) M) := zU_step dL_249 (Or.inl rfl)
theorem dL_250 : decode code 250 = .ok (.invokevirtual 23, 3) := by decide +kernel
theorem rL_250 {L : Nat} {xs : Int → Int} {R : zP} {x0 x1 x2 x3 : Option zV} {st : List zV} {M : zM} {a0 a1 : zV} : uL L xs R 250 [x0, x1, x2, x3] (a1 :: a0 :: st) M ↔ (st.length ≤ 4 ∧ zcv (zv 7 (znm tX7_undo)) [a0, a1] M (fun v M => uL L xs R 253 [x0, x1, x2, x3] (v :: st) M)) := Iff.trans (zU_step dL_250 (Or.inl rfl)) ⟨fun h => ⟨h.2.1, zcv_of h.2.2⟩, fun h => ⟨rfl, h.1, zcv_to h.2⟩⟩
theorem dL_253 : decode code 253 = .ok (.aload_n 2, 1) := by decide +kernel
theorem rL_253 {L : Nat} {xs : Int → Int} {R : zP} {x0 x1 x3 : Option zV} {st : List zV} {M : zM} {a : Nat} : uL L xs R 253 [x0, x1, some (.inr (.inr a)), x3] st M ↔ uL L xs R 254 [x0, x1, some (.inr (.inr a)), x3] (.inr (.inr a) :: st) M := zU_step dL_253 (Or.inl rfl)
theorem dL_254 : decode code 254 = .ok (.aload_n 0, 1) := by decide +kernel
theorem rL_254 {L : Nat} {xs : Int → Int} {R : zP} {x1 x2 x3 : Option zV} {st : List zV} {M : zM} {a : Nat} : uL L xs R 254 [some (.inr (.inr a)), x1, x2, x3] st M ↔ uL L xs R 255 [some (.inr (.inr a)), x1, x2, x3] (.inr (.inr a) :: st) M := zU_step dL_254 (Or.inl rfl)
theorem dL_255 : decode code 255 = .ok (.iload_n 3, 1) := by decide +kernel
theorem rL_255 {L : Nat} {xs : Int → Int} {R : zP} {x0 x1 x2 : Option zV} {st : List zV} {M : zM} {a : Int} : uL L xs R 255 [x0, x1, x2, some (.inl a)] st M ↔ uL L xs R 256 [x0, x1, x2, some (.inl a)] (.inl a :: st) M := zU_step dL_255 (Or.inl rfl)
theorem dL_256 : decode code 256 = .ok (.iconst 1, 1) := by decide +kernel
theorem rL_256 {L : Nat} {xs : Int → Int} {R : zP} {x0 x1 x2 x3 : Option zV} {st : List zV} {M : zM} : uL L xs R 256 [x0, x1, x2, x3] st M ↔ uL L xs R 257 [x0, x1, x2, x3] (.inl (1) :: st) M := zU_step dL_256 (Or.inl rfl)
theorem dL_257 : decode code 257 = .ok (.iadd, 1) := by decide +kernel
theorem rL_257 {L : Nat} {xs : Int → Int} {R : zP} {x0 x1 x2 x3 : Option zV} {st : List zV} {M : zM} {a b : Int} : uL L xs R 257 [x0, x1, x2, x3] (.inl b :: .inl a :: st) M ↔ uL L xs R 258 [x0, x1, x2, x3] (.inl (a + b) :: st) M := zU_step dL_257 (Or.inl rfl)
theorem dL_258 : decode code 258 = .ok (.iaload, 1) := by decide +kernel
theorem rL_258 {L : Nat} {xs : Int → Int} {R : zP} {x0 x1 x2 x3 : Option zV} {st : List zV} {M : zM} {i : Int} {r : Nat} : uL L xs R 258 [x0, x1, x2, x3] (.inl i :: .inr (.inr r) :: st) M ↔ zread (fL L xs) 0 r M i (fun v => uL L xs R 259 [x0, x1, x2, x3] (.inl v :: st) M) := zU_step dL_258 (Or.inl rfl)
theorem dL_259 : decode code 259 = .ok (.invokevirtual 26, 3) := by decide +kernel
theorem rL_259 {L : Nat} {xs : Int → Int} {R : zP} {x0 x1 x2 x3 : Option zV} {st : List zV} {M : zM} {a0 a1 : zV} : uL L xs R 259 [x0, x1, x2, x3] (a1 :: a0 :: st) M ↔ (st.length ≤ 4 ∧ zcv (zv 8 (znm tX8_undo)) [a0, a1] M (fun v M => uL L xs R 262 [x0, x1, x2, x3] (v :: st) M)) := Iff.trans (zU_step dL_259 (Or.inl rfl)) ⟨fun h => ⟨h.2.1, zcv_of h.2.2⟩, fun h => ⟨rfl, h.1, zcv_to h.2⟩⟩
theorem dL_262 : decode code 262 = .ok (.if_icmp .eq 1104, 3) := by decide +kernel
theorem rL_262 {L : Nat} {xs : Int → Int} {R : zP} {x0 x1 x2 x3 : Option zV} {st : List zV} {M : zM} {a b : Int} : uL L xs R 262 [x0, x1, x2, x3] (.inl b :: .inl a :: st) M ↔ ((zIR a ∧ zIR b) ∧ if a = b then uL L xs R 1366 [x0, x1, x2, x3] st M else uL L xs R 265 [x0, x1, x2, x3] st M) := Iff.trans (zU_step dL_262 (Or.inl rfl)) ⟨fun h => ⟨⟨h.1.1, h.1.2.1⟩, (zite (c := a = b)).mpr h.2⟩, fun h => ⟨⟨h.1.1, h.1.2, by decide⟩, (zite (c := a = b)).mp h.2⟩⟩
theorem dL_265 : decode code 265 = .ok (.iconst 0, 1) := by decide +kernel
theorem rL_265 {L : Nat} {xs : Int → Int} {R : zP} {x0 x1 x2 x3 : Option zV} {st : List zV} {M : zM} : uL L xs R 265 [x0, x1, x2, x3] st M ↔ uL L xs R 266 [x0, x1, x2, x3] (.inl (0) :: st) M := zU_step dL_265 (Or.inl rfl)
theorem dL_266 : decode code 266 = .ok (.ireturn, 1) := by decide +kernel
theorem rL_266 {L : Nat} {xs : Int → Int} {R : zP} {x0 x1 x2 x3 : Option zV} {M : zM} {a : Int} : uL L xs R 266 [x0, x1, x2, x3] [.inl a] M ↔ ((a = 0 ∨ a = 1) ∧ R (some (.inl a)) M) := Iff.trans (zU_step dL_266 (Or.inl rfl)) ⟨fun h => ⟨zret2 rfl h.2.1, h.2.2⟩, fun h => ⟨rfl, Or.inr (Or.inl ⟨rfl, h.1⟩), h.2⟩⟩
theorem dL_267 : decode code 267 = .ok (.aload_n 1, 1) := by decide +kernel
theorem rL_267 {L : Nat} {xs : Int → Int} {R : zP} {x0 x2 x3 : Option zV} {st : List zV} {M : zM} {a : Nat} : uL L xs R 267 [x0, some (.inr (.inr a)), x2, x3] st M ↔ uL L xs R 268 [x0, some (.inr (.inr a)), x2, x3] (.inr (.inr a) :: st) M := zU_step dL_267 (Or.inl rfl)
theorem dL_268 : decode code 268 = .ok (.aload_n 0, 1) := by decide +kernel
theorem rL_268 {L : Nat} {xs : Int → Int} {R : zP} {x1 x2 x3 : Option zV} {st : List zV} {M : zM} {a : Nat} : uL L xs R 268 [some (.inr (.inr a)), x1, x2, x3] st M ↔ uL L xs R 269 [some (.inr (.inr a)), x1, x2, x3] (.inr (.inr a) :: st) M := zU_step dL_268 (Or.inl rfl)
theorem dL_269 : decode code 269 = .ok (.iload_n 3, 1) := by decide +kernel
theorem rL_269 {L : Nat} {xs : Int → Int} {R : zP} {x0 x1 x2 : Option zV} {st : List zV} {M : zM} {a : Int} : uL L xs R 269 [x0, x1, x2, some (.inl a)] st M ↔ uL L xs R 270 [x0, x1, x2, some (.inl a)] (.inl a :: st) M := zU_step dL_269 (Or.inl rfl)
theorem dL_270 : decode code 270 = .ok (.iconst 1, 1) := by decide +kernel
theorem rL_270 {L : Nat} {xs : Int → Int} {R : zP} {x0 x1 x2 x3 : Option zV} {st : List zV} {M : zM} : uL L xs R 270 [x0, x1, x2, x3] st M ↔ uL L xs R 271 [x0, x1, x2, x3] (.inl (1) :: st) M := zU_step dL_270 (Or.inl rfl)
theorem dL_271 : decode code 271 = .ok (.iadd, 1) := by decide +kernel
theorem rL_271 {L : Nat} {xs : Int → Int} {R : zP} {x0 x1 x2 x3 : Option zV} {st : List zV} {M : zM} {a b : Int} : uL L xs R 271 [x0, x1, x2, x3] (.inl b :: .inl a :: st) M ↔ uL L xs R 272 [x0, x1, x2, x3] (.inl (a + b) :: st) M := zU_step dL_271 (Or.inl rfl)
theorem dL_272 : decode code 272 = .ok (.iaload, 1) := by decide +kernel
theorem rL_272 {L : Nat} {xs : Int → Int} {R : zP} {x0 x1 x2 x3 : Option zV} {st : List zV} {M : zM} {i : Int} {r : Nat} : uL L xs R 272 [x0, x1, x2, x3] (.inl i :: .inr (.inr r) :: st) M ↔ zread (fL L xs) 0 r M i (fun v => uL L xs R 273 [x0, x1, x2, x3] (.inl v :: st) M) := zU_step dL_272 (Or.inl rfl)
theorem dL_273 : decode code 273 = .ok (.invokevirtual 27, 3) := by decide +kernel
theorem rL_273 {L : Nat} {xs : Int → Int} {R : zP} {x0 x1 x2 x3 : Option zV} {st : List zV} {M : zM} {a0 a1 : zV} : uL L xs R 273 [x0, x1, x2, x3] (a1 :: a0 :: st) M ↔ (st.length ≤ 4 ∧ zcv (zv 7 (znm tX7_fault)) [a0, a1] M (fun v M => uL L xs R 276 [x0, x1, x2, x3] (v :: st) M)) := Iff.trans (zU_step dL_273 (Or.inl rfl)) ⟨fun h => ⟨h.2.1, zcv_of h.2.2⟩, fun h => ⟨rfl, h.1, zcv_to h.2⟩⟩
theorem dL_276 : decode code 276 = .ok (.aload_n 2, 1) := by decide +kernel
theorem rL_276 {L : Nat} {xs : Int → Int} {R : zP} {x0 x1 x3 : Option zV} {st : List zV} {M : zM} {a : Nat} : uL L xs R 276 [x0, x1, some (.inr (.inr a)), x3] st M ↔ uL L xs R 277 [x0, x1, some (.inr (.inr a)), x3] (.inr (.inr a) :: st) M := zU_step dL_276 (Or.inl rfl)
theorem dL_277 : decode code 277 = .ok (.aload_n 0, 1) := by decide +kernel
theorem rL_277 {L : Nat} {xs : Int → Int} {R : zP} {x1 x2 x3 : Option zV} {st : List zV} {M : zM} {a : Nat} : uL L xs R 277 [some (.inr (.inr a)), x1, x2, x3] st M ↔ uL L xs R 278 [some (.inr (.inr a)), x1, x2, x3] (.inr (.inr a) :: st) M := zU_step dL_277 (Or.inl rfl)
theorem dL_278 : decode code 278 = .ok (.iload_n 3, 1) := by decide +kernel
theorem rL_278 {L : Nat} {xs : Int → Int} {R : zP} {x0 x1 x2 : Option zV} {st : List zV} {M : zM} {a : Int} : uL L xs R 278 [x0, x1, x2, some (.inl a)] st M ↔ uL L xs R 279 [x0, x1, x2, some (.inl a)] (.inl a :: st) M := zU_step dL_278 (Or.inl rfl)
theorem dL_279 : decode code 279 = .ok (.iconst 1, 1) := by decide +kernel
theorem rL_279 {L : Nat} {xs : Int → Int} {R : zP} {x0 x1 x2 x3 : Option zV} {st : List zV} {M : zM} : uL L xs R 279 [x0, x1, x2, x3] st M ↔ uL L xs R 280 [x0, x1, x2, x3] (.inl (1) :: st) M := zU_step dL_279 (Or.inl rfl)
theorem dL_280 : decode code 280 = .ok (.iadd, 1) := by decide +kernel
theorem rL_280 {L : Nat} {xs : Int → Int} {R : zP} {x0 x1 x2 x3 : Option zV} {st : List zV} {M : zM} {a b : Int} : uL L xs R 280 [x0, x1, x2, x3] (.inl b :: .inl a :: st) M ↔ uL L xs R 281 [x0, x1, x2, x3] (.inl (a + b) :: st) M := zU_step dL_280 (Or.inl rfl)
theorem dL_281 : decode code 281 = .ok (.iaload, 1) := by decide +kernel
theorem rL_281 {L : Nat} {xs : Int → Int} {R : zP} {x0 x1 x2 x3 : Option zV} {st : List zV} {M : zM} {i : Int} {r : Nat} : uL L xs R 281 [x0, x1, x2, x3] (.inl i :: .inr (.inr r) :: st) M ↔ zread (fL L xs) 0 r M i (fun v => uL L xs R 282 [x0, x1, x2, x3] (.inl v :: st) M) := zU_step dL_281 (Or.inl rfl)
theorem dL_282 : decode code 282 = .ok (.invokevirtual 30, 3) := by decide +kernel
theorem rL_282 {L : Nat} {xs : Int → Int} {R : zP} {x0 x1 x2 x3 : Option zV} {st : List zV} {M : zM} {a0 a1 : zV} : uL L xs R 282 [x0, x1, x2, x3] (a1 :: a0 :: st) M ↔ (st.length ≤ 4 ∧ zcv (zv 8 (znm tX8_fault)) [a0, a1] M (fun v M => uL L xs R 285 [x0, x1, x2, x3] (v :: st) M)) := Iff.trans (zU_step dL_282 (Or.inl rfl)) ⟨fun h => ⟨h.2.1, zcv_of h.2.2⟩, fun h => ⟨rfl, h.1, zcv_to h.2⟩⟩
theorem dL_285 : decode code 285 = .ok (.if_icmp .eq 1081, 3) := by decide +kernel
theorem rL_285 {L : Nat} {xs : Int → Int} {R : zP} {x0 x1 x2 x3 : Option zV} {st : List zV} {M : zM} {a b : Int} : uL L xs R 285 [x0, x1, x2, x3] (.inl b :: .inl a :: st) M ↔ ((zIR a ∧ zIR b) ∧ if a = b then uL L xs R 1366 [x0, x1, x2, x3] st M else uL L xs R 288 [x0, x1, x2, x3] st M) := Iff.trans (zU_step dL_285 (Or.inl rfl)) ⟨fun h => ⟨⟨h.1.1, h.1.2.1⟩, (zite (c := a = b)).mpr h.2⟩, fun h => ⟨⟨h.1.1, h.1.2, by decide⟩, (zite (c := a = b)).mp h.2⟩⟩
theorem dL_288 : decode code 288 = .ok (.iconst 0, 1) := by decide +kernel
theorem rL_288 {L : Nat} {xs : Int → Int} {R : zP} {x0 x1 x2 x3 : Option zV} {st : List zV} {M : zM} : uL L xs R 288 [x0, x1, x2, x3] st M ↔ uL L xs R 289 [x0, x1, x2, x3] (.inl (0) :: st) M := zU_step dL_288 (Or.inl rfl)
theorem dL_289 : decode code 289 = .ok (.ireturn, 1) := by decide +kernel
theorem rL_289 {L : Nat} {xs : Int → Int} {R : zP} {x0 x1 x2 x3 : Option zV} {M : zM} {a : Int} : uL L xs R 289 [x0, x1, x2, x3] [.inl a] M ↔ ((a = 0 ∨ a = 1) ∧ R (some (.inl a)) M) := Iff.trans (zU_step dL_289 (Or.inl rfl)) ⟨fun h => ⟨zret2 rfl h.2.1, h.2.2⟩, fun h => ⟨rfl, Or.inr (Or.inl ⟨rfl, h.1⟩), h.2⟩⟩
theorem dL_290 : decode code 290 = .ok (.aload_n 1, 1) := by decide +kernel
theorem rL_290 {L : Nat} {xs : Int → Int} {R : zP} {x0 x2 x3 : Option zV} {st : List zV} {M : zM} {a : Nat} : uL L xs R 290 [x0, some (.inr (.inr a)), x2, x3] st M ↔ uL L xs R 291 [x0, some (.inr (.inr a)), x2, x3] (.inr (.inr a) :: st) M := zU_step dL_290 (Or.inl rfl)
theorem dL_291 : decode code 291 = .ok (.aload_n 0, 1) := by decide +kernel
theorem rL_291 {L : Nat} {xs : Int → Int} {R : zP} {x1 x2 x3 : Option zV} {st : List zV} {M : zM} {a : Nat} : uL L xs R 291 [some (.inr (.inr a)), x1, x2, x3] st M ↔ uL L xs R 292 [some (.inr (.inr a)), x1, x2, x3] (.inr (.inr a) :: st) M := zU_step dL_291 (Or.inl rfl)
theorem dL_292 : decode code 292 = .ok (.iload_n 3, 1) := by decide +kernel
theorem rL_292 {L : Nat} {xs : Int → Int} {R : zP} {x0 x1 x2 : Option zV} {st : List zV} {M : zM} {a : Int} : uL L xs R 292 [x0, x1, x2, some (.inl a)] st M ↔ uL L xs R 293 [x0, x1, x2, some (.inl a)] (.inl a :: st) M := zU_step dL_292 (Or.inl rfl)
theorem dL_293 : decode code 293 = .ok (.iconst 1, 1) := by decide +kernel
theorem rL_293 {L : Nat} {xs : Int → Int} {R : zP} {x0 x1 x2 x3 : Option zV} {st : List zV} {M : zM} : uL L xs R 293 [x0, x1, x2, x3] st M ↔ uL L xs R 294 [x0, x1, x2, x3] (.inl (1) :: st) M := zU_step dL_293 (Or.inl rfl)
theorem dL_294 : decode code 294 = .ok (.iadd, 1) := by decide +kernel
theorem rL_294 {L : Nat} {xs : Int → Int} {R : zP} {x0 x1 x2 x3 : Option zV} {st : List zV} {M : zM} {a b : Int} : uL L xs R 294 [x0, x1, x2, x3] (.inl b :: .inl a :: st) M ↔ uL L xs R 295 [x0, x1, x2, x3] (.inl (a + b) :: st) M := zU_step dL_294 (Or.inl rfl)
theorem dL_295 : decode code 295 = .ok (.iaload, 1) := by decide +kernel
theorem rL_295 {L : Nat} {xs : Int → Int} {R : zP} {x0 x1 x2 x3 : Option zV} {st : List zV} {M : zM} {i : Int} {r : Nat} : uL L xs R 295 [x0, x1, x2, x3] (.inl i :: .inr (.inr r) :: st) M ↔ zread (fL L xs) 0 r M i (fun v => uL L xs R 296 [x0, x1, x2, x3] (.inl v :: st) M) := zU_step dL_295 (Or.inl rfl)
theorem dL_296 : decode code 296 = .ok (.aload_n 0, 1) := by decide +kernel
theorem rL_296 {L : Nat} {xs : Int → Int} {R : zP} {x1 x2 x3 : Option zV} {st : List zV} {M : zM} {a : Nat} : uL L xs R 296 [some (.inr (.inr a)), x1, x2, x3] st M ↔ uL L xs R 297 [some (.inr (.inr a)), x1, x2, x3] (.inr (.inr a) :: st) M := zU_step dL_296 (Or.inl rfl)
theorem dL_297 : decode code 297 = .ok (.iload_n 3, 1) := by decide +kernel
theorem rL_297 {L : Nat} {xs : Int → Int} {R : zP} {x0 x1 x2 : Option zV} {st : List zV} {M : zM} {a : Int} : uL L xs R 297 [x0, x1, x2, some (.inl a)] st M ↔ uL L xs R 298 [x0, x1, x2, some (.inl a)] (.inl a :: st) M := zU_step dL_297 (Or.inl rfl)
theorem dL_298 : decode code 298 = .ok (.iconst 2, 1) := by decide +kernel
theorem rL_298 {L : Nat} {xs : Int → Int} {R : zP} {x0 x1 x2 x3 : Option zV} {st : List zV} {M : zM} : uL L xs R 298 [x0, x1, x2, x3] st M ↔ uL L xs R 299 [x0, x1, x2, x3] (.inl (2) :: st) M := zU_step dL_298 (Or.inl rfl)
theorem dL_299 : decode code 299 = .ok (.iadd, 1) := by decide +kernel
theorem rL_299 {L : Nat} {xs : Int → Int} {R : zP} {x0 x1 x2 x3 : Option zV} {st : List zV} {M : zM} {a b : Int} : uL L xs R 299 [x0, x1, x2, x3] (.inl b :: .inl a :: st) M ↔ uL L xs R 300 [x0, x1, x2, x3] (.inl (a + b) :: st) M := zU_step dL_299 (Or.inl rfl)
theorem dL_300 : decode code 300 = .ok (.iaload, 1) := by decide +kernel
theorem rL_300 {L : Nat} {xs : Int → Int} {R : zP} {x0 x1 x2 x3 : Option zV} {st : List zV} {M : zM} {i : Int} {r : Nat} : uL L xs R 300 [x0, x1, x2, x3] (.inl i :: .inr (.inr r) :: st) M ↔ zread (fL L xs) 0 r M i (fun v => uL L xs R 301 [x0, x1, x2, x3] (.inl v :: st) M) := zU_step dL_300 (Or.inl rfl)
theorem dL_301 : decode code 301 = .ok (.invokevirtual 31, 3) := by decide +kernel
theorem rL_301 {L : Nat} {xs : Int → Int} {R : zP} {x0 x1 x2 x3 : Option zV} {st : List zV} {M : zM} {a0 a1 a2 : zV} : uL L xs R 301 [x0, x1, x2, x3] (a2 :: a1 :: a0 :: st) M ↔ (st.length ≤ 4 ∧ zcv (zv 7 (znm tX7_member)) [a0, a1, a2] M (fun v M => uL L xs R 304 [x0, x1, x2, x3] (v :: st) M)) := Iff.trans (zU_step dL_301 (Or.inl rfl)) ⟨fun h => ⟨h.2.1, zcv_of h.2.2⟩, fun h => ⟨rfl, h.1, zcv_to h.2⟩⟩
theorem dL_304 : decode code 304 = .ok (.aload_n 2, 1) := by decide +kernel
theorem rL_304 {L : Nat} {xs : Int → Int} {R : zP} {x0 x1 x3 : Option zV} {st : List zV} {M : zM} {a : Nat} : uL L xs R 304 [x0, x1, some (.inr (.inr a)), x3] st M ↔ uL L xs R 305 [x0, x1, some (.inr (.inr a)), x3] (.inr (.inr a) :: st) M := zU_step dL_304 (Or.inl rfl)
theorem dL_305 : decode code 305 = .ok (.aload_n 0, 1) := by decide +kernel
theorem rL_305 {L : Nat} {xs : Int → Int} {R : zP} {x1 x2 x3 : Option zV} {st : List zV} {M : zM} {a : Nat} : uL L xs R 305 [some (.inr (.inr a)), x1, x2, x3] st M ↔ uL L xs R 306 [some (.inr (.inr a)), x1, x2, x3] (.inr (.inr a) :: st) M := zU_step dL_305 (Or.inl rfl)
theorem dL_306 : decode code 306 = .ok (.iload_n 3, 1) := by decide +kernel
theorem rL_306 {L : Nat} {xs : Int → Int} {R : zP} {x0 x1 x2 : Option zV} {st : List zV} {M : zM} {a : Int} : uL L xs R 306 [x0, x1, x2, some (.inl a)] st M ↔ uL L xs R 307 [x0, x1, x2, some (.inl a)] (.inl a :: st) M := zU_step dL_306 (Or.inl rfl)
theorem dL_307 : decode code 307 = .ok (.iconst 1, 1) := by decide +kernel
theorem rL_307 {L : Nat} {xs : Int → Int} {R : zP} {x0 x1 x2 x3 : Option zV} {st : List zV} {M : zM} : uL L xs R 307 [x0, x1, x2, x3] st M ↔ uL L xs R 308 [x0, x1, x2, x3] (.inl (1) :: st) M := zU_step dL_307 (Or.inl rfl)
theorem dL_308 : decode code 308 = .ok (.iadd, 1) := by decide +kernel
theorem rL_308 {L : Nat} {xs : Int → Int} {R : zP} {x0 x1 x2 x3 : Option zV} {st : List zV} {M : zM} {a b : Int} : uL L xs R 308 [x0, x1, x2, x3] (.inl b :: .inl a :: st) M ↔ uL L xs R 309 [x0, x1, x2, x3] (.inl (a + b) :: st) M := zU_step dL_308 (Or.inl rfl)
theorem dL_309 : decode code 309 = .ok (.iaload, 1) := by decide +kernel
theorem rL_309 {L : Nat} {xs : Int → Int} {R : zP} {x0 x1 x2 x3 : Option zV} {st : List zV} {M : zM} {i : Int} {r : Nat} : uL L xs R 309 [x0, x1, x2, x3] (.inl i :: .inr (.inr r) :: st) M ↔ zread (fL L xs) 0 r M i (fun v => uL L xs R 310 [x0, x1, x2, x3] (.inl v :: st) M) := zU_step dL_309 (Or.inl rfl)
theorem dL_310 : decode code 310 = .ok (.aload_n 0, 1) := by decide +kernel
theorem rL_310 {L : Nat} {xs : Int → Int} {R : zP} {x1 x2 x3 : Option zV} {st : List zV} {M : zM} {a : Nat} : uL L xs R 310 [some (.inr (.inr a)), x1, x2, x3] st M ↔ uL L xs R 311 [some (.inr (.inr a)), x1, x2, x3] (.inr (.inr a) :: st) M := zU_step dL_310 (Or.inl rfl)
theorem dL_311 : decode code 311 = .ok (.iload_n 3, 1) := by decide +kernel
theorem rL_311 {L : Nat} {xs : Int → Int} {R : zP} {x0 x1 x2 : Option zV} {st : List zV} {M : zM} {a : Int} : uL L xs R 311 [x0, x1, x2, some (.inl a)] st M ↔ uL L xs R 312 [x0, x1, x2, some (.inl a)] (.inl a :: st) M := zU_step dL_311 (Or.inl rfl)
theorem dL_312 : decode code 312 = .ok (.iconst 2, 1) := by decide +kernel
theorem rL_312 {L : Nat} {xs : Int → Int} {R : zP} {x0 x1 x2 x3 : Option zV} {st : List zV} {M : zM} : uL L xs R 312 [x0, x1, x2, x3] st M ↔ uL L xs R 313 [x0, x1, x2, x3] (.inl (2) :: st) M := zU_step dL_312 (Or.inl rfl)
theorem dL_313 : decode code 313 = .ok (.iadd, 1) := by decide +kernel
theorem rL_313 {L : Nat} {xs : Int → Int} {R : zP} {x0 x1 x2 x3 : Option zV} {st : List zV} {M : zM} {a b : Int} : uL L xs R 313 [x0, x1, x2, x3] (.inl b :: .inl a :: st) M ↔ uL L xs R 314 [x0, x1, x2, x3] (.inl (a + b) :: st) M := zU_step dL_313 (Or.inl rfl)
theorem dL_314 : decode code 314 = .ok (.iaload, 1) := by decide +kernel
theorem rL_314 {L : Nat} {xs : Int → Int} {R : zP} {x0 x1 x2 x3 : Option zV} {st : List zV} {M : zM} {i : Int} {r : Nat} : uL L xs R 314 [x0, x1, x2, x3] (.inl i :: .inr (.inr r) :: st) M ↔ zread (fL L xs) 0 r M i (fun v => uL L xs R 315 [x0, x1, x2, x3] (.inl v :: st) M) := zU_step dL_314 (Or.inl rfl)
theorem dL_315 : decode code 315 = .ok (.invokevirtual 34, 3) := by decide +kernel
theorem rL_315 {L : Nat} {xs : Int → Int} {R : zP} {x0 x1 x2 x3 : Option zV} {st : List zV} {M : zM} {a0 a1 a2 : zV} : uL L xs R 315 [x0, x1, x2, x3] (a2 :: a1 :: a0 :: st) M ↔ (st.length ≤ 4 ∧ zcv (zv 8 (znm tX8_member)) [a0, a1, a2] M (fun v M => uL L xs R 318 [x0, x1, x2, x3] (v :: st) M)) := Iff.trans (zU_step dL_315 (Or.inl rfl)) ⟨fun h => ⟨h.2.1, zcv_of h.2.2⟩, fun h => ⟨rfl, h.1, zcv_to h.2⟩⟩
theorem dL_318 : decode code 318 = .ok (.if_icmp .eq 1048, 3) := by decide +kernel
theorem rL_318 {L : Nat} {xs : Int → Int} {R : zP} {x0 x1 x2 x3 : Option zV} {st : List zV} {M : zM} {a b : Int} : uL L xs R 318 [x0, x1, x2, x3] (.inl b :: .inl a :: st) M ↔ ((zIR a ∧ zIR b) ∧ if a = b then uL L xs R 1366 [x0, x1, x2, x3] st M else uL L xs R 321 [x0, x1, x2, x3] st M) := Iff.trans (zU_step dL_318 (Or.inl rfl)) ⟨fun h => ⟨⟨h.1.1, h.1.2.1⟩, (zite (c := a = b)).mpr h.2⟩, fun h => ⟨⟨h.1.1, h.1.2, by decide⟩, (zite (c := a = b)).mp h.2⟩⟩
theorem dL_321 : decode code 321 = .ok (.iconst 0, 1) := by decide +kernel
theorem rL_321 {L : Nat} {xs : Int → Int} {R : zP} {x0 x1 x2 x3 : Option zV} {st : List zV} {M : zM} : uL L xs R 321 [x0, x1, x2, x3] st M ↔ uL L xs R 322 [x0, x1, x2, x3] (.inl (0) :: st) M := zU_step dL_321 (Or.inl rfl)
theorem dL_322 : decode code 322 = .ok (.ireturn, 1) := by decide +kernel
theorem rL_322 {L : Nat} {xs : Int → Int} {R : zP} {x0 x1 x2 x3 : Option zV} {M : zM} {a : Int} : uL L xs R 322 [x0, x1, x2, x3] [.inl a] M ↔ ((a = 0 ∨ a = 1) ∧ R (some (.inl a)) M) := Iff.trans (zU_step dL_322 (Or.inl rfl)) ⟨fun h => ⟨zret2 rfl h.2.1, h.2.2⟩, fun h => ⟨rfl, Or.inr (Or.inl ⟨rfl, h.1⟩), h.2⟩⟩
theorem dL_323 : decode code 323 = .ok (.aload_n 1, 1) := by decide +kernel
theorem rL_323 {L : Nat} {xs : Int → Int} {R : zP} {x0 x2 x3 : Option zV} {st : List zV} {M : zM} {a : Nat} : uL L xs R 323 [x0, some (.inr (.inr a)), x2, x3] st M ↔ uL L xs R 324 [x0, some (.inr (.inr a)), x2, x3] (.inr (.inr a) :: st) M := zU_step dL_323 (Or.inl rfl)
theorem dL_324 : decode code 324 = .ok (.aload_n 0, 1) := by decide +kernel
theorem rL_324 {L : Nat} {xs : Int → Int} {R : zP} {x1 x2 x3 : Option zV} {st : List zV} {M : zM} {a : Nat} : uL L xs R 324 [some (.inr (.inr a)), x1, x2, x3] st M ↔ uL L xs R 325 [some (.inr (.inr a)), x1, x2, x3] (.inr (.inr a) :: st) M := zU_step dL_324 (Or.inl rfl)
theorem dL_325 : decode code 325 = .ok (.iload_n 3, 1) := by decide +kernel
theorem rL_325 {L : Nat} {xs : Int → Int} {R : zP} {x0 x1 x2 : Option zV} {st : List zV} {M : zM} {a : Int} : uL L xs R 325 [x0, x1, x2, some (.inl a)] st M ↔ uL L xs R 326 [x0, x1, x2, some (.inl a)] (.inl a :: st) M := zU_step dL_325 (Or.inl rfl)
theorem dL_326 : decode code 326 = .ok (.iconst 1, 1) := by decide +kernel
theorem rL_326 {L : Nat} {xs : Int → Int} {R : zP} {x0 x1 x2 x3 : Option zV} {st : List zV} {M : zM} : uL L xs R 326 [x0, x1, x2, x3] st M ↔ uL L xs R 327 [x0, x1, x2, x3] (.inl (1) :: st) M := zU_step dL_326 (Or.inl rfl)
theorem dL_327 : decode code 327 = .ok (.iadd, 1) := by decide +kernel
theorem rL_327 {L : Nat} {xs : Int → Int} {R : zP} {x0 x1 x2 x3 : Option zV} {st : List zV} {M : zM} {a b : Int} : uL L xs R 327 [x0, x1, x2, x3] (.inl b :: .inl a :: st) M ↔ uL L xs R 328 [x0, x1, x2, x3] (.inl (a + b) :: st) M := zU_step dL_327 (Or.inl rfl)
theorem dL_328 : decode code 328 = .ok (.iaload, 1) := by decide +kernel
theorem rL_328 {L : Nat} {xs : Int → Int} {R : zP} {x0 x1 x2 x3 : Option zV} {st : List zV} {M : zM} {i : Int} {r : Nat} : uL L xs R 328 [x0, x1, x2, x3] (.inl i :: .inr (.inr r) :: st) M ↔ zread (fL L xs) 0 r M i (fun v => uL L xs R 329 [x0, x1, x2, x3] (.inl v :: st) M) := zU_step dL_328 (Or.inl rfl)
theorem dL_329 : decode code 329 = .ok (.aload_n 0, 1) := by decide +kernel
theorem rL_329 {L : Nat} {xs : Int → Int} {R : zP} {x1 x2 x3 : Option zV} {st : List zV} {M : zM} {a : Nat} : uL L xs R 329 [some (.inr (.inr a)), x1, x2, x3] st M ↔ uL L xs R 330 [some (.inr (.inr a)), x1, x2, x3] (.inr (.inr a) :: st) M := zU_step dL_329 (Or.inl rfl)
theorem dL_330 : decode code 330 = .ok (.iload_n 3, 1) := by decide +kernel
theorem rL_330 {L : Nat} {xs : Int → Int} {R : zP} {x0 x1 x2 : Option zV} {st : List zV} {M : zM} {a : Int} : uL L xs R 330 [x0, x1, x2, some (.inl a)] st M ↔ uL L xs R 331 [x0, x1, x2, some (.inl a)] (.inl a :: st) M := zU_step dL_330 (Or.inl rfl)
theorem dL_331 : decode code 331 = .ok (.iconst 2, 1) := by decide +kernel
theorem rL_331 {L : Nat} {xs : Int → Int} {R : zP} {x0 x1 x2 x3 : Option zV} {st : List zV} {M : zM} : uL L xs R 331 [x0, x1, x2, x3] st M ↔ uL L xs R 332 [x0, x1, x2, x3] (.inl (2) :: st) M := zU_step dL_331 (Or.inl rfl)
theorem dL_332 : decode code 332 = .ok (.iadd, 1) := by decide +kernel
theorem rL_332 {L : Nat} {xs : Int → Int} {R : zP} {x0 x1 x2 x3 : Option zV} {st : List zV} {M : zM} {a b : Int} : uL L xs R 332 [x0, x1, x2, x3] (.inl b :: .inl a :: st) M ↔ uL L xs R 333 [x0, x1, x2, x3] (.inl (a + b) :: st) M := zU_step dL_332 (Or.inl rfl)
theorem dL_333 : decode code 333 = .ok (.iaload, 1) := by decide +kernel
theorem rL_333 {L : Nat} {xs : Int → Int} {R : zP} {x0 x1 x2 x3 : Option zV} {st : List zV} {M : zM} {i : Int} {r : Nat} : uL L xs R 333 [x0, x1, x2, x3] (.inl i :: .inr (.inr r) :: st) M ↔ zread (fL L xs) 0 r M i (fun v => uL L xs R 334 [x0, x1, x2, x3] (.inl v :: st) M) := zU_step dL_333 (Or.inl rfl)
theorem dL_334 : decode code 334 = .ok (.invokevirtual 35, 3) := by decide +kernel
theorem rL_334 {L : Nat} {xs : Int → Int} {R : zP} {x0 x1 x2 x3 : Option zV} {st : List zV} {M : zM} {a0 a1 a2 : zV} : uL L xs R 334 [x0, x1, x2, x3] (a2 :: a1 :: a0 :: st) M ↔ (st.length ≤ 4 ∧ zcv (zv 7 (znm tX7_cow)) [a0, a1, a2] M (fun v M => uL L xs R 337 [x0, x1, x2, x3] (v :: st) M)) := Iff.trans (zU_step dL_334 (Or.inl rfl)) ⟨fun h => ⟨h.2.1, zcv_of h.2.2⟩, fun h => ⟨rfl, h.1, zcv_to h.2⟩⟩
theorem dL_337 : decode code 337 = .ok (.aload_n 2, 1) := by decide +kernel
theorem rL_337 {L : Nat} {xs : Int → Int} {R : zP} {x0 x1 x3 : Option zV} {st : List zV} {M : zM} {a : Nat} : uL L xs R 337 [x0, x1, some (.inr (.inr a)), x3] st M ↔ uL L xs R 338 [x0, x1, some (.inr (.inr a)), x3] (.inr (.inr a) :: st) M := zU_step dL_337 (Or.inl rfl)
theorem dL_338 : decode code 338 = .ok (.aload_n 0, 1) := by decide +kernel
theorem rL_338 {L : Nat} {xs : Int → Int} {R : zP} {x1 x2 x3 : Option zV} {st : List zV} {M : zM} {a : Nat} : uL L xs R 338 [some (.inr (.inr a)), x1, x2, x3] st M ↔ uL L xs R 339 [some (.inr (.inr a)), x1, x2, x3] (.inr (.inr a) :: st) M := zU_step dL_338 (Or.inl rfl)
theorem dL_339 : decode code 339 = .ok (.iload_n 3, 1) := by decide +kernel
theorem rL_339 {L : Nat} {xs : Int → Int} {R : zP} {x0 x1 x2 : Option zV} {st : List zV} {M : zM} {a : Int} : uL L xs R 339 [x0, x1, x2, some (.inl a)] st M ↔ uL L xs R 340 [x0, x1, x2, some (.inl a)] (.inl a :: st) M := zU_step dL_339 (Or.inl rfl)
theorem dL_340 : decode code 340 = .ok (.iconst 1, 1) := by decide +kernel
theorem rL_340 {L : Nat} {xs : Int → Int} {R : zP} {x0 x1 x2 x3 : Option zV} {st : List zV} {M : zM} : uL L xs R 340 [x0, x1, x2, x3] st M ↔ uL L xs R 341 [x0, x1, x2, x3] (.inl (1) :: st) M := zU_step dL_340 (Or.inl rfl)
theorem dL_341 : decode code 341 = .ok (.iadd, 1) := by decide +kernel
theorem rL_341 {L : Nat} {xs : Int → Int} {R : zP} {x0 x1 x2 x3 : Option zV} {st : List zV} {M : zM} {a b : Int} : uL L xs R 341 [x0, x1, x2, x3] (.inl b :: .inl a :: st) M ↔ uL L xs R 342 [x0, x1, x2, x3] (.inl (a + b) :: st) M := zU_step dL_341 (Or.inl rfl)
theorem dL_342 : decode code 342 = .ok (.iaload, 1) := by decide +kernel
theorem rL_342 {L : Nat} {xs : Int → Int} {R : zP} {x0 x1 x2 x3 : Option zV} {st : List zV} {M : zM} {i : Int} {r : Nat} : uL L xs R 342 [x0, x1, x2, x3] (.inl i :: .inr (.inr r) :: st) M ↔ zread (fL L xs) 0 r M i (fun v => uL L xs R 343 [x0, x1, x2, x3] (.inl v :: st) M) := zU_step dL_342 (Or.inl rfl)
theorem dL_343 : decode code 343 = .ok (.aload_n 0, 1) := by decide +kernel
theorem rL_343 {L : Nat} {xs : Int → Int} {R : zP} {x1 x2 x3 : Option zV} {st : List zV} {M : zM} {a : Nat} : uL L xs R 343 [some (.inr (.inr a)), x1, x2, x3] st M ↔ uL L xs R 344 [some (.inr (.inr a)), x1, x2, x3] (.inr (.inr a) :: st) M := zU_step dL_343 (Or.inl rfl)
theorem dL_344 : decode code 344 = .ok (.iload_n 3, 1) := by decide +kernel
theorem rL_344 {L : Nat} {xs : Int → Int} {R : zP} {x0 x1 x2 : Option zV} {st : List zV} {M : zM} {a : Int} : uL L xs R 344 [x0, x1, x2, some (.inl a)] st M ↔ uL L xs R 345 [x0, x1, x2, some (.inl a)] (.inl a :: st) M := zU_step dL_344 (Or.inl rfl)
theorem dL_345 : decode code 345 = .ok (.iconst 2, 1) := by decide +kernel
theorem rL_345 {L : Nat} {xs : Int → Int} {R : zP} {x0 x1 x2 x3 : Option zV} {st : List zV} {M : zM} : uL L xs R 345 [x0, x1, x2, x3] st M ↔ uL L xs R 346 [x0, x1, x2, x3] (.inl (2) :: st) M := zU_step dL_345 (Or.inl rfl)
theorem dL_346 : decode code 346 = .ok (.iadd, 1) := by decide +kernel
theorem rL_346 {L : Nat} {xs : Int → Int} {R : zP} {x0 x1 x2 x3 : Option zV} {st : List zV} {M : zM} {a b : Int} : uL L xs R 346 [x0, x1, x2, x3] (.inl b :: .inl a :: st) M ↔ uL L xs R 347 [x0, x1, x2, x3] (.inl (a + b) :: st) M := zU_step dL_346 (Or.inl rfl)
theorem dL_347 : decode code 347 = .ok (.iaload, 1) := by decide +kernel
theorem rL_347 {L : Nat} {xs : Int → Int} {R : zP} {x0 x1 x2 x3 : Option zV} {st : List zV} {M : zM} {i : Int} {r : Nat} : uL L xs R 347 [x0, x1, x2, x3] (.inl i :: .inr (.inr r) :: st) M ↔ zread (fL L xs) 0 r M i (fun v => uL L xs R 348 [x0, x1, x2, x3] (.inl v :: st) M) := zU_step dL_347 (Or.inl rfl)
theorem dL_348 : decode code 348 = .ok (.invokevirtual 38, 3) := by decide +kernel
theorem rL_348 {L : Nat} {xs : Int → Int} {R : zP} {x0 x1 x2 x3 : Option zV} {st : List zV} {M : zM} {a0 a1 a2 : zV} : uL L xs R 348 [x0, x1, x2, x3] (a2 :: a1 :: a0 :: st) M ↔ (st.length ≤ 4 ∧ zcv (zv 8 (znm tX8_cow)) [a0, a1, a2] M (fun v M => uL L xs R 351 [x0, x1, x2, x3] (v :: st) M)) := Iff.trans (zU_step dL_348 (Or.inl rfl)) ⟨fun h => ⟨h.2.1, zcv_of h.2.2⟩, fun h => ⟨rfl, h.1, zcv_to h.2⟩⟩
theorem dL_351 : decode code 351 = .ok (.if_icmp .eq 1015, 3) := by decide +kernel
theorem rL_351 {L : Nat} {xs : Int → Int} {R : zP} {x0 x1 x2 x3 : Option zV} {st : List zV} {M : zM} {a b : Int} : uL L xs R 351 [x0, x1, x2, x3] (.inl b :: .inl a :: st) M ↔ ((zIR a ∧ zIR b) ∧ if a = b then uL L xs R 1366 [x0, x1, x2, x3] st M else uL L xs R 354 [x0, x1, x2, x3] st M) := Iff.trans (zU_step dL_351 (Or.inl rfl)) ⟨fun h => ⟨⟨h.1.1, h.1.2.1⟩, (zite (c := a = b)).mpr h.2⟩, fun h => ⟨⟨h.1.1, h.1.2, by decide⟩, (zite (c := a = b)).mp h.2⟩⟩
theorem dL_354 : decode code 354 = .ok (.iconst 0, 1) := by decide +kernel
theorem rL_354 {L : Nat} {xs : Int → Int} {R : zP} {x0 x1 x2 x3 : Option zV} {st : List zV} {M : zM} : uL L xs R 354 [x0, x1, x2, x3] st M ↔ uL L xs R 355 [x0, x1, x2, x3] (.inl (0) :: st) M := zU_step dL_354 (Or.inl rfl)
theorem dL_355 : decode code 355 = .ok (.ireturn, 1) := by decide +kernel
theorem rL_355 {L : Nat} {xs : Int → Int} {R : zP} {x0 x1 x2 x3 : Option zV} {M : zM} {a : Int} : uL L xs R 355 [x0, x1, x2, x3] [.inl a] M ↔ ((a = 0 ∨ a = 1) ∧ R (some (.inl a)) M) := Iff.trans (zU_step dL_355 (Or.inl rfl)) ⟨fun h => ⟨zret2 rfl h.2.1, h.2.2⟩, fun h => ⟨rfl, Or.inr (Or.inl ⟨rfl, h.1⟩), h.2⟩⟩
theorem dL_356 : decode code 356 = .ok (.aload_n 1, 1) := by decide +kernel
theorem rL_356 {L : Nat} {xs : Int → Int} {R : zP} {x0 x2 x3 : Option zV} {st : List zV} {M : zM} {a : Nat} : uL L xs R 356 [x0, some (.inr (.inr a)), x2, x3] st M ↔ uL L xs R 357 [x0, some (.inr (.inr a)), x2, x3] (.inr (.inr a) :: st) M := zU_step dL_356 (Or.inl rfl)
theorem dL_357 : decode code 357 = .ok (.aload_n 0, 1) := by decide +kernel
theorem rL_357 {L : Nat} {xs : Int → Int} {R : zP} {x1 x2 x3 : Option zV} {st : List zV} {M : zM} {a : Nat} : uL L xs R 357 [some (.inr (.inr a)), x1, x2, x3] st M ↔ uL L xs R 358 [some (.inr (.inr a)), x1, x2, x3] (.inr (.inr a) :: st) M := zU_step dL_357 (Or.inl rfl)
theorem dL_358 : decode code 358 = .ok (.iload_n 3, 1) := by decide +kernel
theorem rL_358 {L : Nat} {xs : Int → Int} {R : zP} {x0 x1 x2 : Option zV} {st : List zV} {M : zM} {a : Int} : uL L xs R 358 [x0, x1, x2, some (.inl a)] st M ↔ uL L xs R 359 [x0, x1, x2, some (.inl a)] (.inl a :: st) M := zU_step dL_358 (Or.inl rfl)
theorem dL_359 : decode code 359 = .ok (.iconst 1, 1) := by decide +kernel
theorem rL_359 {L : Nat} {xs : Int → Int} {R : zP} {x0 x1 x2 x3 : Option zV} {st : List zV} {M : zM} : uL L xs R 359 [x0, x1, x2, x3] st M ↔ uL L xs R 360 [x0, x1, x2, x3] (.inl (1) :: st) M := zU_step dL_359 (Or.inl rfl)
theorem dL_360 : decode code 360 = .ok (.iadd, 1) := by decide +kernel
theorem rL_360 {L : Nat} {xs : Int → Int} {R : zP} {x0 x1 x2 x3 : Option zV} {st : List zV} {M : zM} {a b : Int} : uL L xs R 360 [x0, x1, x2, x3] (.inl b :: .inl a :: st) M ↔ uL L xs R 361 [x0, x1, x2, x3] (.inl (a + b) :: st) M := zU_step dL_360 (Or.inl rfl)
theorem dL_361 : decode code 361 = .ok (.iaload, 1) := by decide +kernel
theorem rL_361 {L : Nat} {xs : Int → Int} {R : zP} {x0 x1 x2 x3 : Option zV} {st : List zV} {M : zM} {i : Int} {r : Nat} : uL L xs R 361 [x0, x1, x2, x3] (.inl i :: .inr (.inr r) :: st) M ↔ zread (fL L xs) 0 r M i (fun v => uL L xs R 362 [x0, x1, x2, x3] (.inl v :: st) M) := zU_step dL_361 (Or.inl rfl)
theorem dL_362 : decode code 362 = .ok (.aload_n 0, 1) := by decide +kernel
theorem rL_362 {L : Nat} {xs : Int → Int} {R : zP} {x1 x2 x3 : Option zV} {st : List zV} {M : zM} {a : Nat} : uL L xs R 362 [some (.inr (.inr a)), x1, x2, x3] st M ↔ uL L xs R 363 [some (.inr (.inr a)), x1, x2, x3] (.inr (.inr a) :: st) M := zU_step dL_362 (Or.inl rfl)
theorem dL_363 : decode code 363 = .ok (.iload_n 3, 1) := by decide +kernel
theorem rL_363 {L : Nat} {xs : Int → Int} {R : zP} {x0 x1 x2 : Option zV} {st : List zV} {M : zM} {a : Int} : uL L xs R 363 [x0, x1, x2, some (.inl a)] st M ↔ uL L xs R 364 [x0, x1, x2, some (.inl a)] (.inl a :: st) M := zU_step dL_363 (Or.inl rfl)
theorem dL_364 : decode code 364 = .ok (.iconst 2, 1) := by decide +kernel
theorem rL_364 {L : Nat} {xs : Int → Int} {R : zP} {x0 x1 x2 x3 : Option zV} {st : List zV} {M : zM} : uL L xs R 364 [x0, x1, x2, x3] st M ↔ uL L xs R 365 [x0, x1, x2, x3] (.inl (2) :: st) M := zU_step dL_364 (Or.inl rfl)
theorem dL_365 : decode code 365 = .ok (.iadd, 1) := by decide +kernel
theorem rL_365 {L : Nat} {xs : Int → Int} {R : zP} {x0 x1 x2 x3 : Option zV} {st : List zV} {M : zM} {a b : Int} : uL L xs R 365 [x0, x1, x2, x3] (.inl b :: .inl a :: st) M ↔ uL L xs R 366 [x0, x1, x2, x3] (.inl (a + b) :: st) M := zU_step dL_365 (Or.inl rfl)
theorem dL_366 : decode code 366 = .ok (.iaload, 1) := by decide +kernel
theorem rL_366 {L : Nat} {xs : Int → Int} {R : zP} {x0 x1 x2 x3 : Option zV} {st : List zV} {M : zM} {i : Int} {r : Nat} : uL L xs R 366 [x0, x1, x2, x3] (.inl i :: .inr (.inr r) :: st) M ↔ zread (fL L xs) 0 r M i (fun v => uL L xs R 367 [x0, x1, x2, x3] (.inl v :: st) M) := zU_step dL_366 (Or.inl rfl)
theorem dL_367 : decode code 367 = .ok (.aload_n 0, 1) := by decide +kernel
theorem rL_367 {L : Nat} {xs : Int → Int} {R : zP} {x1 x2 x3 : Option zV} {st : List zV} {M : zM} {a : Nat} : uL L xs R 367 [some (.inr (.inr a)), x1, x2, x3] st M ↔ uL L xs R 368 [some (.inr (.inr a)), x1, x2, x3] (.inr (.inr a) :: st) M := zU_step dL_367 (Or.inl rfl)
theorem dL_368 : decode code 368 = .ok (.iload_n 3, 1) := by decide +kernel
theorem rL_368 {L : Nat} {xs : Int → Int} {R : zP} {x0 x1 x2 : Option zV} {st : List zV} {M : zM} {a : Int} : uL L xs R 368 [x0, x1, x2, some (.inl a)] st M ↔ uL L xs R 369 [x0, x1, x2, some (.inl a)] (.inl a :: st) M := zU_step dL_368 (Or.inl rfl)
theorem dL_369 : decode code 369 = .ok (.iconst 3, 1) := by decide +kernel
theorem rL_369 {L : Nat} {xs : Int → Int} {R : zP} {x0 x1 x2 x3 : Option zV} {st : List zV} {M : zM} : uL L xs R 369 [x0, x1, x2, x3] st M ↔ uL L xs R 370 [x0, x1, x2, x3] (.inl (3) :: st) M := zU_step dL_369 (Or.inl rfl)
theorem dL_370 : decode code 370 = .ok (.iadd, 1) := by decide +kernel
theorem rL_370 {L : Nat} {xs : Int → Int} {R : zP} {x0 x1 x2 x3 : Option zV} {st : List zV} {M : zM} {a b : Int} : uL L xs R 370 [x0, x1, x2, x3] (.inl b :: .inl a :: st) M ↔ uL L xs R 371 [x0, x1, x2, x3] (.inl (a + b) :: st) M := zU_step dL_370 (Or.inl rfl)
theorem dL_371 : decode code 371 = .ok (.iaload, 1) := by decide +kernel
theorem rL_371 {L : Nat} {xs : Int → Int} {R : zP} {x0 x1 x2 x3 : Option zV} {st : List zV} {M : zM} {i : Int} {r : Nat} : uL L xs R 371 [x0, x1, x2, x3] (.inl i :: .inr (.inr r) :: st) M ↔ zread (fL L xs) 0 r M i (fun v => uL L xs R 372 [x0, x1, x2, x3] (.inl v :: st) M) := zU_step dL_371 (Or.inl rfl)
theorem dL_372 : decode code 372 = .ok (.invokevirtual 39, 3) := by decide +kernel
theorem rL_372 {L : Nat} {xs : Int → Int} {R : zP} {x0 x1 x2 x3 : Option zV} {st : List zV} {M : zM} {a0 a1 a2 a3 : zV} : uL L xs R 372 [x0, x1, x2, x3] (a3 :: a2 :: a1 :: a0 :: st) M ↔ (st.length ≤ 4 ∧ zcv (zv 7 (znm tX7_feed)) [a0, a1, a2, a3] M (fun v M => uL L xs R 375 [x0, x1, x2, x3] (v :: st) M)) := Iff.trans (zU_step dL_372 (Or.inl rfl)) ⟨fun h => ⟨h.2.1, zcv_of h.2.2⟩, fun h => ⟨rfl, h.1, zcv_to h.2⟩⟩
theorem dL_375 : decode code 375 = .ok (.aload_n 2, 1) := by decide +kernel
theorem rL_375 {L : Nat} {xs : Int → Int} {R : zP} {x0 x1 x3 : Option zV} {st : List zV} {M : zM} {a : Nat} : uL L xs R 375 [x0, x1, some (.inr (.inr a)), x3] st M ↔ uL L xs R 376 [x0, x1, some (.inr (.inr a)), x3] (.inr (.inr a) :: st) M := zU_step dL_375 (Or.inl rfl)
theorem dL_376 : decode code 376 = .ok (.aload_n 0, 1) := by decide +kernel
theorem rL_376 {L : Nat} {xs : Int → Int} {R : zP} {x1 x2 x3 : Option zV} {st : List zV} {M : zM} {a : Nat} : uL L xs R 376 [some (.inr (.inr a)), x1, x2, x3] st M ↔ uL L xs R 377 [some (.inr (.inr a)), x1, x2, x3] (.inr (.inr a) :: st) M := zU_step dL_376 (Or.inl rfl)
theorem dL_377 : decode code 377 = .ok (.iload_n 3, 1) := by decide +kernel
theorem rL_377 {L : Nat} {xs : Int → Int} {R : zP} {x0 x1 x2 : Option zV} {st : List zV} {M : zM} {a : Int} : uL L xs R 377 [x0, x1, x2, some (.inl a)] st M ↔ uL L xs R 378 [x0, x1, x2, some (.inl a)] (.inl a :: st) M := zU_step dL_377 (Or.inl rfl)
theorem dL_378 : decode code 378 = .ok (.iconst 1, 1) := by decide +kernel
theorem rL_378 {L : Nat} {xs : Int → Int} {R : zP} {x0 x1 x2 x3 : Option zV} {st : List zV} {M : zM} : uL L xs R 378 [x0, x1, x2, x3] st M ↔ uL L xs R 379 [x0, x1, x2, x3] (.inl (1) :: st) M := zU_step dL_378 (Or.inl rfl)
theorem dL_379 : decode code 379 = .ok (.iadd, 1) := by decide +kernel
theorem rL_379 {L : Nat} {xs : Int → Int} {R : zP} {x0 x1 x2 x3 : Option zV} {st : List zV} {M : zM} {a b : Int} : uL L xs R 379 [x0, x1, x2, x3] (.inl b :: .inl a :: st) M ↔ uL L xs R 380 [x0, x1, x2, x3] (.inl (a + b) :: st) M := zU_step dL_379 (Or.inl rfl)
theorem dL_380 : decode code 380 = .ok (.iaload, 1) := by decide +kernel
theorem rL_380 {L : Nat} {xs : Int → Int} {R : zP} {x0 x1 x2 x3 : Option zV} {st : List zV} {M : zM} {i : Int} {r : Nat} : uL L xs R 380 [x0, x1, x2, x3] (.inl i :: .inr (.inr r) :: st) M ↔ zread (fL L xs) 0 r M i (fun v => uL L xs R 381 [x0, x1, x2, x3] (.inl v :: st) M) := zU_step dL_380 (Or.inl rfl)
theorem dL_381 : decode code 381 = .ok (.aload_n 0, 1) := by decide +kernel
theorem rL_381 {L : Nat} {xs : Int → Int} {R : zP} {x1 x2 x3 : Option zV} {st : List zV} {M : zM} {a : Nat} : uL L xs R 381 [some (.inr (.inr a)), x1, x2, x3] st M ↔ uL L xs R 382 [some (.inr (.inr a)), x1, x2, x3] (.inr (.inr a) :: st) M := zU_step dL_381 (Or.inl rfl)
theorem dL_382 : decode code 382 = .ok (.iload_n 3, 1) := by decide +kernel
theorem rL_382 {L : Nat} {xs : Int → Int} {R : zP} {x0 x1 x2 : Option zV} {st : List zV} {M : zM} {a : Int} : uL L xs R 382 [x0, x1, x2, some (.inl a)] st M ↔ uL L xs R 383 [x0, x1, x2, some (.inl a)] (.inl a :: st) M := zU_step dL_382 (Or.inl rfl)
theorem dL_383 : decode code 383 = .ok (.iconst 2, 1) := by decide +kernel
theorem rL_383 {L : Nat} {xs : Int → Int} {R : zP} {x0 x1 x2 x3 : Option zV} {st : List zV} {M : zM} : uL L xs R 383 [x0, x1, x2, x3] st M ↔ uL L xs R 384 [x0, x1, x2, x3] (.inl (2) :: st) M := zU_step dL_383 (Or.inl rfl)
theorem dL_384 : decode code 384 = .ok (.iadd, 1) := by decide +kernel
theorem rL_384 {L : Nat} {xs : Int → Int} {R : zP} {x0 x1 x2 x3 : Option zV} {st : List zV} {M : zM} {a b : Int} : uL L xs R 384 [x0, x1, x2, x3] (.inl b :: .inl a :: st) M ↔ uL L xs R 385 [x0, x1, x2, x3] (.inl (a + b) :: st) M := zU_step dL_384 (Or.inl rfl)
theorem dL_385 : decode code 385 = .ok (.iaload, 1) := by decide +kernel
theorem rL_385 {L : Nat} {xs : Int → Int} {R : zP} {x0 x1 x2 x3 : Option zV} {st : List zV} {M : zM} {i : Int} {r : Nat} : uL L xs R 385 [x0, x1, x2, x3] (.inl i :: .inr (.inr r) :: st) M ↔ zread (fL L xs) 0 r M i (fun v => uL L xs R 386 [x0, x1, x2, x3] (.inl v :: st) M) := zU_step dL_385 (Or.inl rfl)
theorem dL_386 : decode code 386 = .ok (.aload_n 0, 1) := by decide +kernel
theorem rL_386 {L : Nat} {xs : Int → Int} {R : zP} {x1 x2 x3 : Option zV} {st : List zV} {M : zM} {a : Nat} : uL L xs R 386 [some (.inr (.inr a)), x1, x2, x3] st M ↔ uL L xs R 387 [some (.inr (.inr a)), x1, x2, x3] (.inr (.inr a) :: st) M := zU_step dL_386 (Or.inl rfl)
theorem dL_387 : decode code 387 = .ok (.iload_n 3, 1) := by decide +kernel
theorem rL_387 {L : Nat} {xs : Int → Int} {R : zP} {x0 x1 x2 : Option zV} {st : List zV} {M : zM} {a : Int} : uL L xs R 387 [x0, x1, x2, some (.inl a)] st M ↔ uL L xs R 388 [x0, x1, x2, some (.inl a)] (.inl a :: st) M := zU_step dL_387 (Or.inl rfl)
theorem dL_388 : decode code 388 = .ok (.iconst 3, 1) := by decide +kernel
theorem rL_388 {L : Nat} {xs : Int → Int} {R : zP} {x0 x1 x2 x3 : Option zV} {st : List zV} {M : zM} : uL L xs R 388 [x0, x1, x2, x3] st M ↔ uL L xs R 389 [x0, x1, x2, x3] (.inl (3) :: st) M := zU_step dL_388 (Or.inl rfl)
theorem dL_389 : decode code 389 = .ok (.iadd, 1) := by decide +kernel
theorem rL_389 {L : Nat} {xs : Int → Int} {R : zP} {x0 x1 x2 x3 : Option zV} {st : List zV} {M : zM} {a b : Int} : uL L xs R 389 [x0, x1, x2, x3] (.inl b :: .inl a :: st) M ↔ uL L xs R 390 [x0, x1, x2, x3] (.inl (a + b) :: st) M := zU_step dL_389 (Or.inl rfl)
theorem dL_390 : decode code 390 = .ok (.iaload, 1) := by decide +kernel
theorem rL_390 {L : Nat} {xs : Int → Int} {R : zP} {x0 x1 x2 x3 : Option zV} {st : List zV} {M : zM} {i : Int} {r : Nat} : uL L xs R 390 [x0, x1, x2, x3] (.inl i :: .inr (.inr r) :: st) M ↔ zread (fL L xs) 0 r M i (fun v => uL L xs R 391 [x0, x1, x2, x3] (.inl v :: st) M) := zU_step dL_390 (Or.inl rfl)
theorem dL_391 : decode code 391 = .ok (.invokevirtual 43, 3) := by decide +kernel
theorem rL_391 {L : Nat} {xs : Int → Int} {R : zP} {x0 x1 x2 x3 : Option zV} {st : List zV} {M : zM} {a0 a1 a2 a3 : zV} : uL L xs R 391 [x0, x1, x2, x3] (a3 :: a2 :: a1 :: a0 :: st) M ↔ (st.length ≤ 4 ∧ zcv (zv 8 (znm tX8_feed)) [a0, a1, a2, a3] M (fun v M => uL L xs R 394 [x0, x1, x2, x3] (v :: st) M)) := Iff.trans (zU_step dL_391 (Or.inl rfl)) ⟨fun h => ⟨h.2.1, zcv_of h.2.2⟩, fun h => ⟨rfl, h.1, zcv_to h.2⟩⟩
theorem dL_394 : decode code 394 = .ok (.if_icmp .eq 972, 3) := by decide +kernel
theorem rL_394 {L : Nat} {xs : Int → Int} {R : zP} {x0 x1 x2 x3 : Option zV} {st : List zV} {M : zM} {a b : Int} : uL L xs R 394 [x0, x1, x2, x3] (.inl b :: .inl a :: st) M ↔ ((zIR a ∧ zIR b) ∧ if a = b then uL L xs R 1366 [x0, x1, x2, x3] st M else uL L xs R 397 [x0, x1, x2, x3] st M) := Iff.trans (zU_step dL_394 (Or.inl rfl)) ⟨fun h => ⟨⟨h.1.1, h.1.2.1⟩, (zite (c := a = b)).mpr h.2⟩, fun h => ⟨⟨h.1.1, h.1.2, by decide⟩, (zite (c := a = b)).mp h.2⟩⟩
theorem dL_397 : decode code 397 = .ok (.iconst 0, 1) := by decide +kernel
theorem rL_397 {L : Nat} {xs : Int → Int} {R : zP} {x0 x1 x2 x3 : Option zV} {st : List zV} {M : zM} : uL L xs R 397 [x0, x1, x2, x3] st M ↔ uL L xs R 398 [x0, x1, x2, x3] (.inl (0) :: st) M := zU_step dL_397 (Or.inl rfl)
theorem dL_398 : decode code 398 = .ok (.ireturn, 1) := by decide +kernel
theorem rL_398 {L : Nat} {xs : Int → Int} {R : zP} {x0 x1 x2 x3 : Option zV} {M : zM} {a : Int} : uL L xs R 398 [x0, x1, x2, x3] [.inl a] M ↔ ((a = 0 ∨ a = 1) ∧ R (some (.inl a)) M) := Iff.trans (zU_step dL_398 (Or.inl rfl)) ⟨fun h => ⟨zret2 rfl h.2.1, h.2.2⟩, fun h => ⟨rfl, Or.inr (Or.inl ⟨rfl, h.1⟩), h.2⟩⟩
theorem dL_399 : decode code 399 = .ok (.aload_n 1, 1) := by decide +kernel
theorem rL_399 {L : Nat} {xs : Int → Int} {R : zP} {x0 x2 x3 : Option zV} {st : List zV} {M : zM} {a : Nat} : uL L xs R 399 [x0, some (.inr (.inr a)), x2, x3] st M ↔ uL L xs R 400 [x0, some (.inr (.inr a)), x2, x3] (.inr (.inr a) :: st) M := zU_step dL_399 (Or.inl rfl)
theorem dL_400 : decode code 400 = .ok (.invokevirtual 44, 3) := by decide +kernel
theorem rL_400 {L : Nat} {xs : Int → Int} {R : zP} {x0 x1 x2 x3 : Option zV} {st : List zV} {M : zM} {a0 : zV} : uL L xs R 400 [x0, x1, x2, x3] (a0 :: st) M ↔ (st.length ≤ 4 ∧ zcv (zv 7 (znm tX7_back)) [a0] M (fun v M => uL L xs R 403 [x0, x1, x2, x3] (v :: st) M)) := Iff.trans (zU_step dL_400 (Or.inl rfl)) ⟨fun h => ⟨h.2.1, zcv_of h.2.2⟩, fun h => ⟨rfl, h.1, zcv_to h.2⟩⟩
theorem dL_403 : decode code 403 = .ok (.aload_n 2, 1) := by decide +kernel
theorem rL_403 {L : Nat} {xs : Int → Int} {R : zP} {x0 x1 x3 : Option zV} {st : List zV} {M : zM} {a : Nat} : uL L xs R 403 [x0, x1, some (.inr (.inr a)), x3] st M ↔ uL L xs R 404 [x0, x1, some (.inr (.inr a)), x3] (.inr (.inr a) :: st) M := zU_step dL_403 (Or.inl rfl)
theorem dL_404 : decode code 404 = .ok (.invokevirtual 48, 3) := by decide +kernel
theorem rL_404 {L : Nat} {xs : Int → Int} {R : zP} {x0 x1 x2 x3 : Option zV} {st : List zV} {M : zM} {a0 : zV} : uL L xs R 404 [x0, x1, x2, x3] (a0 :: st) M ↔ (st.length ≤ 4 ∧ zcv (zv 8 (znm tX8_back)) [a0] M (fun v M => uL L xs R 407 [x0, x1, x2, x3] (v :: st) M)) := Iff.trans (zU_step dL_404 (Or.inl rfl)) ⟨fun h => ⟨h.2.1, zcv_of h.2.2⟩, fun h => ⟨rfl, h.1, zcv_to h.2⟩⟩
theorem dL_407 : decode code 407 = .ok (.if_icmp .eq 959, 3) := by decide +kernel
theorem rL_407 {L : Nat} {xs : Int → Int} {R : zP} {x0 x1 x2 x3 : Option zV} {st : List zV} {M : zM} {a b : Int} : uL L xs R 407 [x0, x1, x2, x3] (.inl b :: .inl a :: st) M ↔ ((zIR a ∧ zIR b) ∧ if a = b then uL L xs R 1366 [x0, x1, x2, x3] st M else uL L xs R 410 [x0, x1, x2, x3] st M) := Iff.trans (zU_step dL_407 (Or.inl rfl)) ⟨fun h => ⟨⟨h.1.1, h.1.2.1⟩, (zite (c := a = b)).mpr h.2⟩, fun h => ⟨⟨h.1.1, h.1.2, by decide⟩, (zite (c := a = b)).mp h.2⟩⟩
theorem dL_410 : decode code 410 = .ok (.iconst 0, 1) := by decide +kernel
theorem rL_410 {L : Nat} {xs : Int → Int} {R : zP} {x0 x1 x2 x3 : Option zV} {st : List zV} {M : zM} : uL L xs R 410 [x0, x1, x2, x3] st M ↔ uL L xs R 411 [x0, x1, x2, x3] (.inl (0) :: st) M := zU_step dL_410 (Or.inl rfl)
theorem dL_411 : decode code 411 = .ok (.ireturn, 1) := by decide +kernel
theorem rL_411 {L : Nat} {xs : Int → Int} {R : zP} {x0 x1 x2 x3 : Option zV} {M : zM} {a : Int} : uL L xs R 411 [x0, x1, x2, x3] [.inl a] M ↔ ((a = 0 ∨ a = 1) ∧ R (some (.inl a)) M) := Iff.trans (zU_step dL_411 (Or.inl rfl)) ⟨fun h => ⟨zret2 rfl h.2.1, h.2.2⟩, fun h => ⟨rfl, Or.inr (Or.inl ⟨rfl, h.1⟩), h.2⟩⟩
theorem dL_412 : decode code 412 = .ok (.aload_n 1, 1) := by decide +kernel
theorem rL_412 {L : Nat} {xs : Int → Int} {R : zP} {x0 x2 x3 : Option zV} {st : List zV} {M : zM} {a : Nat} : uL L xs R 412 [x0, some (.inr (.inr a)), x2, x3] st M ↔ uL L xs R 413 [x0, some (.inr (.inr a)), x2, x3] (.inr (.inr a) :: st) M := zU_step dL_412 (Or.inl rfl)
theorem dL_413 : decode code 413 = .ok (.aload_n 0, 1) := by decide +kernel
theorem rL_413 {L : Nat} {xs : Int → Int} {R : zP} {x1 x2 x3 : Option zV} {st : List zV} {M : zM} {a : Nat} : uL L xs R 413 [some (.inr (.inr a)), x1, x2, x3] st M ↔ uL L xs R 414 [some (.inr (.inr a)), x1, x2, x3] (.inr (.inr a) :: st) M := zU_step dL_413 (Or.inl rfl)
theorem dL_414 : decode code 414 = .ok (.iload_n 3, 1) := by decide +kernel
theorem rL_414 {L : Nat} {xs : Int → Int} {R : zP} {x0 x1 x2 : Option zV} {st : List zV} {M : zM} {a : Int} : uL L xs R 414 [x0, x1, x2, some (.inl a)] st M ↔ uL L xs R 415 [x0, x1, x2, some (.inl a)] (.inl a :: st) M := zU_step dL_414 (Or.inl rfl)
theorem dL_415 : decode code 415 = .ok (.iconst 1, 1) := by decide +kernel
theorem rL_415 {L : Nat} {xs : Int → Int} {R : zP} {x0 x1 x2 x3 : Option zV} {st : List zV} {M : zM} : uL L xs R 415 [x0, x1, x2, x3] st M ↔ uL L xs R 416 [x0, x1, x2, x3] (.inl (1) :: st) M := zU_step dL_415 (Or.inl rfl)
theorem dL_416 : decode code 416 = .ok (.iadd, 1) := by decide +kernel
theorem rL_416 {L : Nat} {xs : Int → Int} {R : zP} {x0 x1 x2 x3 : Option zV} {st : List zV} {M : zM} {a b : Int} : uL L xs R 416 [x0, x1, x2, x3] (.inl b :: .inl a :: st) M ↔ uL L xs R 417 [x0, x1, x2, x3] (.inl (a + b) :: st) M := zU_step dL_416 (Or.inl rfl)
theorem dL_417 : decode code 417 = .ok (.iaload, 1) := by decide +kernel
theorem rL_417 {L : Nat} {xs : Int → Int} {R : zP} {x0 x1 x2 x3 : Option zV} {st : List zV} {M : zM} {i : Int} {r : Nat} : uL L xs R 417 [x0, x1, x2, x3] (.inl i :: .inr (.inr r) :: st) M ↔ zread (fL L xs) 0 r M i (fun v => uL L xs R 418 [x0, x1, x2, x3] (.inl v :: st) M) := zU_step dL_417 (Or.inl rfl)
theorem dL_418 : decode code 418 = .ok (.invokevirtual 49, 3) := by decide +kernel
theorem rL_418 {L : Nat} {xs : Int → Int} {R : zP} {x0 x1 x2 x3 : Option zV} {st : List zV} {M : zM} {a0 a1 : zV} : uL L xs R 418 [x0, x1, x2, x3] (a1 :: a0 :: st) M ↔ (st.length ≤ 4 ∧ zcv (zv 7 (znm tX7_read)) [a0, a1] M (fun v M => uL L xs R 421 [x0, x1, x2, x3] (v :: st) M)) := Iff.trans (zU_step dL_418 (Or.inl rfl)) ⟨fun h => ⟨h.2.1, zcv_of h.2.2⟩, fun h => ⟨rfl, h.1, zcv_to h.2⟩⟩
theorem dL_421 : decode code 421 = .ok (.aload_n 2, 1) := by decide +kernel
theorem rL_421 {L : Nat} {xs : Int → Int} {R : zP} {x0 x1 x3 : Option zV} {st : List zV} {M : zM} {a : Nat} : uL L xs R 421 [x0, x1, some (.inr (.inr a)), x3] st M ↔ uL L xs R 422 [x0, x1, some (.inr (.inr a)), x3] (.inr (.inr a) :: st) M := zU_step dL_421 (Or.inl rfl)
theorem dL_422 : decode code 422 = .ok (.aload_n 0, 1) := by decide +kernel
theorem rL_422 {L : Nat} {xs : Int → Int} {R : zP} {x1 x2 x3 : Option zV} {st : List zV} {M : zM} {a : Nat} : uL L xs R 422 [some (.inr (.inr a)), x1, x2, x3] st M ↔ uL L xs R 423 [some (.inr (.inr a)), x1, x2, x3] (.inr (.inr a) :: st) M := zU_step dL_422 (Or.inl rfl)
theorem dL_423 : decode code 423 = .ok (.iload_n 3, 1) := by decide +kernel
theorem rL_423 {L : Nat} {xs : Int → Int} {R : zP} {x0 x1 x2 : Option zV} {st : List zV} {M : zM} {a : Int} : uL L xs R 423 [x0, x1, x2, some (.inl a)] st M ↔ uL L xs R 424 [x0, x1, x2, some (.inl a)] (.inl a :: st) M := zU_step dL_423 (Or.inl rfl)
theorem dL_424 : decode code 424 = .ok (.iconst 1, 1) := by decide +kernel
theorem rL_424 {L : Nat} {xs : Int → Int} {R : zP} {x0 x1 x2 x3 : Option zV} {st : List zV} {M : zM} : uL L xs R 424 [x0, x1, x2, x3] st M ↔ uL L xs R 425 [x0, x1, x2, x3] (.inl (1) :: st) M := zU_step dL_424 (Or.inl rfl)
theorem dL_425 : decode code 425 = .ok (.iadd, 1) := by decide +kernel
theorem rL_425 {L : Nat} {xs : Int → Int} {R : zP} {x0 x1 x2 x3 : Option zV} {st : List zV} {M : zM} {a b : Int} : uL L xs R 425 [x0, x1, x2, x3] (.inl b :: .inl a :: st) M ↔ uL L xs R 426 [x0, x1, x2, x3] (.inl (a + b) :: st) M := zU_step dL_425 (Or.inl rfl)
theorem dL_426 : decode code 426 = .ok (.iaload, 1) := by decide +kernel
theorem rL_426 {L : Nat} {xs : Int → Int} {R : zP} {x0 x1 x2 x3 : Option zV} {st : List zV} {M : zM} {i : Int} {r : Nat} : uL L xs R 426 [x0, x1, x2, x3] (.inl i :: .inr (.inr r) :: st) M ↔ zread (fL L xs) 0 r M i (fun v => uL L xs R 427 [x0, x1, x2, x3] (.inl v :: st) M) := zU_step dL_426 (Or.inl rfl)
theorem dL_427 : decode code 427 = .ok (.invokevirtual 52, 3) := by decide +kernel
theorem rL_427 {L : Nat} {xs : Int → Int} {R : zP} {x0 x1 x2 x3 : Option zV} {st : List zV} {M : zM} {a0 a1 : zV} : uL L xs R 427 [x0, x1, x2, x3] (a1 :: a0 :: st) M ↔ (st.length ≤ 4 ∧ zcv (zv 8 (znm tX8_read)) [a0, a1] M (fun v M => uL L xs R 430 [x0, x1, x2, x3] (v :: st) M)) := Iff.trans (zU_step dL_427 (Or.inl rfl)) ⟨fun h => ⟨h.2.1, zcv_of h.2.2⟩, fun h => ⟨rfl, h.1, zcv_to h.2⟩⟩
theorem dL_430 : decode code 430 = .ok (.if_icmp .eq 936, 3) := by decide +kernel
theorem rL_430 {L : Nat} {xs : Int → Int} {R : zP} {x0 x1 x2 x3 : Option zV} {st : List zV} {M : zM} {a b : Int} : uL L xs R 430 [x0, x1, x2, x3] (.inl b :: .inl a :: st) M ↔ ((zIR a ∧ zIR b) ∧ if a = b then uL L xs R 1366 [x0, x1, x2, x3] st M else uL L xs R 433 [x0, x1, x2, x3] st M) := Iff.trans (zU_step dL_430 (Or.inl rfl)) ⟨fun h => ⟨⟨h.1.1, h.1.2.1⟩, (zite (c := a = b)).mpr h.2⟩, fun h => ⟨⟨h.1.1, h.1.2, by decide⟩, (zite (c := a = b)).mp h.2⟩⟩
theorem dL_433 : decode code 433 = .ok (.iconst 0, 1) := by decide +kernel
theorem rL_433 {L : Nat} {xs : Int → Int} {R : zP} {x0 x1 x2 x3 : Option zV} {st : List zV} {M : zM} : uL L xs R 433 [x0, x1, x2, x3] st M ↔ uL L xs R 434 [x0, x1, x2, x3] (.inl (0) :: st) M := zU_step dL_433 (Or.inl rfl)
theorem dL_434 : decode code 434 = .ok (.ireturn, 1) := by decide +kernel
theorem rL_434 {L : Nat} {xs : Int → Int} {R : zP} {x0 x1 x2 x3 : Option zV} {M : zM} {a : Int} : uL L xs R 434 [x0, x1, x2, x3] [.inl a] M ↔ ((a = 0 ∨ a = 1) ∧ R (some (.inl a)) M) := Iff.trans (zU_step dL_434 (Or.inl rfl)) ⟨fun h => ⟨zret2 rfl h.2.1, h.2.2⟩, fun h => ⟨rfl, Or.inr (Or.inl ⟨rfl, h.1⟩), h.2⟩⟩
theorem dL_435 : decode code 435 = .ok (.aload_n 1, 1) := by decide +kernel
theorem rL_435 {L : Nat} {xs : Int → Int} {R : zP} {x0 x2 x3 : Option zV} {st : List zV} {M : zM} {a : Nat} : uL L xs R 435 [x0, some (.inr (.inr a)), x2, x3] st M ↔ uL L xs R 436 [x0, some (.inr (.inr a)), x2, x3] (.inr (.inr a) :: st) M := zU_step dL_435 (Or.inl rfl)
theorem dL_436 : decode code 436 = .ok (.aload_n 0, 1) := by decide +kernel
theorem rL_436 {L : Nat} {xs : Int → Int} {R : zP} {x1 x2 x3 : Option zV} {st : List zV} {M : zM} {a : Nat} : uL L xs R 436 [some (.inr (.inr a)), x1, x2, x3] st M ↔ uL L xs R 437 [some (.inr (.inr a)), x1, x2, x3] (.inr (.inr a) :: st) M := zU_step dL_436 (Or.inl rfl)
theorem dL_437 : decode code 437 = .ok (.iload_n 3, 1) := by decide +kernel
theorem rL_437 {L : Nat} {xs : Int → Int} {R : zP} {x0 x1 x2 : Option zV} {st : List zV} {M : zM} {a : Int} : uL L xs R 437 [x0, x1, x2, some (.inl a)] st M ↔ uL L xs R 438 [x0, x1, x2, some (.inl a)] (.inl a :: st) M := zU_step dL_437 (Or.inl rfl)
theorem dL_438 : decode code 438 = .ok (.iconst 1, 1) := by decide +kernel
theorem rL_438 {L : Nat} {xs : Int → Int} {R : zP} {x0 x1 x2 x3 : Option zV} {st : List zV} {M : zM} : uL L xs R 438 [x0, x1, x2, x3] st M ↔ uL L xs R 439 [x0, x1, x2, x3] (.inl (1) :: st) M := zU_step dL_438 (Or.inl rfl)
theorem dL_439 : decode code 439 = .ok (.iadd, 1) := by decide +kernel
theorem rL_439 {L : Nat} {xs : Int → Int} {R : zP} {x0 x1 x2 x3 : Option zV} {st : List zV} {M : zM} {a b : Int} : uL L xs R 439 [x0, x1, x2, x3] (.inl b :: .inl a :: st) M ↔ uL L xs R 440 [x0, x1, x2, x3] (.inl (a + b) :: st) M := zU_step dL_439 (Or.inl rfl)
theorem dL_440 : decode code 440 = .ok (.iaload, 1) := by decide +kernel
theorem rL_440 {L : Nat} {xs : Int → Int} {R : zP} {x0 x1 x2 x3 : Option zV} {st : List zV} {M : zM} {i : Int} {r : Nat} : uL L xs R 440 [x0, x1, x2, x3] (.inl i :: .inr (.inr r) :: st) M ↔ zread (fL L xs) 0 r M i (fun v => uL L xs R 441 [x0, x1, x2, x3] (.inl v :: st) M) := zU_step dL_440 (Or.inl rfl)
theorem dL_441 : decode code 441 = .ok (.aload_n 0, 1) := by decide +kernel
theorem rL_441 {L : Nat} {xs : Int → Int} {R : zP} {x1 x2 x3 : Option zV} {st : List zV} {M : zM} {a : Nat} : uL L xs R 441 [some (.inr (.inr a)), x1, x2, x3] st M ↔ uL L xs R 442 [some (.inr (.inr a)), x1, x2, x3] (.inr (.inr a) :: st) M := zU_step dL_441 (Or.inl rfl)
theorem dL_442 : decode code 442 = .ok (.iload_n 3, 1) := by decide +kernel
theorem rL_442 {L : Nat} {xs : Int → Int} {R : zP} {x0 x1 x2 : Option zV} {st : List zV} {M : zM} {a : Int} : uL L xs R 442 [x0, x1, x2, some (.inl a)] st M ↔ uL L xs R 443 [x0, x1, x2, some (.inl a)] (.inl a :: st) M := zU_step dL_442 (Or.inl rfl)
theorem dL_443 : decode code 443 = .ok (.iconst 2, 1) := by decide +kernel
theorem rL_443 {L : Nat} {xs : Int → Int} {R : zP} {x0 x1 x2 x3 : Option zV} {st : List zV} {M : zM} : uL L xs R 443 [x0, x1, x2, x3] st M ↔ uL L xs R 444 [x0, x1, x2, x3] (.inl (2) :: st) M := zU_step dL_443 (Or.inl rfl)
theorem dL_444 : decode code 444 = .ok (.iadd, 1) := by decide +kernel
theorem rL_444 {L : Nat} {xs : Int → Int} {R : zP} {x0 x1 x2 x3 : Option zV} {st : List zV} {M : zM} {a b : Int} : uL L xs R 444 [x0, x1, x2, x3] (.inl b :: .inl a :: st) M ↔ uL L xs R 445 [x0, x1, x2, x3] (.inl (a + b) :: st) M := zU_step dL_444 (Or.inl rfl)
theorem dL_445 : decode code 445 = .ok (.iaload, 1) := by decide +kernel
theorem rL_445 {L : Nat} {xs : Int → Int} {R : zP} {x0 x1 x2 x3 : Option zV} {st : List zV} {M : zM} {i : Int} {r : Nat} : uL L xs R 445 [x0, x1, x2, x3] (.inl i :: .inr (.inr r) :: st) M ↔ zread (fL L xs) 0 r M i (fun v => uL L xs R 446 [x0, x1, x2, x3] (.inl v :: st) M) := zU_step dL_445 (Or.inl rfl)
theorem dL_446 : decode code 446 = .ok (.aload_n 0, 1) := by decide +kernel
theorem rL_446 {L : Nat} {xs : Int → Int} {R : zP} {x1 x2 x3 : Option zV} {st : List zV} {M : zM} {a : Nat} : uL L xs R 446 [some (.inr (.inr a)), x1, x2, x3] st M ↔ uL L xs R 447 [some (.inr (.inr a)), x1, x2, x3] (.inr (.inr a) :: st) M := zU_step dL_446 (Or.inl rfl)
theorem dL_447 : decode code 447 = .ok (.iload_n 3, 1) := by decide +kernel
theorem rL_447 {L : Nat} {xs : Int → Int} {R : zP} {x0 x1 x2 : Option zV} {st : List zV} {M : zM} {a : Int} : uL L xs R 447 [x0, x1, x2, some (.inl a)] st M ↔ uL L xs R 448 [x0, x1, x2, some (.inl a)] (.inl a :: st) M := zU_step dL_447 (Or.inl rfl)
theorem dL_448 : decode code 448 = .ok (.iconst 3, 1) := by decide +kernel
theorem rL_448 {L : Nat} {xs : Int → Int} {R : zP} {x0 x1 x2 x3 : Option zV} {st : List zV} {M : zM} : uL L xs R 448 [x0, x1, x2, x3] st M ↔ uL L xs R 449 [x0, x1, x2, x3] (.inl (3) :: st) M := zU_step dL_448 (Or.inl rfl)
theorem dL_449 : decode code 449 = .ok (.iadd, 1) := by decide +kernel
theorem rL_449 {L : Nat} {xs : Int → Int} {R : zP} {x0 x1 x2 x3 : Option zV} {st : List zV} {M : zM} {a b : Int} : uL L xs R 449 [x0, x1, x2, x3] (.inl b :: .inl a :: st) M ↔ uL L xs R 450 [x0, x1, x2, x3] (.inl (a + b) :: st) M := zU_step dL_449 (Or.inl rfl)
theorem dL_450 : decode code 450 = .ok (.iaload, 1) := by decide +kernel
theorem rL_450 {L : Nat} {xs : Int → Int} {R : zP} {x0 x1 x2 x3 : Option zV} {st : List zV} {M : zM} {i : Int} {r : Nat} : uL L xs R 450 [x0, x1, x2, x3] (.inl i :: .inr (.inr r) :: st) M ↔ zread (fL L xs) 0 r M i (fun v => uL L xs R 451 [x0, x1, x2, x3] (.inl v :: st) M) := zU_step dL_450 (Or.inl rfl)
theorem dL_451 : decode code 451 = .ok (.aload_n 0, 1) := by decide +kernel
theorem rL_451 {L : Nat} {xs : Int → Int} {R : zP} {x1 x2 x3 : Option zV} {st : List zV} {M : zM} {a : Nat} : uL L xs R 451 [some (.inr (.inr a)), x1, x2, x3] st M ↔ uL L xs R 452 [some (.inr (.inr a)), x1, x2, x3] (.inr (.inr a) :: st) M := zU_step dL_451 (Or.inl rfl)
theorem dL_452 : decode code 452 = .ok (.iload_n 3, 1) := by decide +kernel
theorem rL_452 {L : Nat} {xs : Int → Int} {R : zP} {x0 x1 x2 : Option zV} {st : List zV} {M : zM} {a : Int} : uL L xs R 452 [x0, x1, x2, some (.inl a)] st M ↔ uL L xs R 453 [x0, x1, x2, some (.inl a)] (.inl a :: st) M := zU_step dL_452 (Or.inl rfl)
theorem dL_453 : decode code 453 = .ok (.iconst 4, 1) := by decide +kernel
theorem rL_453 {L : Nat} {xs : Int → Int} {R : zP} {x0 x1 x2 x3 : Option zV} {st : List zV} {M : zM} : uL L xs R 453 [x0, x1, x2, x3] st M ↔ uL L xs R 454 [x0, x1, x2, x3] (.inl (4) :: st) M := zU_step dL_453 (Or.inl rfl)
theorem dL_454 : decode code 454 = .ok (.iadd, 1) := by decide +kernel
theorem rL_454 {L : Nat} {xs : Int → Int} {R : zP} {x0 x1 x2 x3 : Option zV} {st : List zV} {M : zM} {a b : Int} : uL L xs R 454 [x0, x1, x2, x3] (.inl b :: .inl a :: st) M ↔ uL L xs R 455 [x0, x1, x2, x3] (.inl (a + b) :: st) M := zU_step dL_454 (Or.inl rfl)
theorem dL_455 : decode code 455 = .ok (.iaload, 1) := by decide +kernel
theorem rL_455 {L : Nat} {xs : Int → Int} {R : zP} {x0 x1 x2 x3 : Option zV} {st : List zV} {M : zM} {i : Int} {r : Nat} : uL L xs R 455 [x0, x1, x2, x3] (.inl i :: .inr (.inr r) :: st) M ↔ zread (fL L xs) 0 r M i (fun v => uL L xs R 456 [x0, x1, x2, x3] (.inl v :: st) M) := zU_step dL_455 (Or.inl rfl)
theorem dL_456 : decode code 456 = .ok (.invokevirtual 53, 3) := by decide +kernel
theorem rL_456 {L : Nat} {xs : Int → Int} {R : zP} {x0 x1 x2 x3 : Option zV} {st : List zV} {M : zM} {a0 a1 a2 a3 a4 : zV} : uL L xs R 456 [x0, x1, x2, x3] (a4 :: a3 :: a2 :: a1 :: a0 :: st) M ↔ (st.length ≤ 4 ∧ zcv (zv 7 (znm tX7_at)) [a0, a1, a2, a3, a4] M (fun v M => uL L xs R 459 [x0, x1, x2, x3] (v :: st) M)) := Iff.trans (zU_step dL_456 (Or.inl rfl)) ⟨fun h => ⟨h.2.1, zcv_of h.2.2⟩, fun h => ⟨rfl, h.1, zcv_to h.2⟩⟩
theorem dL_459 : decode code 459 = .ok (.aload_n 2, 1) := by decide +kernel
theorem rL_459 {L : Nat} {xs : Int → Int} {R : zP} {x0 x1 x3 : Option zV} {st : List zV} {M : zM} {a : Nat} : uL L xs R 459 [x0, x1, some (.inr (.inr a)), x3] st M ↔ uL L xs R 460 [x0, x1, some (.inr (.inr a)), x3] (.inr (.inr a) :: st) M := zU_step dL_459 (Or.inl rfl)
theorem dL_460 : decode code 460 = .ok (.aload_n 0, 1) := by decide +kernel
theorem rL_460 {L : Nat} {xs : Int → Int} {R : zP} {x1 x2 x3 : Option zV} {st : List zV} {M : zM} {a : Nat} : uL L xs R 460 [some (.inr (.inr a)), x1, x2, x3] st M ↔ uL L xs R 461 [some (.inr (.inr a)), x1, x2, x3] (.inr (.inr a) :: st) M := zU_step dL_460 (Or.inl rfl)
theorem dL_461 : decode code 461 = .ok (.iload_n 3, 1) := by decide +kernel
theorem rL_461 {L : Nat} {xs : Int → Int} {R : zP} {x0 x1 x2 : Option zV} {st : List zV} {M : zM} {a : Int} : uL L xs R 461 [x0, x1, x2, some (.inl a)] st M ↔ uL L xs R 462 [x0, x1, x2, some (.inl a)] (.inl a :: st) M := zU_step dL_461 (Or.inl rfl)
theorem dL_462 : decode code 462 = .ok (.iconst 1, 1) := by decide +kernel
theorem rL_462 {L : Nat} {xs : Int → Int} {R : zP} {x0 x1 x2 x3 : Option zV} {st : List zV} {M : zM} : uL L xs R 462 [x0, x1, x2, x3] st M ↔ uL L xs R 463 [x0, x1, x2, x3] (.inl (1) :: st) M := zU_step dL_462 (Or.inl rfl)
theorem dL_463 : decode code 463 = .ok (.iadd, 1) := by decide +kernel
theorem rL_463 {L : Nat} {xs : Int → Int} {R : zP} {x0 x1 x2 x3 : Option zV} {st : List zV} {M : zM} {a b : Int} : uL L xs R 463 [x0, x1, x2, x3] (.inl b :: .inl a :: st) M ↔ uL L xs R 464 [x0, x1, x2, x3] (.inl (a + b) :: st) M := zU_step dL_463 (Or.inl rfl)
theorem dL_464 : decode code 464 = .ok (.iaload, 1) := by decide +kernel
theorem rL_464 {L : Nat} {xs : Int → Int} {R : zP} {x0 x1 x2 x3 : Option zV} {st : List zV} {M : zM} {i : Int} {r : Nat} : uL L xs R 464 [x0, x1, x2, x3] (.inl i :: .inr (.inr r) :: st) M ↔ zread (fL L xs) 0 r M i (fun v => uL L xs R 465 [x0, x1, x2, x3] (.inl v :: st) M) := zU_step dL_464 (Or.inl rfl)
theorem dL_465 : decode code 465 = .ok (.aload_n 0, 1) := by decide +kernel
theorem rL_465 {L : Nat} {xs : Int → Int} {R : zP} {x1 x2 x3 : Option zV} {st : List zV} {M : zM} {a : Nat} : uL L xs R 465 [some (.inr (.inr a)), x1, x2, x3] st M ↔ uL L xs R 466 [some (.inr (.inr a)), x1, x2, x3] (.inr (.inr a) :: st) M := zU_step dL_465 (Or.inl rfl)
theorem dL_466 : decode code 466 = .ok (.iload_n 3, 1) := by decide +kernel
theorem rL_466 {L : Nat} {xs : Int → Int} {R : zP} {x0 x1 x2 : Option zV} {st : List zV} {M : zM} {a : Int} : uL L xs R 466 [x0, x1, x2, some (.inl a)] st M ↔ uL L xs R 467 [x0, x1, x2, some (.inl a)] (.inl a :: st) M := zU_step dL_466 (Or.inl rfl)
theorem dL_467 : decode code 467 = .ok (.iconst 2, 1) := by decide +kernel
theorem rL_467 {L : Nat} {xs : Int → Int} {R : zP} {x0 x1 x2 x3 : Option zV} {st : List zV} {M : zM} : uL L xs R 467 [x0, x1, x2, x3] st M ↔ uL L xs R 468 [x0, x1, x2, x3] (.inl (2) :: st) M := zU_step dL_467 (Or.inl rfl)
theorem dL_468 : decode code 468 = .ok (.iadd, 1) := by decide +kernel
theorem rL_468 {L : Nat} {xs : Int → Int} {R : zP} {x0 x1 x2 x3 : Option zV} {st : List zV} {M : zM} {a b : Int} : uL L xs R 468 [x0, x1, x2, x3] (.inl b :: .inl a :: st) M ↔ uL L xs R 469 [x0, x1, x2, x3] (.inl (a + b) :: st) M := zU_step dL_468 (Or.inl rfl)
theorem dL_469 : decode code 469 = .ok (.iaload, 1) := by decide +kernel
theorem rL_469 {L : Nat} {xs : Int → Int} {R : zP} {x0 x1 x2 x3 : Option zV} {st : List zV} {M : zM} {i : Int} {r : Nat} : uL L xs R 469 [x0, x1, x2, x3] (.inl i :: .inr (.inr r) :: st) M ↔ zread (fL L xs) 0 r M i (fun v => uL L xs R 470 [x0, x1, x2, x3] (.inl v :: st) M) := zU_step dL_469 (Or.inl rfl)
theorem dL_470 : decode code 470 = .ok (.aload_n 0, 1) := by decide +kernel
theorem rL_470 {L : Nat} {xs : Int → Int} {R : zP} {x1 x2 x3 : Option zV} {st : List zV} {M : zM} {a : Nat} : uL L xs R 470 [some (.inr (.inr a)), x1, x2, x3] st M ↔ uL L xs R 471 [some (.inr (.inr a)), x1, x2, x3] (.inr (.inr a) :: st) M := zU_step dL_470 (Or.inl rfl)
theorem dL_471 : decode code 471 = .ok (.iload_n 3, 1) := by decide +kernel
theorem rL_471 {L : Nat} {xs : Int → Int} {R : zP} {x0 x1 x2 : Option zV} {st : List zV} {M : zM} {a : Int} : uL L xs R 471 [x0, x1, x2, some (.inl a)] st M ↔ uL L xs R 472 [x0, x1, x2, some (.inl a)] (.inl a :: st) M := zU_step dL_471 (Or.inl rfl)
theorem dL_472 : decode code 472 = .ok (.iconst 3, 1) := by decide +kernel
theorem rL_472 {L : Nat} {xs : Int → Int} {R : zP} {x0 x1 x2 x3 : Option zV} {st : List zV} {M : zM} : uL L xs R 472 [x0, x1, x2, x3] st M ↔ uL L xs R 473 [x0, x1, x2, x3] (.inl (3) :: st) M := zU_step dL_472 (Or.inl rfl)
theorem dL_473 : decode code 473 = .ok (.iadd, 1) := by decide +kernel
theorem rL_473 {L : Nat} {xs : Int → Int} {R : zP} {x0 x1 x2 x3 : Option zV} {st : List zV} {M : zM} {a b : Int} : uL L xs R 473 [x0, x1, x2, x3] (.inl b :: .inl a :: st) M ↔ uL L xs R 474 [x0, x1, x2, x3] (.inl (a + b) :: st) M := zU_step dL_473 (Or.inl rfl)
theorem dL_474 : decode code 474 = .ok (.iaload, 1) := by decide +kernel
theorem rL_474 {L : Nat} {xs : Int → Int} {R : zP} {x0 x1 x2 x3 : Option zV} {st : List zV} {M : zM} {i : Int} {r : Nat} : uL L xs R 474 [x0, x1, x2, x3] (.inl i :: .inr (.inr r) :: st) M ↔ zread (fL L xs) 0 r M i (fun v => uL L xs R 475 [x0, x1, x2, x3] (.inl v :: st) M) := zU_step dL_474 (Or.inl rfl)
theorem dL_475 : decode code 475 = .ok (.aload_n 0, 1) := by decide +kernel
theorem rL_475 {L : Nat} {xs : Int → Int} {R : zP} {x1 x2 x3 : Option zV} {st : List zV} {M : zM} {a : Nat} : uL L xs R 475 [some (.inr (.inr a)), x1, x2, x3] st M ↔ uL L xs R 476 [some (.inr (.inr a)), x1, x2, x3] (.inr (.inr a) :: st) M := zU_step dL_475 (Or.inl rfl)
theorem dL_476 : decode code 476 = .ok (.iload_n 3, 1) := by decide +kernel
theorem rL_476 {L : Nat} {xs : Int → Int} {R : zP} {x0 x1 x2 : Option zV} {st : List zV} {M : zM} {a : Int} : uL L xs R 476 [x0, x1, x2, some (.inl a)] st M ↔ uL L xs R 477 [x0, x1, x2, some (.inl a)] (.inl a :: st) M := zU_step dL_476 (Or.inl rfl)
theorem dL_477 : decode code 477 = .ok (.iconst 4, 1) := by decide +kernel
theorem rL_477 {L : Nat} {xs : Int → Int} {R : zP} {x0 x1 x2 x3 : Option zV} {st : List zV} {M : zM} : uL L xs R 477 [x0, x1, x2, x3] st M ↔ uL L xs R 478 [x0, x1, x2, x3] (.inl (4) :: st) M := zU_step dL_477 (Or.inl rfl)
theorem dL_478 : decode code 478 = .ok (.iadd, 1) := by decide +kernel
theorem rL_478 {L : Nat} {xs : Int → Int} {R : zP} {x0 x1 x2 x3 : Option zV} {st : List zV} {M : zM} {a b : Int} : uL L xs R 478 [x0, x1, x2, x3] (.inl b :: .inl a :: st) M ↔ uL L xs R 479 [x0, x1, x2, x3] (.inl (a + b) :: st) M := zU_step dL_478 (Or.inl rfl)
theorem dL_479 : decode code 479 = .ok (.iaload, 1) := by decide +kernel
theorem rL_479 {L : Nat} {xs : Int → Int} {R : zP} {x0 x1 x2 x3 : Option zV} {st : List zV} {M : zM} {i : Int} {r : Nat} : uL L xs R 479 [x0, x1, x2, x3] (.inl i :: .inr (.inr r) :: st) M ↔ zread (fL L xs) 0 r M i (fun v => uL L xs R 480 [x0, x1, x2, x3] (.inl v :: st) M) := zU_step dL_479 (Or.inl rfl)
theorem dL_480 : decode code 480 = .ok (.invokevirtual 57, 3) := by decide +kernel
theorem rL_480 {L : Nat} {xs : Int → Int} {R : zP} {x0 x1 x2 x3 : Option zV} {st : List zV} {M : zM} {a0 a1 a2 a3 a4 : zV} : uL L xs R 480 [x0, x1, x2, x3] (a4 :: a3 :: a2 :: a1 :: a0 :: st) M ↔ (st.length ≤ 4 ∧ zcv (zv 8 (znm tX8_at)) [a0, a1, a2, a3, a4] M (fun v M => uL L xs R 483 [x0, x1, x2, x3] (v :: st) M)) := Iff.trans (zU_step dL_480 (Or.inl rfl)) ⟨fun h => ⟨h.2.1, zcv_of h.2.2⟩, fun h => ⟨rfl, h.1, zcv_to h.2⟩⟩
theorem dL_483 : decode code 483 = .ok (.if_icmp .eq 883, 3) := by decide +kernel
theorem rL_483 {L : Nat} {xs : Int → Int} {R : zP} {x0 x1 x2 x3 : Option zV} {st : List zV} {M : zM} {a b : Int} : uL L xs R 483 [x0, x1, x2, x3] (.inl b :: .inl a :: st) M ↔ ((zIR a ∧ zIR b) ∧ if a = b then uL L xs R 1366 [x0, x1, x2, x3] st M else uL L xs R 486 [x0, x1, x2, x3] st M) := Iff.trans (zU_step dL_483 (Or.inl rfl)) ⟨fun h => ⟨⟨h.1.1, h.1.2.1⟩, (zite (c := a = b)).mpr h.2⟩, fun h => ⟨⟨h.1.1, h.1.2, by decide⟩, (zite (c := a = b)).mp h.2⟩⟩
theorem dL_486 : decode code 486 = .ok (.iconst 0, 1) := by decide +kernel
theorem rL_486 {L : Nat} {xs : Int → Int} {R : zP} {x0 x1 x2 x3 : Option zV} {st : List zV} {M : zM} : uL L xs R 486 [x0, x1, x2, x3] st M ↔ uL L xs R 487 [x0, x1, x2, x3] (.inl (0) :: st) M := zU_step dL_486 (Or.inl rfl)
theorem dL_487 : decode code 487 = .ok (.ireturn, 1) := by decide +kernel
theorem rL_487 {L : Nat} {xs : Int → Int} {R : zP} {x0 x1 x2 x3 : Option zV} {M : zM} {a : Int} : uL L xs R 487 [x0, x1, x2, x3] [.inl a] M ↔ ((a = 0 ∨ a = 1) ∧ R (some (.inl a)) M) := Iff.trans (zU_step dL_487 (Or.inl rfl)) ⟨fun h => ⟨zret2 rfl h.2.1, h.2.2⟩, fun h => ⟨rfl, Or.inr (Or.inl ⟨rfl, h.1⟩), h.2⟩⟩
theorem dL_488 : decode code 488 = .ok (.aload_n 1, 1) := by decide +kernel
theorem rL_488 {L : Nat} {xs : Int → Int} {R : zP} {x0 x2 x3 : Option zV} {st : List zV} {M : zM} {a : Nat} : uL L xs R 488 [x0, some (.inr (.inr a)), x2, x3] st M ↔ uL L xs R 489 [x0, some (.inr (.inr a)), x2, x3] (.inr (.inr a) :: st) M := zU_step dL_488 (Or.inl rfl)
theorem dL_489 : decode code 489 = .ok (.aload_n 0, 1) := by decide +kernel
theorem rL_489 {L : Nat} {xs : Int → Int} {R : zP} {x1 x2 x3 : Option zV} {st : List zV} {M : zM} {a : Nat} : uL L xs R 489 [some (.inr (.inr a)), x1, x2, x3] st M ↔ uL L xs R 490 [some (.inr (.inr a)), x1, x2, x3] (.inr (.inr a) :: st) M := zU_step dL_489 (Or.inl rfl)
theorem dL_490 : decode code 490 = .ok (.iload_n 3, 1) := by decide +kernel
theorem rL_490 {L : Nat} {xs : Int → Int} {R : zP} {x0 x1 x2 : Option zV} {st : List zV} {M : zM} {a : Int} : uL L xs R 490 [x0, x1, x2, some (.inl a)] st M ↔ uL L xs R 491 [x0, x1, x2, some (.inl a)] (.inl a :: st) M := zU_step dL_490 (Or.inl rfl)
theorem dL_491 : decode code 491 = .ok (.iconst 1, 1) := by decide +kernel
theorem rL_491 {L : Nat} {xs : Int → Int} {R : zP} {x0 x1 x2 x3 : Option zV} {st : List zV} {M : zM} : uL L xs R 491 [x0, x1, x2, x3] st M ↔ uL L xs R 492 [x0, x1, x2, x3] (.inl (1) :: st) M := zU_step dL_491 (Or.inl rfl)
theorem dL_492 : decode code 492 = .ok (.iadd, 1) := by decide +kernel
theorem rL_492 {L : Nat} {xs : Int → Int} {R : zP} {x0 x1 x2 x3 : Option zV} {st : List zV} {M : zM} {a b : Int} : uL L xs R 492 [x0, x1, x2, x3] (.inl b :: .inl a :: st) M ↔ uL L xs R 493 [x0, x1, x2, x3] (.inl (a + b) :: st) M := zU_step dL_492 (Or.inl rfl)
theorem dL_493 : decode code 493 = .ok (.iaload, 1) := by decide +kernel
theorem rL_493 {L : Nat} {xs : Int → Int} {R : zP} {x0 x1 x2 x3 : Option zV} {st : List zV} {M : zM} {i : Int} {r : Nat} : uL L xs R 493 [x0, x1, x2, x3] (.inl i :: .inr (.inr r) :: st) M ↔ zread (fL L xs) 0 r M i (fun v => uL L xs R 494 [x0, x1, x2, x3] (.inl v :: st) M) := zU_step dL_493 (Or.inl rfl)
theorem dL_494 : decode code 494 = .ok (.aload_n 0, 1) := by decide +kernel
theorem rL_494 {L : Nat} {xs : Int → Int} {R : zP} {x1 x2 x3 : Option zV} {st : List zV} {M : zM} {a : Nat} : uL L xs R 494 [some (.inr (.inr a)), x1, x2, x3] st M ↔ uL L xs R 495 [some (.inr (.inr a)), x1, x2, x3] (.inr (.inr a) :: st) M := zU_step dL_494 (Or.inl rfl)
theorem dL_495 : decode code 495 = .ok (.iload_n 3, 1) := by decide +kernel
theorem rL_495 {L : Nat} {xs : Int → Int} {R : zP} {x0 x1 x2 : Option zV} {st : List zV} {M : zM} {a : Int} : uL L xs R 495 [x0, x1, x2, some (.inl a)] st M ↔ uL L xs R 496 [x0, x1, x2, some (.inl a)] (.inl a :: st) M := zU_step dL_495 (Or.inl rfl)
theorem dL_496 : decode code 496 = .ok (.iconst 2, 1) := by decide +kernel
theorem rL_496 {L : Nat} {xs : Int → Int} {R : zP} {x0 x1 x2 x3 : Option zV} {st : List zV} {M : zM} : uL L xs R 496 [x0, x1, x2, x3] st M ↔ uL L xs R 497 [x0, x1, x2, x3] (.inl (2) :: st) M := zU_step dL_496 (Or.inl rfl)
theorem dL_497 : decode code 497 = .ok (.iadd, 1) := by decide +kernel
theorem rL_497 {L : Nat} {xs : Int → Int} {R : zP} {x0 x1 x2 x3 : Option zV} {st : List zV} {M : zM} {a b : Int} : uL L xs R 497 [x0, x1, x2, x3] (.inl b :: .inl a :: st) M ↔ uL L xs R 498 [x0, x1, x2, x3] (.inl (a + b) :: st) M := zU_step dL_497 (Or.inl rfl)
theorem dL_498 : decode code 498 = .ok (.iaload, 1) := by decide +kernel
theorem rL_498 {L : Nat} {xs : Int → Int} {R : zP} {x0 x1 x2 x3 : Option zV} {st : List zV} {M : zM} {i : Int} {r : Nat} : uL L xs R 498 [x0, x1, x2, x3] (.inl i :: .inr (.inr r) :: st) M ↔ zread (fL L xs) 0 r M i (fun v => uL L xs R 499 [x0, x1, x2, x3] (.inl v :: st) M) := zU_step dL_498 (Or.inl rfl)
theorem dL_499 : decode code 499 = .ok (.aload_n 0, 1) := by decide +kernel
theorem rL_499 {L : Nat} {xs : Int → Int} {R : zP} {x1 x2 x3 : Option zV} {st : List zV} {M : zM} {a : Nat} : uL L xs R 499 [some (.inr (.inr a)), x1, x2, x3] st M ↔ uL L xs R 500 [some (.inr (.inr a)), x1, x2, x3] (.inr (.inr a) :: st) M := zU_step dL_499 (Or.inl rfl)
theorem dL_500 : decode code 500 = .ok (.iload_n 3, 1) := by decide +kernel
theorem rL_500 {L : Nat} {xs : Int → Int} {R : zP} {x0 x1 x2 : Option zV} {st : List zV} {M : zM} {a : Int} : uL L xs R 500 [x0, x1, x2, some (.inl a)] st M ↔ uL L xs R 501 [x0, x1, x2, some (.inl a)] (.inl a :: st) M := zU_step dL_500 (Or.inl rfl)
theorem dL_501 : decode code 501 = .ok (.iconst 3, 1) := by decide +kernel
theorem rL_501 {L : Nat} {xs : Int → Int} {R : zP} {x0 x1 x2 x3 : Option zV} {st : List zV} {M : zM} : uL L xs R 501 [x0, x1, x2, x3] st M ↔ uL L xs R 502 [x0, x1, x2, x3] (.inl (3) :: st) M := zU_step dL_501 (Or.inl rfl)
theorem dL_502 : decode code 502 = .ok (.iadd, 1) := by decide +kernel
theorem rL_502 {L : Nat} {xs : Int → Int} {R : zP} {x0 x1 x2 x3 : Option zV} {st : List zV} {M : zM} {a b : Int} : uL L xs R 502 [x0, x1, x2, x3] (.inl b :: .inl a :: st) M ↔ uL L xs R 503 [x0, x1, x2, x3] (.inl (a + b) :: st) M := zU_step dL_502 (Or.inl rfl)
theorem dL_503 : decode code 503 = .ok (.iaload, 1) := by decide +kernel
theorem rL_503 {L : Nat} {xs : Int → Int} {R : zP} {x0 x1 x2 x3 : Option zV} {st : List zV} {M : zM} {i : Int} {r : Nat} : uL L xs R 503 [x0, x1, x2, x3] (.inl i :: .inr (.inr r) :: st) M ↔ zread (fL L xs) 0 r M i (fun v => uL L xs R 504 [x0, x1, x2, x3] (.inl v :: st) M) := zU_step dL_503 (Or.inl rfl)
theorem dL_504 : decode code 504 = .ok (.invokevirtual 58, 3) := by decide +kernel
theorem rL_504 {L : Nat} {xs : Int → Int} {R : zP} {x0 x1 x2 x3 : Option zV} {st : List zV} {M : zM} {a0 a1 a2 a3 : zV} : uL L xs R 504 [x0, x1, x2, x3] (a3 :: a2 :: a1 :: a0 :: st) M ↔ (st.length ≤ 4 ∧ zcv (zv 7 (znm tX7_able)) [a0, a1, a2, a3] M (fun v M => uL L xs R 507 [x0, x1, x2, x3] (v :: st) M)) := Iff.trans (zU_step dL_504 (Or.inl rfl)) ⟨fun h => ⟨h.2.1, zcv_of h.2.2⟩, fun h => ⟨rfl, h.1, zcv_to h.2⟩⟩
theorem dL_507 : decode code 507 = .ok (.aload_n 2, 1) := by decide +kernel
theorem rL_507 {L : Nat} {xs : Int → Int} {R : zP} {x0 x1 x3 : Option zV} {st : List zV} {M : zM} {a : Nat} : uL L xs R 507 [x0, x1, some (.inr (.inr a)), x3] st M ↔ uL L xs R 508 [x0, x1, some (.inr (.inr a)), x3] (.inr (.inr a) :: st) M := zU_step dL_507 (Or.inl rfl)
theorem dL_508 : decode code 508 = .ok (.aload_n 0, 1) := by decide +kernel
theorem rL_508 {L : Nat} {xs : Int → Int} {R : zP} {x1 x2 x3 : Option zV} {st : List zV} {M : zM} {a : Nat} : uL L xs R 508 [some (.inr (.inr a)), x1, x2, x3] st M ↔ uL L xs R 509 [some (.inr (.inr a)), x1, x2, x3] (.inr (.inr a) :: st) M := zU_step dL_508 (Or.inl rfl)
theorem dL_509 : decode code 509 = .ok (.iload_n 3, 1) := by decide +kernel
theorem rL_509 {L : Nat} {xs : Int → Int} {R : zP} {x0 x1 x2 : Option zV} {st : List zV} {M : zM} {a : Int} : uL L xs R 509 [x0, x1, x2, some (.inl a)] st M ↔ uL L xs R 510 [x0, x1, x2, some (.inl a)] (.inl a :: st) M := zU_step dL_509 (Or.inl rfl)
theorem dL_510 : decode code 510 = .ok (.iconst 1, 1) := by decide +kernel
theorem rL_510 {L : Nat} {xs : Int → Int} {R : zP} {x0 x1 x2 x3 : Option zV} {st : List zV} {M : zM} : uL L xs R 510 [x0, x1, x2, x3] st M ↔ uL L xs R 511 [x0, x1, x2, x3] (.inl (1) :: st) M := zU_step dL_510 (Or.inl rfl)
theorem dL_511 : decode code 511 = .ok (.iadd, 1) := by decide +kernel
theorem rL_511 {L : Nat} {xs : Int → Int} {R : zP} {x0 x1 x2 x3 : Option zV} {st : List zV} {M : zM} {a b : Int} : uL L xs R 511 [x0, x1, x2, x3] (.inl b :: .inl a :: st) M ↔ uL L xs R 512 [x0, x1, x2, x3] (.inl (a + b) :: st) M := zU_step dL_511 (Or.inl rfl)
theorem dL_512 : decode code 512 = .ok (.iaload, 1) := by decide +kernel
theorem rL_512 {L : Nat} {xs : Int → Int} {R : zP} {x0 x1 x2 x3 : Option zV} {st : List zV} {M : zM} {i : Int} {r : Nat} : uL L xs R 512 [x0, x1, x2, x3] (.inl i :: .inr (.inr r) :: st) M ↔ zread (fL L xs) 0 r M i (fun v => uL L xs R 513 [x0, x1, x2, x3] (.inl v :: st) M) := zU_step dL_512 (Or.inl rfl)
theorem dL_513 : decode code 513 = .ok (.aload_n 0, 1) := by decide +kernel
theorem rL_513 {L : Nat} {xs : Int → Int} {R : zP} {x1 x2 x3 : Option zV} {st : List zV} {M : zM} {a : Nat} : uL L xs R 513 [some (.inr (.inr a)), x1, x2, x3] st M ↔ uL L xs R 514 [some (.inr (.inr a)), x1, x2, x3] (.inr (.inr a) :: st) M := zU_step dL_513 (Or.inl rfl)
theorem dL_514 : decode code 514 = .ok (.iload_n 3, 1) := by decide +kernel
theorem rL_514 {L : Nat} {xs : Int → Int} {R : zP} {x0 x1 x2 : Option zV} {st : List zV} {M : zM} {a : Int} : uL L xs R 514 [x0, x1, x2, some (.inl a)] st M ↔ uL L xs R 515 [x0, x1, x2, some (.inl a)] (.inl a :: st) M := zU_step dL_514 (Or.inl rfl)
theorem dL_515 : decode code 515 = .ok (.iconst 2, 1) := by decide +kernel
theorem rL_515 {L : Nat} {xs : Int → Int} {R : zP} {x0 x1 x2 x3 : Option zV} {st : List zV} {M : zM} : uL L xs R 515 [x0, x1, x2, x3] st M ↔ uL L xs R 516 [x0, x1, x2, x3] (.inl (2) :: st) M := zU_step dL_515 (Or.inl rfl)
theorem dL_516 : decode code 516 = .ok (.iadd, 1) := by decide +kernel
theorem rL_516 {L : Nat} {xs : Int → Int} {R : zP} {x0 x1 x2 x3 : Option zV} {st : List zV} {M : zM} {a b : Int} : uL L xs R 516 [x0, x1, x2, x3] (.inl b :: .inl a :: st) M ↔ uL L xs R 517 [x0, x1, x2, x3] (.inl (a + b) :: st) M := zU_step dL_516 (Or.inl rfl)
theorem dL_517 : decode code 517 = .ok (.iaload, 1) := by decide +kernel
theorem rL_517 {L : Nat} {xs : Int → Int} {R : zP} {x0 x1 x2 x3 : Option zV} {st : List zV} {M : zM} {i : Int} {r : Nat} : uL L xs R 517 [x0, x1, x2, x3] (.inl i :: .inr (.inr r) :: st) M ↔ zread (fL L xs) 0 r M i (fun v => uL L xs R 518 [x0, x1, x2, x3] (.inl v :: st) M) := zU_step dL_517 (Or.inl rfl)
theorem dL_518 : decode code 518 = .ok (.aload_n 0, 1) := by decide +kernel
theorem rL_518 {L : Nat} {xs : Int → Int} {R : zP} {x1 x2 x3 : Option zV} {st : List zV} {M : zM} {a : Nat} : uL L xs R 518 [some (.inr (.inr a)), x1, x2, x3] st M ↔ uL L xs R 519 [some (.inr (.inr a)), x1, x2, x3] (.inr (.inr a) :: st) M := zU_step dL_518 (Or.inl rfl)
theorem dL_519 : decode code 519 = .ok (.iload_n 3, 1) := by decide +kernel
theorem rL_519 {L : Nat} {xs : Int → Int} {R : zP} {x0 x1 x2 : Option zV} {st : List zV} {M : zM} {a : Int} : uL L xs R 519 [x0, x1, x2, some (.inl a)] st M ↔ uL L xs R 520 [x0, x1, x2, some (.inl a)] (.inl a :: st) M := zU_step dL_519 (Or.inl rfl)
theorem dL_520 : decode code 520 = .ok (.iconst 3, 1) := by decide +kernel
theorem rL_520 {L : Nat} {xs : Int → Int} {R : zP} {x0 x1 x2 x3 : Option zV} {st : List zV} {M : zM} : uL L xs R 520 [x0, x1, x2, x3] st M ↔ uL L xs R 521 [x0, x1, x2, x3] (.inl (3) :: st) M := zU_step dL_520 (Or.inl rfl)
theorem dL_521 : decode code 521 = .ok (.iadd, 1) := by decide +kernel
theorem rL_521 {L : Nat} {xs : Int → Int} {R : zP} {x0 x1 x2 x3 : Option zV} {st : List zV} {M : zM} {a b : Int} : uL L xs R 521 [x0, x1, x2, x3] (.inl b :: .inl a :: st) M ↔ uL L xs R 522 [x0, x1, x2, x3] (.inl (a + b) :: st) M := zU_step dL_521 (Or.inl rfl)
theorem dL_522 : decode code 522 = .ok (.iaload, 1) := by decide +kernel
theorem rL_522 {L : Nat} {xs : Int → Int} {R : zP} {x0 x1 x2 x3 : Option zV} {st : List zV} {M : zM} {i : Int} {r : Nat} : uL L xs R 522 [x0, x1, x2, x3] (.inl i :: .inr (.inr r) :: st) M ↔ zread (fL L xs) 0 r M i (fun v => uL L xs R 523 [x0, x1, x2, x3] (.inl v :: st) M) := zU_step dL_522 (Or.inl rfl)
theorem dL_523 : decode code 523 = .ok (.invokevirtual 61, 3) := by decide +kernel
theorem rL_523 {L : Nat} {xs : Int → Int} {R : zP} {x0 x1 x2 x3 : Option zV} {st : List zV} {M : zM} {a0 a1 a2 a3 : zV} : uL L xs R 523 [x0, x1, x2, x3] (a3 :: a2 :: a1 :: a0 :: st) M ↔ (st.length ≤ 4 ∧ zcv (zv 8 (znm tX8_able)) [a0, a1, a2, a3] M (fun v M => uL L xs R 526 [x0, x1, x2, x3] (v :: st) M)) := Iff.trans (zU_step dL_523 (Or.inl rfl)) ⟨fun h => ⟨h.2.1, zcv_of h.2.2⟩, fun h => ⟨rfl, h.1, zcv_to h.2⟩⟩
theorem dL_526 : decode code 526 = .ok (.if_icmp .eq 840, 3) := by decide +kernel
theorem rL_526 {L : Nat} {xs : Int → Int} {R : zP} {x0 x1 x2 x3 : Option zV} {st : List zV} {M : zM} {a b : Int} : uL L xs R 526 [x0, x1, x2, x3] (.inl b :: .inl a :: st) M ↔ ((zIR a ∧ zIR b) ∧ if a = b then uL L xs R 1366 [x0, x1, x2, x3] st M else uL L xs R 529 [x0, x1, x2, x3] st M) := Iff.trans (zU_step dL_526 (Or.inl rfl)) ⟨fun h => ⟨⟨h.1.1, h.1.2.1⟩, (zite (c := a = b)).mpr h.2⟩, fun h => ⟨⟨h.1.1, h.1.2, by decide⟩, (zite (c := a = b)).mp h.2⟩⟩
theorem dL_529 : decode code 529 = .ok (.iconst 0, 1) := by decide +kernel
theorem rL_529 {L : Nat} {xs : Int → Int} {R : zP} {x0 x1 x2 x3 : Option zV} {st : List zV} {M : zM} : uL L xs R 529 [x0, x1, x2, x3] st M ↔ uL L xs R 530 [x0, x1, x2, x3] (.inl (0) :: st) M := zU_step dL_529 (Or.inl rfl)
theorem dL_530 : decode code 530 = .ok (.ireturn, 1) := by decide +kernel
theorem rL_530 {L : Nat} {xs : Int → Int} {R : zP} {x0 x1 x2 x3 : Option zV} {M : zM} {a : Int} : uL L xs R 530 [x0, x1, x2, x3] [.inl a] M ↔ ((a = 0 ∨ a = 1) ∧ R (some (.inl a)) M) := Iff.trans (zU_step dL_530 (Or.inl rfl)) ⟨fun h => ⟨zret2 rfl h.2.1, h.2.2⟩, fun h => ⟨rfl, Or.inr (Or.inl ⟨rfl, h.1⟩), h.2⟩⟩
theorem dL_531 : decode code 531 = .ok (.aload_n 1, 1) := by decide +kernel
theorem rL_531 {L : Nat} {xs : Int → Int} {R : zP} {x0 x2 x3 : Option zV} {st : List zV} {M : zM} {a : Nat} : uL L xs R 531 [x0, some (.inr (.inr a)), x2, x3] st M ↔ uL L xs R 532 [x0, some (.inr (.inr a)), x2, x3] (.inr (.inr a) :: st) M := zU_step dL_531 (Or.inl rfl)
theorem dL_532 : decode code 532 = .ok (.aload_n 0, 1) := by decide +kernel
theorem rL_532 {L : Nat} {xs : Int → Int} {R : zP} {x1 x2 x3 : Option zV} {st : List zV} {M : zM} {a : Nat} : uL L xs R 532 [some (.inr (.inr a)), x1, x2, x3] st M ↔ uL L xs R 533 [some (.inr (.inr a)), x1, x2, x3] (.inr (.inr a) :: st) M := zU_step dL_532 (Or.inl rfl)
theorem dL_533 : decode code 533 = .ok (.iload_n 3, 1) := by decide +kernel
theorem rL_533 {L : Nat} {xs : Int → Int} {R : zP} {x0 x1 x2 : Option zV} {st : List zV} {M : zM} {a : Int} : uL L xs R 533 [x0, x1, x2, some (.inl a)] st M ↔ uL L xs R 534 [x0, x1, x2, some (.inl a)] (.inl a :: st) M := zU_step dL_533 (Or.inl rfl)
theorem dL_534 : decode code 534 = .ok (.iconst 1, 1) := by decide +kernel
theorem rL_534 {L : Nat} {xs : Int → Int} {R : zP} {x0 x1 x2 x3 : Option zV} {st : List zV} {M : zM} : uL L xs R 534 [x0, x1, x2, x3] st M ↔ uL L xs R 535 [x0, x1, x2, x3] (.inl (1) :: st) M := zU_step dL_534 (Or.inl rfl)
theorem dL_535 : decode code 535 = .ok (.iadd, 1) := by decide +kernel
theorem rL_535 {L : Nat} {xs : Int → Int} {R : zP} {x0 x1 x2 x3 : Option zV} {st : List zV} {M : zM} {a b : Int} : uL L xs R 535 [x0, x1, x2, x3] (.inl b :: .inl a :: st) M ↔ uL L xs R 536 [x0, x1, x2, x3] (.inl (a + b) :: st) M := zU_step dL_535 (Or.inl rfl)
theorem dL_536 : decode code 536 = .ok (.iaload, 1) := by decide +kernel
theorem rL_536 {L : Nat} {xs : Int → Int} {R : zP} {x0 x1 x2 x3 : Option zV} {st : List zV} {M : zM} {i : Int} {r : Nat} : uL L xs R 536 [x0, x1, x2, x3] (.inl i :: .inr (.inr r) :: st) M ↔ zread (fL L xs) 0 r M i (fun v => uL L xs R 537 [x0, x1, x2, x3] (.inl v :: st) M) := zU_step dL_536 (Or.inl rfl)
theorem dL_537 : decode code 537 = .ok (.aload_n 0, 1) := by decide +kernel
theorem rL_537 {L : Nat} {xs : Int → Int} {R : zP} {x1 x2 x3 : Option zV} {st : List zV} {M : zM} {a : Nat} : uL L xs R 537 [some (.inr (.inr a)), x1, x2, x3] st M ↔ uL L xs R 538 [some (.inr (.inr a)), x1, x2, x3] (.inr (.inr a) :: st) M := zU_step dL_537 (Or.inl rfl)
theorem dL_538 : decode code 538 = .ok (.iload_n 3, 1) := by decide +kernel
theorem rL_538 {L : Nat} {xs : Int → Int} {R : zP} {x0 x1 x2 : Option zV} {st : List zV} {M : zM} {a : Int} : uL L xs R 538 [x0, x1, x2, some (.inl a)] st M ↔ uL L xs R 539 [x0, x1, x2, some (.inl a)] (.inl a :: st) M := zU_step dL_538 (Or.inl rfl)
theorem dL_539 : decode code 539 = .ok (.iconst 2, 1) := by decide +kernel
theorem rL_539 {L : Nat} {xs : Int → Int} {R : zP} {x0 x1 x2 x3 : Option zV} {st : List zV} {M : zM} : uL L xs R 539 [x0, x1, x2, x3] st M ↔ uL L xs R 540 [x0, x1, x2, x3] (.inl (2) :: st) M := zU_step dL_539 (Or.inl rfl)
theorem dL_540 : decode code 540 = .ok (.iadd, 1) := by decide +kernel
theorem rL_540 {L : Nat} {xs : Int → Int} {R : zP} {x0 x1 x2 x3 : Option zV} {st : List zV} {M : zM} {a b : Int} : uL L xs R 540 [x0, x1, x2, x3] (.inl b :: .inl a :: st) M ↔ uL L xs R 541 [x0, x1, x2, x3] (.inl (a + b) :: st) M := zU_step dL_540 (Or.inl rfl)
theorem dL_541 : decode code 541 = .ok (.iaload, 1) := by decide +kernel
theorem rL_541 {L : Nat} {xs : Int → Int} {R : zP} {x0 x1 x2 x3 : Option zV} {st : List zV} {M : zM} {i : Int} {r : Nat} : uL L xs R 541 [x0, x1, x2, x3] (.inl i :: .inr (.inr r) :: st) M ↔ zread (fL L xs) 0 r M i (fun v => uL L xs R 542 [x0, x1, x2, x3] (.inl v :: st) M) := zU_step dL_541 (Or.inl rfl)
theorem dL_542 : decode code 542 = .ok (.aload_n 0, 1) := by decide +kernel
theorem rL_542 {L : Nat} {xs : Int → Int} {R : zP} {x1 x2 x3 : Option zV} {st : List zV} {M : zM} {a : Nat} : uL L xs R 542 [some (.inr (.inr a)), x1, x2, x3] st M ↔ uL L xs R 543 [some (.inr (.inr a)), x1, x2, x3] (.inr (.inr a) :: st) M := zU_step dL_542 (Or.inl rfl)
theorem dL_543 : decode code 543 = .ok (.iload_n 3, 1) := by decide +kernel
theorem rL_543 {L : Nat} {xs : Int → Int} {R : zP} {x0 x1 x2 : Option zV} {st : List zV} {M : zM} {a : Int} : uL L xs R 543 [x0, x1, x2, some (.inl a)] st M ↔ uL L xs R 544 [x0, x1, x2, some (.inl a)] (.inl a :: st) M := zU_step dL_543 (Or.inl rfl)
theorem dL_544 : decode code 544 = .ok (.iconst 3, 1) := by decide +kernel
theorem rL_544 {L : Nat} {xs : Int → Int} {R : zP} {x0 x1 x2 x3 : Option zV} {st : List zV} {M : zM} : uL L xs R 544 [x0, x1, x2, x3] st M ↔ uL L xs R 545 [x0, x1, x2, x3] (.inl (3) :: st) M := zU_step dL_544 (Or.inl rfl)
theorem dL_545 : decode code 545 = .ok (.iadd, 1) := by decide +kernel
theorem rL_545 {L : Nat} {xs : Int → Int} {R : zP} {x0 x1 x2 x3 : Option zV} {st : List zV} {M : zM} {a b : Int} : uL L xs R 545 [x0, x1, x2, x3] (.inl b :: .inl a :: st) M ↔ uL L xs R 546 [x0, x1, x2, x3] (.inl (a + b) :: st) M := zU_step dL_545 (Or.inl rfl)
theorem dL_546 : decode code 546 = .ok (.iaload, 1) := by decide +kernel
theorem rL_546 {L : Nat} {xs : Int → Int} {R : zP} {x0 x1 x2 x3 : Option zV} {st : List zV} {M : zM} {i : Int} {r : Nat} : uL L xs R 546 [x0, x1, x2, x3] (.inl i :: .inr (.inr r) :: st) M ↔ zread (fL L xs) 0 r M i (fun v => uL L xs R 547 [x0, x1, x2, x3] (.inl v :: st) M) := zU_step dL_546 (Or.inl rfl)
theorem dL_547 : decode code 547 = .ok (.invokevirtual 62, 3) := by decide +kernel
theorem rL_547 {L : Nat} {xs : Int → Int} {R : zP} {x0 x1 x2 x3 : Option zV} {st : List zV} {M : zM} {a0 a1 a2 a3 : zV} : uL L xs R 547 [x0, x1, x2, x3] (a3 :: a2 :: a1 :: a0 :: st) M ↔ (st.length ≤ 4 ∧ zcv (zv 7 (znm tX7_house)) [a0, a1, a2, a3] M (fun v M => uL L xs R 550 [x0, x1, x2, x3] (v :: st) M)) := Iff.trans (zU_step dL_547 (Or.inl rfl)) ⟨fun h => ⟨h.2.1, zcv_of h.2.2⟩, fun h => ⟨rfl, h.1, zcv_to h.2⟩⟩
theorem dL_550 : decode code 550 = .ok (.aload_n 2, 1) := by decide +kernel
theorem rL_550 {L : Nat} {xs : Int → Int} {R : zP} {x0 x1 x3 : Option zV} {st : List zV} {M : zM} {a : Nat} : uL L xs R 550 [x0, x1, some (.inr (.inr a)), x3] st M ↔ uL L xs R 551 [x0, x1, some (.inr (.inr a)), x3] (.inr (.inr a) :: st) M := zU_step dL_550 (Or.inl rfl)
theorem dL_551 : decode code 551 = .ok (.aload_n 0, 1) := by decide +kernel
theorem rL_551 {L : Nat} {xs : Int → Int} {R : zP} {x1 x2 x3 : Option zV} {st : List zV} {M : zM} {a : Nat} : uL L xs R 551 [some (.inr (.inr a)), x1, x2, x3] st M ↔ uL L xs R 552 [some (.inr (.inr a)), x1, x2, x3] (.inr (.inr a) :: st) M := zU_step dL_551 (Or.inl rfl)
theorem dL_552 : decode code 552 = .ok (.iload_n 3, 1) := by decide +kernel
theorem rL_552 {L : Nat} {xs : Int → Int} {R : zP} {x0 x1 x2 : Option zV} {st : List zV} {M : zM} {a : Int} : uL L xs R 552 [x0, x1, x2, some (.inl a)] st M ↔ uL L xs R 553 [x0, x1, x2, some (.inl a)] (.inl a :: st) M := zU_step dL_552 (Or.inl rfl)
theorem dL_553 : decode code 553 = .ok (.iconst 1, 1) := by decide +kernel
theorem rL_553 {L : Nat} {xs : Int → Int} {R : zP} {x0 x1 x2 x3 : Option zV} {st : List zV} {M : zM} : uL L xs R 553 [x0, x1, x2, x3] st M ↔ uL L xs R 554 [x0, x1, x2, x3] (.inl (1) :: st) M := zU_step dL_553 (Or.inl rfl)
theorem dL_554 : decode code 554 = .ok (.iadd, 1) := by decide +kernel
theorem rL_554 {L : Nat} {xs : Int → Int} {R : zP} {x0 x1 x2 x3 : Option zV} {st : List zV} {M : zM} {a b : Int} : uL L xs R 554 [x0, x1, x2, x3] (.inl b :: .inl a :: st) M ↔ uL L xs R 555 [x0, x1, x2, x3] (.inl (a + b) :: st) M := zU_step dL_554 (Or.inl rfl)
theorem dL_555 : decode code 555 = .ok (.iaload, 1) := by decide +kernel
theorem rL_555 {L : Nat} {xs : Int → Int} {R : zP} {x0 x1 x2 x3 : Option zV} {st : List zV} {M : zM} {i : Int} {r : Nat} : uL L xs R 555 [x0, x1, x2, x3] (.inl i :: .inr (.inr r) :: st) M ↔ zread (fL L xs) 0 r M i (fun v => uL L xs R 556 [x0, x1, x2, x3] (.inl v :: st) M) := zU_step dL_555 (Or.inl rfl)
theorem dL_556 : decode code 556 = .ok (.aload_n 0, 1) := by decide +kernel
theorem rL_556 {L : Nat} {xs : Int → Int} {R : zP} {x1 x2 x3 : Option zV} {st : List zV} {M : zM} {a : Nat} : uL L xs R 556 [some (.inr (.inr a)), x1, x2, x3] st M ↔ uL L xs R 557 [some (.inr (.inr a)), x1, x2, x3] (.inr (.inr a) :: st) M := zU_step dL_556 (Or.inl rfl)
theorem dL_557 : decode code 557 = .ok (.iload_n 3, 1) := by decide +kernel
theorem rL_557 {L : Nat} {xs : Int → Int} {R : zP} {x0 x1 x2 : Option zV} {st : List zV} {M : zM} {a : Int} : uL L xs R 557 [x0, x1, x2, some (.inl a)] st M ↔ uL L xs R 558 [x0, x1, x2, some (.inl a)] (.inl a :: st) M := zU_step dL_557 (Or.inl rfl)
theorem dL_558 : decode code 558 = .ok (.iconst 2, 1) := by decide +kernel
theorem rL_558 {L : Nat} {xs : Int → Int} {R : zP} {x0 x1 x2 x3 : Option zV} {st : List zV} {M : zM} : uL L xs R 558 [x0, x1, x2, x3] st M ↔ uL L xs R 559 [x0, x1, x2, x3] (.inl (2) :: st) M := zU_step dL_558 (Or.inl rfl)
theorem dL_559 : decode code 559 = .ok (.iadd, 1) := by decide +kernel
theorem rL_559 {L : Nat} {xs : Int → Int} {R : zP} {x0 x1 x2 x3 : Option zV} {st : List zV} {M : zM} {a b : Int} : uL L xs R 559 [x0, x1, x2, x3] (.inl b :: .inl a :: st) M ↔ uL L xs R 560 [x0, x1, x2, x3] (.inl (a + b) :: st) M := zU_step dL_559 (Or.inl rfl)
theorem dL_560 : decode code 560 = .ok (.iaload, 1) := by decide +kernel
theorem rL_560 {L : Nat} {xs : Int → Int} {R : zP} {x0 x1 x2 x3 : Option zV} {st : List zV} {M : zM} {i : Int} {r : Nat} : uL L xs R 560 [x0, x1, x2, x3] (.inl i :: .inr (.inr r) :: st) M ↔ zread (fL L xs) 0 r M i (fun v => uL L xs R 561 [x0, x1, x2, x3] (.inl v :: st) M) := zU_step dL_560 (Or.inl rfl)
theorem dL_561 : decode code 561 = .ok (.aload_n 0, 1) := by decide +kernel
theorem rL_561 {L : Nat} {xs : Int → Int} {R : zP} {x1 x2 x3 : Option zV} {st : List zV} {M : zM} {a : Nat} : uL L xs R 561 [some (.inr (.inr a)), x1, x2, x3] st M ↔ uL L xs R 562 [some (.inr (.inr a)), x1, x2, x3] (.inr (.inr a) :: st) M := zU_step dL_561 (Or.inl rfl)
theorem dL_562 : decode code 562 = .ok (.iload_n 3, 1) := by decide +kernel
theorem rL_562 {L : Nat} {xs : Int → Int} {R : zP} {x0 x1 x2 : Option zV} {st : List zV} {M : zM} {a : Int} : uL L xs R 562 [x0, x1, x2, some (.inl a)] st M ↔ uL L xs R 563 [x0, x1, x2, some (.inl a)] (.inl a :: st) M := zU_step dL_562 (Or.inl rfl)
theorem dL_563 : decode code 563 = .ok (.iconst 3, 1) := by decide +kernel
theorem rL_563 {L : Nat} {xs : Int → Int} {R : zP} {x0 x1 x2 x3 : Option zV} {st : List zV} {M : zM} : uL L xs R 563 [x0, x1, x2, x3] st M ↔ uL L xs R 564 [x0, x1, x2, x3] (.inl (3) :: st) M := zU_step dL_563 (Or.inl rfl)
theorem dL_564 : decode code 564 = .ok (.iadd, 1) := by decide +kernel
theorem rL_564 {L : Nat} {xs : Int → Int} {R : zP} {x0 x1 x2 x3 : Option zV} {st : List zV} {M : zM} {a b : Int} : uL L xs R 564 [x0, x1, x2, x3] (.inl b :: .inl a :: st) M ↔ uL L xs R 565 [x0, x1, x2, x3] (.inl (a + b) :: st) M := zU_step dL_564 (Or.inl rfl)
theorem dL_565 : decode code 565 = .ok (.iaload, 1) := by decide +kernel
theorem rL_565 {L : Nat} {xs : Int → Int} {R : zP} {x0 x1 x2 x3 : Option zV} {st : List zV} {M : zM} {i : Int} {r : Nat} : uL L xs R 565 [x0, x1, x2, x3] (.inl i :: .inr (.inr r) :: st) M ↔ zread (fL L xs) 0 r M i (fun v => uL L xs R 566 [x0, x1, x2, x3] (.inl v :: st) M) := zU_step dL_565 (Or.inl rfl)
theorem dL_566 : decode code 566 = .ok (.invokevirtual 65, 3) := by decide +kernel
theorem rL_566 {L : Nat} {xs : Int → Int} {R : zP} {x0 x1 x2 x3 : Option zV} {st : List zV} {M : zM} {a0 a1 a2 a3 : zV} : uL L xs R 566 [x0, x1, x2, x3] (a3 :: a2 :: a1 :: a0 :: st) M ↔ (st.length ≤ 4 ∧ zcv (zv 8 (znm tX8_house)) [a0, a1, a2, a3] M (fun v M => uL L xs R 569 [x0, x1, x2, x3] (v :: st) M)) := Iff.trans (zU_step dL_566 (Or.inl rfl)) ⟨fun h => ⟨h.2.1, zcv_of h.2.2⟩, fun h => ⟨rfl, h.1, zcv_to h.2⟩⟩
theorem dL_569 : decode code 569 = .ok (.if_icmp .eq 797, 3) := by decide +kernel
theorem rL_569 {L : Nat} {xs : Int → Int} {R : zP} {x0 x1 x2 x3 : Option zV} {st : List zV} {M : zM} {a b : Int} : uL L xs R 569 [x0, x1, x2, x3] (.inl b :: .inl a :: st) M ↔ ((zIR a ∧ zIR b) ∧ if a = b then uL L xs R 1366 [x0, x1, x2, x3] st M else uL L xs R 572 [x0, x1, x2, x3] st M) := Iff.trans (zU_step dL_569 (Or.inl rfl)) ⟨fun h => ⟨⟨h.1.1, h.1.2.1⟩, (zite (c := a = b)).mpr h.2⟩, fun h => ⟨⟨h.1.1, h.1.2, by decide⟩, (zite (c := a = b)).mp h.2⟩⟩
theorem dL_572 : decode code 572 = .ok (.iconst 0, 1) := by decide +kernel
theorem rL_572 {L : Nat} {xs : Int → Int} {R : zP} {x0 x1 x2 x3 : Option zV} {st : List zV} {M : zM} : uL L xs R 572 [x0, x1, x2, x3] st M ↔ uL L xs R 573 [x0, x1, x2, x3] (.inl (0) :: st) M := zU_step dL_572 (Or.inl rfl)
theorem dL_573 : decode code 573 = .ok (.ireturn, 1) := by decide +kernel
theorem rL_573 {L : Nat} {xs : Int → Int} {R : zP} {x0 x1 x2 x3 : Option zV} {M : zM} {a : Int} : uL L xs R 573 [x0, x1, x2, x3] [.inl a] M ↔ ((a = 0 ∨ a = 1) ∧ R (some (.inl a)) M) := Iff.trans (zU_step dL_573 (Or.inl rfl)) ⟨fun h => ⟨zret2 rfl h.2.1, h.2.2⟩, fun h => ⟨rfl, Or.inr (Or.inl ⟨rfl, h.1⟩), h.2⟩⟩
theorem dL_574 : decode code 574 = .ok (.aload_n 1, 1) := by decide +kernel
theorem rL_574 {L : Nat} {xs : Int → Int} {R : zP} {x0 x2 x3 : Option zV} {st : List zV} {M : zM} {a : Nat} : uL L xs R 574 [x0, some (.inr (.inr a)), x2, x3] st M ↔ uL L xs R 575 [x0, some (.inr (.inr a)), x2, x3] (.inr (.inr a) :: st) M := zU_step dL_574 (Or.inl rfl)
theorem dL_575 : decode code 575 = .ok (.aload_n 0, 1) := by decide +kernel
theorem rL_575 {L : Nat} {xs : Int → Int} {R : zP} {x1 x2 x3 : Option zV} {st : List zV} {M : zM} {a : Nat} : uL L xs R 575 [some (.inr (.inr a)), x1, x2, x3] st M ↔ uL L xs R 576 [some (.inr (.inr a)), x1, x2, x3] (.inr (.inr a) :: st) M := zU_step dL_575 (Or.inl rfl)
theorem dL_576 : decode code 576 = .ok (.iload_n 3, 1) := by decide +kernel
theorem rL_576 {L : Nat} {xs : Int → Int} {R : zP} {x0 x1 x2 : Option zV} {st : List zV} {M : zM} {a : Int} : uL L xs R 576 [x0, x1, x2, some (.inl a)] st M ↔ uL L xs R 577 [x0, x1, x2, some (.inl a)] (.inl a :: st) M := zU_step dL_576 (Or.inl rfl)
theorem dL_577 : decode code 577 = .ok (.iconst 1, 1) := by decide +kernel
theorem rL_577 {L : Nat} {xs : Int → Int} {R : zP} {x0 x1 x2 x3 : Option zV} {st : List zV} {M : zM} : uL L xs R 577 [x0, x1, x2, x3] st M ↔ uL L xs R 578 [x0, x1, x2, x3] (.inl (1) :: st) M := zU_step dL_577 (Or.inl rfl)
theorem dL_578 : decode code 578 = .ok (.iadd, 1) := by decide +kernel
theorem rL_578 {L : Nat} {xs : Int → Int} {R : zP} {x0 x1 x2 x3 : Option zV} {st : List zV} {M : zM} {a b : Int} : uL L xs R 578 [x0, x1, x2, x3] (.inl b :: .inl a :: st) M ↔ uL L xs R 579 [x0, x1, x2, x3] (.inl (a + b) :: st) M := zU_step dL_578 (Or.inl rfl)
theorem dL_579 : decode code 579 = .ok (.iaload, 1) := by decide +kernel
theorem rL_579 {L : Nat} {xs : Int → Int} {R : zP} {x0 x1 x2 x3 : Option zV} {st : List zV} {M : zM} {i : Int} {r : Nat} : uL L xs R 579 [x0, x1, x2, x3] (.inl i :: .inr (.inr r) :: st) M ↔ zread (fL L xs) 0 r M i (fun v => uL L xs R 580 [x0, x1, x2, x3] (.inl v :: st) M) := zU_step dL_579 (Or.inl rfl)
theorem dL_580 : decode code 580 = .ok (.invokevirtual 66, 3) := by decide +kernel
theorem rL_580 {L : Nat} {xs : Int → Int} {R : zP} {x0 x1 x2 x3 : Option zV} {st : List zV} {M : zM} {a0 a1 : zV} : uL L xs R 580 [x0, x1, x2, x3] (a1 :: a0 :: st) M ↔ (st.length ≤ 4 ∧ zcv (zv 7 (znm tX7_pusey)) [a0, a1] M (fun v M => uL L xs R 583 [x0, x1, x2, x3] (v :: st) M)) := Iff.trans (zU_step dL_580 (Or.inl rfl)) ⟨fun h => ⟨h.2.1, zcv_of h.2.2⟩, fun h => ⟨rfl, h.1, zcv_to h.2⟩⟩
theorem dL_583 : decode code 583 = .ok (.aload_n 2, 1) := by decide +kernel
theorem rL_583 {L : Nat} {xs : Int → Int} {R : zP} {x0 x1 x3 : Option zV} {st : List zV} {M : zM} {a : Nat} : uL L xs R 583 [x0, x1, some (.inr (.inr a)), x3] st M ↔ uL L xs R 584 [x0, x1, some (.inr (.inr a)), x3] (.inr (.inr a) :: st) M := zU_step dL_583 (Or.inl rfl)
theorem dL_584 : decode code 584 = .ok (.aload_n 0, 1) := by decide +kernel
theorem rL_584 {L : Nat} {xs : Int → Int} {R : zP} {x1 x2 x3 : Option zV} {st : List zV} {M : zM} {a : Nat} : uL L xs R 584 [some (.inr (.inr a)), x1, x2, x3] st M ↔ uL L xs R 585 [some (.inr (.inr a)), x1, x2, x3] (.inr (.inr a) :: st) M := zU_step dL_584 (Or.inl rfl)
theorem dL_585 : decode code 585 = .ok (.iload_n 3, 1) := by decide +kernel
theorem rL_585 {L : Nat} {xs : Int → Int} {R : zP} {x0 x1 x2 : Option zV} {st : List zV} {M : zM} {a : Int} : uL L xs R 585 [x0, x1, x2, some (.inl a)] st M ↔ uL L xs R 586 [x0, x1, x2, some (.inl a)] (.inl a :: st) M := zU_step dL_585 (Or.inl rfl)
theorem dL_586 : decode code 586 = .ok (.iconst 1, 1) := by decide +kernel
theorem rL_586 {L : Nat} {xs : Int → Int} {R : zP} {x0 x1 x2 x3 : Option zV} {st : List zV} {M : zM} : uL L xs R 586 [x0, x1, x2, x3] st M ↔ uL L xs R 587 [x0, x1, x2, x3] (.inl (1) :: st) M := zU_step dL_586 (Or.inl rfl)
theorem dL_587 : decode code 587 = .ok (.iadd, 1) := by decide +kernel
theorem rL_587 {L : Nat} {xs : Int → Int} {R : zP} {x0 x1 x2 x3 : Option zV} {st : List zV} {M : zM} {a b : Int} : uL L xs R 587 [x0, x1, x2, x3] (.inl b :: .inl a :: st) M ↔ uL L xs R 588 [x0, x1, x2, x3] (.inl (a + b) :: st) M := zU_step dL_587 (Or.inl rfl)
theorem dL_588 : decode code 588 = .ok (.iaload, 1) := by decide +kernel
theorem rL_588 {L : Nat} {xs : Int → Int} {R : zP} {x0 x1 x2 x3 : Option zV} {st : List zV} {M : zM} {i : Int} {r : Nat} : uL L xs R 588 [x0, x1, x2, x3] (.inl i :: .inr (.inr r) :: st) M ↔ zread (fL L xs) 0 r M i (fun v => uL L xs R 589 [x0, x1, x2, x3] (.inl v :: st) M) := zU_step dL_588 (Or.inl rfl)
theorem dL_589 : decode code 589 = .ok (.invokevirtual 69, 3) := by decide +kernel
theorem rL_589 {L : Nat} {xs : Int → Int} {R : zP} {x0 x1 x2 x3 : Option zV} {st : List zV} {M : zM} {a0 a1 : zV} : uL L xs R 589 [x0, x1, x2, x3] (a1 :: a0 :: st) M ↔ (st.length ≤ 4 ∧ zcv (zv 8 (znm tX8_pusey)) [a0, a1] M (fun v M => uL L xs R 592 [x0, x1, x2, x3] (v :: st) M)) := Iff.trans (zU_step dL_589 (Or.inl rfl)) ⟨fun h => ⟨h.2.1, zcv_of h.2.2⟩, fun h => ⟨rfl, h.1, zcv_to h.2⟩⟩
theorem dL_592 : decode code 592 = .ok (.if_icmp .eq 774, 3) := by decide +kernel
theorem rL_592 {L : Nat} {xs : Int → Int} {R : zP} {x0 x1 x2 x3 : Option zV} {st : List zV} {M : zM} {a b : Int} : uL L xs R 592 [x0, x1, x2, x3] (.inl b :: .inl a :: st) M ↔ ((zIR a ∧ zIR b) ∧ if a = b then uL L xs R 1366 [x0, x1, x2, x3] st M else uL L xs R 595 [x0, x1, x2, x3] st M) := Iff.trans (zU_step dL_592 (Or.inl rfl)) ⟨fun h => ⟨⟨h.1.1, h.1.2.1⟩, (zite (c := a = b)).mpr h.2⟩, fun h => ⟨⟨h.1.1, h.1.2, by decide⟩, (zite (c := a = b)).mp h.2⟩⟩
theorem dL_595 : decode code 595 = .ok (.iconst 0, 1) := by decide +kernel
theorem rL_595 {L : Nat} {xs : Int → Int} {R : zP} {x0 x1 x2 x3 : Option zV} {st : List zV} {M : zM} : uL L xs R 595 [x0, x1, x2, x3] st M ↔ uL L xs R 596 [x0, x1, x2, x3] (.inl (0) :: st) M := zU_step dL_595 (Or.inl rfl)
theorem dL_596 : decode code 596 = .ok (.ireturn, 1) := by decide +kernel
theorem rL_596 {L : Nat} {xs : Int → Int} {R : zP} {x0 x1 x2 x3 : Option zV} {M : zM} {a : Int} : uL L xs R 596 [x0, x1, x2, x3] [.inl a] M ↔ ((a = 0 ∨ a = 1) ∧ R (some (.inl a)) M) := Iff.trans (zU_step dL_596 (Or.inl rfl)) ⟨fun h => ⟨zret2 rfl h.2.1, h.2.2⟩, fun h => ⟨rfl, Or.inr (Or.inl ⟨rfl, h.1⟩), h.2⟩⟩
theorem dL_597 : decode code 597 = .ok (.aload_n 1, 1) := by decide +kernel
theorem rL_597 {L : Nat} {xs : Int → Int} {R : zP} {x0 x2 x3 : Option zV} {st : List zV} {M : zM} {a : Nat} : uL L xs R 597 [x0, some (.inr (.inr a)), x2, x3] st M ↔ uL L xs R 598 [x0, some (.inr (.inr a)), x2, x3] (.inr (.inr a) :: st) M := zU_step dL_597 (Or.inl rfl)
theorem dL_598 : decode code 598 = .ok (.invokevirtual 70, 3) := by decide +kernel
theorem rL_598 {L : Nat} {xs : Int → Int} {R : zP} {x0 x1 x2 x3 : Option zV} {st : List zV} {M : zM} {a0 : zV} : uL L xs R 598 [x0, x1, x2, x3] (a0 :: st) M ↔ (st.length ≤ 4 ∧ zcv (zv 7 (znm tX7_weaned)) [a0] M (fun v M => uL L xs R 601 [x0, x1, x2, x3] (v :: st) M)) := Iff.trans (zU_step dL_598 (Or.inl rfl)) ⟨fun h => ⟨h.2.1, zcv_of h.2.2⟩, fun h => ⟨rfl, h.1, zcv_to h.2⟩⟩
theorem dL_601 : decode code 601 = .ok (.aload_n 2, 1) := by decide +kernel
theorem rL_601 {L : Nat} {xs : Int → Int} {R : zP} {x0 x1 x3 : Option zV} {st : List zV} {M : zM} {a : Nat} : uL L xs R 601 [x0, x1, some (.inr (.inr a)), x3] st M ↔ uL L xs R 602 [x0, x1, some (.inr (.inr a)), x3] (.inr (.inr a) :: st) M := zU_step dL_601 (Or.inl rfl)
theorem dL_602 : decode code 602 = .ok (.invokevirtual 73, 3) := by decide +kernel
theorem rL_602 {L : Nat} {xs : Int → Int} {R : zP} {x0 x1 x2 x3 : Option zV} {st : List zV} {M : zM} {a0 : zV} : uL L xs R 602 [x0, x1, x2, x3] (a0 :: st) M ↔ (st.length ≤ 4 ∧ zcv (zv 8 (znm tX8_weaned)) [a0] M (fun v M => uL L xs R 605 [x0, x1, x2, x3] (v :: st) M)) := Iff.trans (zU_step dL_602 (Or.inl rfl)) ⟨fun h => ⟨h.2.1, zcv_of h.2.2⟩, fun h => ⟨rfl, h.1, zcv_to h.2⟩⟩
theorem dL_605 : decode code 605 = .ok (.if_icmp .eq 761, 3) := by decide +kernel
theorem rL_605 {L : Nat} {xs : Int → Int} {R : zP} {x0 x1 x2 x3 : Option zV} {st : List zV} {M : zM} {a b : Int} : uL L xs R 605 [x0, x1, x2, x3] (.inl b :: .inl a :: st) M ↔ ((zIR a ∧ zIR b) ∧ if a = b then uL L xs R 1366 [x0, x1, x2, x3] st M else uL L xs R 608 [x0, x1, x2, x3] st M) := Iff.trans (zU_step dL_605 (Or.inl rfl)) ⟨fun h => ⟨⟨h.1.1, h.1.2.1⟩, (zite (c := a = b)).mpr h.2⟩, fun h => ⟨⟨h.1.1, h.1.2, by decide⟩, (zite (c := a = b)).mp h.2⟩⟩
theorem dL_608 : decode code 608 = .ok (.iconst 0, 1) := by decide +kernel
theorem rL_608 {L : Nat} {xs : Int → Int} {R : zP} {x0 x1 x2 x3 : Option zV} {st : List zV} {M : zM} : uL L xs R 608 [x0, x1, x2, x3] st M ↔ uL L xs R 609 [x0, x1, x2, x3] (.inl (0) :: st) M := zU_step dL_608 (Or.inl rfl)
theorem dL_609 : decode code 609 = .ok (.ireturn, 1) := by decide +kernel
theorem rL_609 {L : Nat} {xs : Int → Int} {R : zP} {x0 x1 x2 x3 : Option zV} {M : zM} {a : Int} : uL L xs R 609 [x0, x1, x2, x3] [.inl a] M ↔ ((a = 0 ∨ a = 1) ∧ R (some (.inl a)) M) := Iff.trans (zU_step dL_609 (Or.inl rfl)) ⟨fun h => ⟨zret2 rfl h.2.1, h.2.2⟩, fun h => ⟨rfl, Or.inr (Or.inl ⟨rfl, h.1⟩), h.2⟩⟩
theorem dL_610 : decode code 610 = .ok (.aload_n 1, 1) := by decide +kernel
theorem rL_610 {L : Nat} {xs : Int → Int} {R : zP} {x0 x2 x3 : Option zV} {st : List zV} {M : zM} {a : Nat} : uL L xs R 610 [x0, some (.inr (.inr a)), x2, x3] st M ↔ uL L xs R 611 [x0, some (.inr (.inr a)), x2, x3] (.inr (.inr a) :: st) M := zU_step dL_610 (Or.inl rfl)
theorem dL_611 : decode code 611 = .ok (.aload_n 0, 1) := by decide +kernel
theorem rL_611 {L : Nat} {xs : Int → Int} {R : zP} {x1 x2 x3 : Option zV} {st : List zV} {M : zM} {a : Nat} : uL L xs R 611 [some (.inr (.inr a)), x1, x2, x3] st M ↔ uL L xs R 612 [some (.inr (.inr a)), x1, x2, x3] (.inr (.inr a) :: st) M := zU_step dL_611 (Or.inl rfl)
theorem dL_612 : decode code 612 = .ok (.iload_n 3, 1) := by decide +kernel
theorem rL_612 {L : Nat} {xs : Int → Int} {R : zP} {x0 x1 x2 : Option zV} {st : List zV} {M : zM} {a : Int} : uL L xs R 612 [x0, x1, x2, some (.inl a)] st M ↔ uL L xs R 613 [x0, x1, x2, some (.inl a)] (.inl a :: st) M := zU_step dL_612 (Or.inl rfl)
theorem dL_613 : decode code 613 = .ok (.iconst 1, 1) := by decide +kernel
theorem rL_613 {L : Nat} {xs : Int → Int} {R : zP} {x0 x1 x2 x3 : Option zV} {st : List zV} {M : zM} : uL L xs R 613 [x0, x1, x2, x3] st M ↔ uL L xs R 614 [x0, x1, x2, x3] (.inl (1) :: st) M := zU_step dL_613 (Or.inl rfl)
theorem dL_614 : decode code 614 = .ok (.iadd, 1) := by decide +kernel
theorem rL_614 {L : Nat} {xs : Int → Int} {R : zP} {x0 x1 x2 x3 : Option zV} {st : List zV} {M : zM} {a b : Int} : uL L xs R 614 [x0, x1, x2, x3] (.inl b :: .inl a :: st) M ↔ uL L xs R 615 [x0, x1, x2, x3] (.inl (a + b) :: st) M := zU_step dL_614 (Or.inl rfl)
theorem dL_615 : decode code 615 = .ok (.iaload, 1) := by decide +kernel
theorem rL_615 {L : Nat} {xs : Int → Int} {R : zP} {x0 x1 x2 x3 : Option zV} {st : List zV} {M : zM} {i : Int} {r : Nat} : uL L xs R 615 [x0, x1, x2, x3] (.inl i :: .inr (.inr r) :: st) M ↔ zread (fL L xs) 0 r M i (fun v => uL L xs R 616 [x0, x1, x2, x3] (.inl v :: st) M) := zU_step dL_615 (Or.inl rfl)
theorem dL_616 : decode code 616 = .ok (.invokevirtual 74, 3) := by decide +kernel
theorem rL_616 {L : Nat} {xs : Int → Int} {R : zP} {x0 x1 x2 x3 : Option zV} {st : List zV} {M : zM} {a0 a1 : zV} : uL L xs R 616 [x0, x1, x2, x3] (a1 :: a0 :: st) M ↔ (st.length ≤ 4 ∧ zcv (zv 7 (znm tX7_says)) [a0, a1] M (fun v M => uL L xs R 619 [x0, x1, x2, x3] (v :: st) M)) := Iff.trans (zU_step dL_616 (Or.inl rfl)) ⟨fun h => ⟨h.2.1, zcv_of h.2.2⟩, fun h => ⟨rfl, h.1, zcv_to h.2⟩⟩
theorem dL_619 : decode code 619 = .ok (.aload_n 2, 1) := by decide +kernel
theorem rL_619 {L : Nat} {xs : Int → Int} {R : zP} {x0 x1 x3 : Option zV} {st : List zV} {M : zM} {a : Nat} : uL L xs R 619 [x0, x1, some (.inr (.inr a)), x3] st M ↔ uL L xs R 620 [x0, x1, some (.inr (.inr a)), x3] (.inr (.inr a) :: st) M := zU_step dL_619 (Or.inl rfl)
theorem dL_620 : decode code 620 = .ok (.aload_n 0, 1) := by decide +kernel
theorem rL_620 {L : Nat} {xs : Int → Int} {R : zP} {x1 x2 x3 : Option zV} {st : List zV} {M : zM} {a : Nat} : uL L xs R 620 [some (.inr (.inr a)), x1, x2, x3] st M ↔ uL L xs R 621 [some (.inr (.inr a)), x1, x2, x3] (.inr (.inr a) :: st) M := zU_step dL_620 (Or.inl rfl)
theorem dL_621 : decode code 621 = .ok (.iload_n 3, 1) := by decide +kernel
theorem rL_621 {L : Nat} {xs : Int → Int} {R : zP} {x0 x1 x2 : Option zV} {st : List zV} {M : zM} {a : Int} : uL L xs R 621 [x0, x1, x2, some (.inl a)] st M ↔ uL L xs R 622 [x0, x1, x2, some (.inl a)] (.inl a :: st) M := zU_step dL_621 (Or.inl rfl)
theorem dL_622 : decode code 622 = .ok (.iconst 1, 1) := by decide +kernel
theorem rL_622 {L : Nat} {xs : Int → Int} {R : zP} {x0 x1 x2 x3 : Option zV} {st : List zV} {M : zM} : uL L xs R 622 [x0, x1, x2, x3] st M ↔ uL L xs R 623 [x0, x1, x2, x3] (.inl (1) :: st) M := zU_step dL_622 (Or.inl rfl)
theorem dL_623 : decode code 623 = .ok (.iadd, 1) := by decide +kernel
theorem rL_623 {L : Nat} {xs : Int → Int} {R : zP} {x0 x1 x2 x3 : Option zV} {st : List zV} {M : zM} {a b : Int} : uL L xs R 623 [x0, x1, x2, x3] (.inl b :: .inl a :: st) M ↔ uL L xs R 624 [x0, x1, x2, x3] (.inl (a + b) :: st) M := zU_step dL_623 (Or.inl rfl)
theorem dL_624 : decode code 624 = .ok (.iaload, 1) := by decide +kernel
theorem rL_624 {L : Nat} {xs : Int → Int} {R : zP} {x0 x1 x2 x3 : Option zV} {st : List zV} {M : zM} {i : Int} {r : Nat} : uL L xs R 624 [x0, x1, x2, x3] (.inl i :: .inr (.inr r) :: st) M ↔ zread (fL L xs) 0 r M i (fun v => uL L xs R 625 [x0, x1, x2, x3] (.inl v :: st) M) := zU_step dL_624 (Or.inl rfl)
theorem dL_625 : decode code 625 = .ok (.invokevirtual 77, 3) := by decide +kernel
theorem rL_625 {L : Nat} {xs : Int → Int} {R : zP} {x0 x1 x2 x3 : Option zV} {st : List zV} {M : zM} {a0 a1 : zV} : uL L xs R 625 [x0, x1, x2, x3] (a1 :: a0 :: st) M ↔ (st.length ≤ 4 ∧ zcv (zv 8 (znm tX8_says)) [a0, a1] M (fun v M => uL L xs R 628 [x0, x1, x2, x3] (v :: st) M)) := Iff.trans (zU_step dL_625 (Or.inl rfl)) ⟨fun h => ⟨h.2.1, zcv_of h.2.2⟩, fun h => ⟨rfl, h.1, zcv_to h.2⟩⟩
theorem dL_628 : decode code 628 = .ok (.if_icmp .eq 738, 3) := by decide +kernel
theorem rL_628 {L : Nat} {xs : Int → Int} {R : zP} {x0 x1 x2 x3 : Option zV} {st : List zV} {M : zM} {a b : Int} : uL L xs R 628 [x0, x1, x2, x3] (.inl b :: .inl a :: st) M ↔ ((zIR a ∧ zIR b) ∧ if a = b then uL L xs R 1366 [x0, x1, x2, x3] st M else uL L xs R 631 [x0, x1, x2, x3] st M) := Iff.trans (zU_step dL_628 (Or.inl rfl)) ⟨fun h => ⟨⟨h.1.1, h.1.2.1⟩, (zite (c := a = b)).mpr h.2⟩, fun h => ⟨⟨h.1.1, h.1.2, by decide⟩, (zite (c := a = b)).mp h.2⟩⟩
theorem dL_631 : decode code 631 = .ok (.iconst 0, 1) := by decide +kernel
theorem rL_631 {L : Nat} {xs : Int → Int} {R : zP} {x0 x1 x2 x3 : Option zV} {st : List zV} {M : zM} : uL L xs R 631 [x0, x1, x2, x3] st M ↔ uL L xs R 632 [x0, x1, x2, x3] (.inl (0) :: st) M := zU_step dL_631 (Or.inl rfl)
theorem dL_632 : decode code 632 = .ok (.ireturn, 1) := by decide +kernel
theorem rL_632 {L : Nat} {xs : Int → Int} {R : zP} {x0 x1 x2 x3 : Option zV} {M : zM} {a : Int} : uL L xs R 632 [x0, x1, x2, x3] [.inl a] M ↔ ((a = 0 ∨ a = 1) ∧ R (some (.inl a)) M) := Iff.trans (zU_step dL_632 (Or.inl rfl)) ⟨fun h => ⟨zret2 rfl h.2.1, h.2.2⟩, fun h => ⟨rfl, Or.inr (Or.inl ⟨rfl, h.1⟩), h.2⟩⟩
theorem dL_633 : decode code 633 = .ok (.aload_n 1, 1) := by decide +kernel
theorem rL_633 {L : Nat} {xs : Int → Int} {R : zP} {x0 x2 x3 : Option zV} {st : List zV} {M : zM} {a : Nat} : uL L xs R 633 [x0, some (.inr (.inr a)), x2, x3] st M ↔ uL L xs R 634 [x0, some (.inr (.inr a)), x2, x3] (.inr (.inr a) :: st) M := zU_step dL_633 (Or.inl rfl)
theorem dL_634 : decode code 634 = .ok (.aload_n 0, 1) := by decide +kernel
theorem rL_634 {L : Nat} {xs : Int → Int} {R : zP} {x1 x2 x3 : Option zV} {st : List zV} {M : zM} {a : Nat} : uL L xs R 634 [some (.inr (.inr a)), x1, x2, x3] st M ↔ uL L xs R 635 [some (.inr (.inr a)), x1, x2, x3] (.inr (.inr a) :: st) M := zU_step dL_634 (Or.inl rfl)
theorem dL_635 : decode code 635 = .ok (.iload_n 3, 1) := by decide +kernel
theorem rL_635 {L : Nat} {xs : Int → Int} {R : zP} {x0 x1 x2 : Option zV} {st : List zV} {M : zM} {a : Int} : uL L xs R 635 [x0, x1, x2, some (.inl a)] st M ↔ uL L xs R 636 [x0, x1, x2, some (.inl a)] (.inl a :: st) M := zU_step dL_635 (Or.inl rfl)
theorem dL_636 : decode code 636 = .ok (.iconst 1, 1) := by decide +kernel
theorem rL_636 {L : Nat} {xs : Int → Int} {R : zP} {x0 x1 x2 x3 : Option zV} {st : List zV} {M : zM} : uL L xs R 636 [x0, x1, x2, x3] st M ↔ uL L xs R 637 [x0, x1, x2, x3] (.inl (1) :: st) M := zU_step dL_636 (Or.inl rfl)
theorem dL_637 : decode code 637 = .ok (.iadd, 1) := by decide +kernel
theorem rL_637 {L : Nat} {xs : Int → Int} {R : zP} {x0 x1 x2 x3 : Option zV} {st : List zV} {M : zM} {a b : Int} : uL L xs R 637 [x0, x1, x2, x3] (.inl b :: .inl a :: st) M ↔ uL L xs R 638 [x0, x1, x2, x3] (.inl (a + b) :: st) M := zU_step dL_637 (Or.inl rfl)
theorem dL_638 : decode code 638 = .ok (.iaload, 1) := by decide +kernel
theorem rL_638 {L : Nat} {xs : Int → Int} {R : zP} {x0 x1 x2 x3 : Option zV} {st : List zV} {M : zM} {i : Int} {r : Nat} : uL L xs R 638 [x0, x1, x2, x3] (.inl i :: .inr (.inr r) :: st) M ↔ zread (fL L xs) 0 r M i (fun v => uL L xs R 639 [x0, x1, x2, x3] (.inl v :: st) M) := zU_step dL_638 (Or.inl rfl)
theorem dL_639 : decode code 639 = .ok (.aload_n 0, 1) := by decide +kernel
theorem rL_639 {L : Nat} {xs : Int → Int} {R : zP} {x1 x2 x3 : Option zV} {st : List zV} {M : zM} {a : Nat} : uL L xs R 639 [some (.inr (.inr a)), x1, x2, x3] st M ↔ uL L xs R 640 [some (.inr (.inr a)), x1, x2, x3] (.inr (.inr a) :: st) M := zU_step dL_639 (Or.inl rfl)
theorem dL_640 : decode code 640 = .ok (.iload_n 3, 1) := by decide +kernel
theorem rL_640 {L : Nat} {xs : Int → Int} {R : zP} {x0 x1 x2 : Option zV} {st : List zV} {M : zM} {a : Int} : uL L xs R 640 [x0, x1, x2, some (.inl a)] st M ↔ uL L xs R 641 [x0, x1, x2, some (.inl a)] (.inl a :: st) M := zU_step dL_640 (Or.inl rfl)
theorem dL_641 : decode code 641 = .ok (.iconst 2, 1) := by decide +kernel
theorem rL_641 {L : Nat} {xs : Int → Int} {R : zP} {x0 x1 x2 x3 : Option zV} {st : List zV} {M : zM} : uL L xs R 641 [x0, x1, x2, x3] st M ↔ uL L xs R 642 [x0, x1, x2, x3] (.inl (2) :: st) M := zU_step dL_641 (Or.inl rfl)
theorem dL_642 : decode code 642 = .ok (.iadd, 1) := by decide +kernel
theorem rL_642 {L : Nat} {xs : Int → Int} {R : zP} {x0 x1 x2 x3 : Option zV} {st : List zV} {M : zM} {a b : Int} : uL L xs R 642 [x0, x1, x2, x3] (.inl b :: .inl a :: st) M ↔ uL L xs R 643 [x0, x1, x2, x3] (.inl (a + b) :: st) M := zU_step dL_642 (Or.inl rfl)
theorem dL_643 : decode code 643 = .ok (.iaload, 1) := by decide +kernel
theorem rL_643 {L : Nat} {xs : Int → Int} {R : zP} {x0 x1 x2 x3 : Option zV} {st : List zV} {M : zM} {i : Int} {r : Nat} : uL L xs R 643 [x0, x1, x2, x3] (.inl i :: .inr (.inr r) :: st) M ↔ zread (fL L xs) 0 r M i (fun v => uL L xs R 644 [x0, x1, x2, x3] (.inl v :: st) M) := zU_step dL_643 (Or.inl rfl)
theorem dL_644 : decode code 644 = .ok (.aload_n 0, 1) := by decide +kernel
theorem rL_644 {L : Nat} {xs : Int → Int} {R : zP} {x1 x2 x3 : Option zV} {st : List zV} {M : zM} {a : Nat} : uL L xs R 644 [some (.inr (.inr a)), x1, x2, x3] st M ↔ uL L xs R 645 [some (.inr (.inr a)), x1, x2, x3] (.inr (.inr a) :: st) M := zU_step dL_644 (Or.inl rfl)
theorem dL_645 : decode code 645 = .ok (.iload_n 3, 1) := by decide +kernel
theorem rL_645 {L : Nat} {xs : Int → Int} {R : zP} {x0 x1 x2 : Option zV} {st : List zV} {M : zM} {a : Int} : uL L xs R 645 [x0, x1, x2, some (.inl a)] st M ↔ uL L xs R 646 [x0, x1, x2, some (.inl a)] (.inl a :: st) M := zU_step dL_645 (Or.inl rfl)
theorem dL_646 : decode code 646 = .ok (.iconst 3, 1) := by decide +kernel
theorem rL_646 {L : Nat} {xs : Int → Int} {R : zP} {x0 x1 x2 x3 : Option zV} {st : List zV} {M : zM} : uL L xs R 646 [x0, x1, x2, x3] st M ↔ uL L xs R 647 [x0, x1, x2, x3] (.inl (3) :: st) M := zU_step dL_646 (Or.inl rfl)
theorem dL_647 : decode code 647 = .ok (.iadd, 1) := by decide +kernel
theorem rL_647 {L : Nat} {xs : Int → Int} {R : zP} {x0 x1 x2 x3 : Option zV} {st : List zV} {M : zM} {a b : Int} : uL L xs R 647 [x0, x1, x2, x3] (.inl b :: .inl a :: st) M ↔ uL L xs R 648 [x0, x1, x2, x3] (.inl (a + b) :: st) M := zU_step dL_647 (Or.inl rfl)
theorem dL_648 : decode code 648 = .ok (.iaload, 1) := by decide +kernel
theorem rL_648 {L : Nat} {xs : Int → Int} {R : zP} {x0 x1 x2 x3 : Option zV} {st : List zV} {M : zM} {i : Int} {r : Nat} : uL L xs R 648 [x0, x1, x2, x3] (.inl i :: .inr (.inr r) :: st) M ↔ zread (fL L xs) 0 r M i (fun v => uL L xs R 649 [x0, x1, x2, x3] (.inl v :: st) M) := zU_step dL_648 (Or.inl rfl)
theorem dL_649 : decode code 649 = .ok (.invokevirtual 78, 3) := by decide +kernel
theorem rL_649 {L : Nat} {xs : Int → Int} {R : zP} {x0 x1 x2 x3 : Option zV} {st : List zV} {M : zM} {a0 a1 a2 a3 : zV} : uL L xs R 649 [x0, x1, x2, x3] (a3 :: a2 :: a1 :: a0 :: st) M ↔ (st.length ≤ 4 ∧ zcv (zv 7 (znm tX7_power)) [a0, a1, a2, a3] M (fun v M => uL L xs R 652 [x0, x1, x2, x3] (v :: st) M)) := Iff.trans (zU_step dL_649 (Or.inl rfl)) ⟨fun h => ⟨h.2.1, zcv_of h.2.2⟩, fun h => ⟨rfl, h.1, zcv_to h.2⟩⟩
theorem dL_652 : decode code 652 = .ok (.aload_n 2, 1) := by decide +kernel
theorem rL_652 {L : Nat} {xs : Int → Int} {R : zP} {x0 x1 x3 : Option zV} {st : List zV} {M : zM} {a : Nat} : uL L xs R 652 [x0, x1, some (.inr (.inr a)), x3] st M ↔ uL L xs R 653 [x0, x1, some (.inr (.inr a)), x3] (.inr (.inr a) :: st) M := zU_step dL_652 (Or.inl rfl)
theorem dL_653 : decode code 653 = .ok (.aload_n 0, 1) := by decide +kernel
theorem rL_653 {L : Nat} {xs : Int → Int} {R : zP} {x1 x2 x3 : Option zV} {st : List zV} {M : zM} {a : Nat} : uL L xs R 653 [some (.inr (.inr a)), x1, x2, x3] st M ↔ uL L xs R 654 [some (.inr (.inr a)), x1, x2, x3] (.inr (.inr a) :: st) M := zU_step dL_653 (Or.inl rfl)
theorem dL_654 : decode code 654 = .ok (.iload_n 3, 1) := by decide +kernel
theorem rL_654 {L : Nat} {xs : Int → Int} {R : zP} {x0 x1 x2 : Option zV} {st : List zV} {M : zM} {a : Int} : uL L xs R 654 [x0, x1, x2, some (.inl a)] st M ↔ uL L xs R 655 [x0, x1, x2, some (.inl a)] (.inl a :: st) M := zU_step dL_654 (Or.inl rfl)
theorem dL_655 : decode code 655 = .ok (.iconst 1, 1) := by decide +kernel
theorem rL_655 {L : Nat} {xs : Int → Int} {R : zP} {x0 x1 x2 x3 : Option zV} {st : List zV} {M : zM} : uL L xs R 655 [x0, x1, x2, x3] st M ↔ uL L xs R 656 [x0, x1, x2, x3] (.inl (1) :: st) M := zU_step dL_655 (Or.inl rfl)
theorem dL_656 : decode code 656 = .ok (.iadd, 1) := by decide +kernel
theorem rL_656 {L : Nat} {xs : Int → Int} {R : zP} {x0 x1 x2 x3 : Option zV} {st : List zV} {M : zM} {a b : Int} : uL L xs R 656 [x0, x1, x2, x3] (.inl b :: .inl a :: st) M ↔ uL L xs R 657 [x0, x1, x2, x3] (.inl (a + b) :: st) M := zU_step dL_656 (Or.inl rfl)
theorem dL_657 : decode code 657 = .ok (.iaload, 1) := by decide +kernel
theorem rL_657 {L : Nat} {xs : Int → Int} {R : zP} {x0 x1 x2 x3 : Option zV} {st : List zV} {M : zM} {i : Int} {r : Nat} : uL L xs R 657 [x0, x1, x2, x3] (.inl i :: .inr (.inr r) :: st) M ↔ zread (fL L xs) 0 r M i (fun v => uL L xs R 658 [x0, x1, x2, x3] (.inl v :: st) M) := zU_step dL_657 (Or.inl rfl)
theorem dL_658 : decode code 658 = .ok (.aload_n 0, 1) := by decide +kernel
theorem rL_658 {L : Nat} {xs : Int → Int} {R : zP} {x1 x2 x3 : Option zV} {st : List zV} {M : zM} {a : Nat} : uL L xs R 658 [some (.inr (.inr a)), x1, x2, x3] st M ↔ uL L xs R 659 [some (.inr (.inr a)), x1, x2, x3] (.inr (.inr a) :: st) M := zU_step dL_658 (Or.inl rfl)
theorem dL_659 : decode code 659 = .ok (.iload_n 3, 1) := by decide +kernel
theorem rL_659 {L : Nat} {xs : Int → Int} {R : zP} {x0 x1 x2 : Option zV} {st : List zV} {M : zM} {a : Int} : uL L xs R 659 [x0, x1, x2, some (.inl a)] st M ↔ uL L xs R 660 [x0, x1, x2, some (.inl a)] (.inl a :: st) M := zU_step dL_659 (Or.inl rfl)
theorem dL_660 : decode code 660 = .ok (.iconst 2, 1) := by decide +kernel
theorem rL_660 {L : Nat} {xs : Int → Int} {R : zP} {x0 x1 x2 x3 : Option zV} {st : List zV} {M : zM} : uL L xs R 660 [x0, x1, x2, x3] st M ↔ uL L xs R 661 [x0, x1, x2, x3] (.inl (2) :: st) M := zU_step dL_660 (Or.inl rfl)
theorem dL_661 : decode code 661 = .ok (.iadd, 1) := by decide +kernel
theorem rL_661 {L : Nat} {xs : Int → Int} {R : zP} {x0 x1 x2 x3 : Option zV} {st : List zV} {M : zM} {a b : Int} : uL L xs R 661 [x0, x1, x2, x3] (.inl b :: .inl a :: st) M ↔ uL L xs R 662 [x0, x1, x2, x3] (.inl (a + b) :: st) M := zU_step dL_661 (Or.inl rfl)
theorem dL_662 : decode code 662 = .ok (.iaload, 1) := by decide +kernel
theorem rL_662 {L : Nat} {xs : Int → Int} {R : zP} {x0 x1 x2 x3 : Option zV} {st : List zV} {M : zM} {i : Int} {r : Nat} : uL L xs R 662 [x0, x1, x2, x3] (.inl i :: .inr (.inr r) :: st) M ↔ zread (fL L xs) 0 r M i (fun v => uL L xs R 663 [x0, x1, x2, x3] (.inl v :: st) M) := zU_step dL_662 (Or.inl rfl)
theorem dL_663 : decode code 663 = .ok (.aload_n 0, 1) := by decide +kernel
theorem rL_663 {L : Nat} {xs : Int → Int} {R : zP} {x1 x2 x3 : Option zV} {st : List zV} {M : zM} {a : Nat} : uL L xs R 663 [some (.inr (.inr a)), x1, x2, x3] st M ↔ uL L xs R 664 [some (.inr (.inr a)), x1, x2, x3] (.inr (.inr a) :: st) M := zU_step dL_663 (Or.inl rfl)
theorem dL_664 : decode code 664 = .ok (.iload_n 3, 1) := by decide +kernel
theorem rL_664 {L : Nat} {xs : Int → Int} {R : zP} {x0 x1 x2 : Option zV} {st : List zV} {M : zM} {a : Int} : uL L xs R 664 [x0, x1, x2, some (.inl a)] st M ↔ uL L xs R 665 [x0, x1, x2, some (.inl a)] (.inl a :: st) M := zU_step dL_664 (Or.inl rfl)
theorem dL_665 : decode code 665 = .ok (.iconst 3, 1) := by decide +kernel
theorem rL_665 {L : Nat} {xs : Int → Int} {R : zP} {x0 x1 x2 x3 : Option zV} {st : List zV} {M : zM} : uL L xs R 665 [x0, x1, x2, x3] st M ↔ uL L xs R 666 [x0, x1, x2, x3] (.inl (3) :: st) M := zU_step dL_665 (Or.inl rfl)
theorem dL_666 : decode code 666 = .ok (.iadd, 1) := by decide +kernel
theorem rL_666 {L : Nat} {xs : Int → Int} {R : zP} {x0 x1 x2 x3 : Option zV} {st : List zV} {M : zM} {a b : Int} : uL L xs R 666 [x0, x1, x2, x3] (.inl b :: .inl a :: st) M ↔ uL L xs R 667 [x0, x1, x2, x3] (.inl (a + b) :: st) M := zU_step dL_666 (Or.inl rfl)
theorem dL_667 : decode code 667 = .ok (.iaload, 1) := by decide +kernel
theorem rL_667 {L : Nat} {xs : Int → Int} {R : zP} {x0 x1 x2 x3 : Option zV} {st : List zV} {M : zM} {i : Int} {r : Nat} : uL L xs R 667 [x0, x1, x2, x3] (.inl i :: .inr (.inr r) :: st) M ↔ zread (fL L xs) 0 r M i (fun v => uL L xs R 668 [x0, x1, x2, x3] (.inl v :: st) M) := zU_step dL_667 (Or.inl rfl)
theorem dL_668 : decode code 668 = .ok (.invokevirtual 82, 3) := by decide +kernel
theorem rL_668 {L : Nat} {xs : Int → Int} {R : zP} {x0 x1 x2 x3 : Option zV} {st : List zV} {M : zM} {a0 a1 a2 a3 : zV} : uL L xs R 668 [x0, x1, x2, x3] (a3 :: a2 :: a1 :: a0 :: st) M ↔ (st.length ≤ 4 ∧ zcv (zv 8 (znm tX8_power)) [a0, a1, a2, a3] M (fun v M => uL L xs R 671 [x0, x1, x2, x3] (v :: st) M)) := Iff.trans (zU_step dL_668 (Or.inl rfl)) ⟨fun h => ⟨h.2.1, zcv_of h.2.2⟩, fun h => ⟨rfl, h.1, zcv_to h.2⟩⟩
theorem dL_671 : decode code 671 = .ok (.lcmp, 1) := by decide +kernel
theorem rL_671 {L : Nat} {xs : Int → Int} {R : zP} {x0 x1 x2 x3 : Option zV} {st : List zV} {M : zM} {a b : Int} : uL L xs R 671 [x0, x1, x2, x3] (.inr (.inl b) :: .inr (.inl a) :: st) M ↔ ((zLR a ∧ zLR b) ∧ uL L xs R 672 [x0, x1, x2, x3] (.inl (zcmp a b) :: st) M) := zU_step dL_671 (Or.inl rfl)
theorem dL_672 : decode code 672 = .ok (.ifCond .eq 694, 3) := by decide +kernel
theorem rL_672 {L : Nat} {xs : Int → Int} {R : zP} {x0 x1 x2 x3 : Option zV} {st : List zV} {M : zM} {a : Int} : uL L xs R 672 [x0, x1, x2, x3] (.inl a :: st) M ↔ (zIR a ∧ if a = 0 then uL L xs R 1366 [x0, x1, x2, x3] st M else uL L xs R 675 [x0, x1, x2, x3] st M) := Iff.trans (zU_step dL_672 (Or.inl rfl)) ⟨fun h => ⟨h.1.1, (zite (c := a = 0)).mpr h.2⟩, fun h => ⟨⟨h.1, by decide⟩, (zite (c := a = 0)).mp h.2⟩⟩
theorem dL_675 : decode code 675 = .ok (.iconst 0, 1) := by decide +kernel
theorem rL_675 {L : Nat} {xs : Int → Int} {R : zP} {x0 x1 x2 x3 : Option zV} {st : List zV} {M : zM} : uL L xs R 675 [x0, x1, x2, x3] st M ↔ uL L xs R 676 [x0, x1, x2, x3] (.inl (0) :: st) M := zU_step dL_675 (Or.inl rfl)
theorem dL_676 : decode code 676 = .ok (.ireturn, 1) := by decide +kernel
theorem rL_676 {L : Nat} {xs : Int → Int} {R : zP} {x0 x1 x2 x3 : Option zV} {M : zM} {a : Int} : uL L xs R 676 [x0, x1, x2, x3] [.inl a] M ↔ ((a = 0 ∨ a = 1) ∧ R (some (.inl a)) M) := Iff.trans (zU_step dL_676 (Or.inl rfl)) ⟨fun h => ⟨zret2 rfl h.2.1, h.2.2⟩, fun h => ⟨rfl, Or.inr (Or.inl ⟨rfl, h.1⟩), h.2⟩⟩
theorem dL_677 : decode code 677 = .ok (.aload_n 1, 1) := by decide +kernel
theorem rL_677 {L : Nat} {xs : Int → Int} {R : zP} {x0 x2 x3 : Option zV} {st : List zV} {M : zM} {a : Nat} : uL L xs R 677 [x0, some (.inr (.inr a)), x2, x3] st M ↔ uL L xs R 678 [x0, some (.inr (.inr a)), x2, x3] (.inr (.inr a) :: st) M := zU_step dL_677 (Or.inl rfl)
theorem dL_678 : decode code 678 = .ok (.aload_n 0, 1) := by decide +kernel
theorem rL_678 {L : Nat} {xs : Int → Int} {R : zP} {x1 x2 x3 : Option zV} {st : List zV} {M : zM} {a : Nat} : uL L xs R 678 [some (.inr (.inr a)), x1, x2, x3] st M ↔ uL L xs R 679 [some (.inr (.inr a)), x1, x2, x3] (.inr (.inr a) :: st) M := zU_step dL_678 (Or.inl rfl)
theorem dL_679 : decode code 679 = .ok (.iload_n 3, 1) := by decide +kernel
theorem rL_679 {L : Nat} {xs : Int → Int} {R : zP} {x0 x1 x2 : Option zV} {st : List zV} {M : zM} {a : Int} : uL L xs R 679 [x0, x1, x2, some (.inl a)] st M ↔ uL L xs R 680 [x0, x1, x2, some (.inl a)] (.inl a :: st) M := zU_step dL_679 (Or.inl rfl)
theorem dL_680 : decode code 680 = .ok (.iconst 1, 1) := by decide +kernel
theorem rL_680 {L : Nat} {xs : Int → Int} {R : zP} {x0 x1 x2 x3 : Option zV} {st : List zV} {M : zM} : uL L xs R 680 [x0, x1, x2, x3] st M ↔ uL L xs R 681 [x0, x1, x2, x3] (.inl (1) :: st) M := zU_step dL_680 (Or.inl rfl)
theorem dL_681 : decode code 681 = .ok (.iadd, 1) := by decide +kernel
theorem rL_681 {L : Nat} {xs : Int → Int} {R : zP} {x0 x1 x2 x3 : Option zV} {st : List zV} {M : zM} {a b : Int} : uL L xs R 681 [x0, x1, x2, x3] (.inl b :: .inl a :: st) M ↔ uL L xs R 682 [x0, x1, x2, x3] (.inl (a + b) :: st) M := zU_step dL_681 (Or.inl rfl)
theorem dL_682 : decode code 682 = .ok (.iaload, 1) := by decide +kernel
theorem rL_682 {L : Nat} {xs : Int → Int} {R : zP} {x0 x1 x2 x3 : Option zV} {st : List zV} {M : zM} {i : Int} {r : Nat} : uL L xs R 682 [x0, x1, x2, x3] (.inl i :: .inr (.inr r) :: st) M ↔ zread (fL L xs) 0 r M i (fun v => uL L xs R 683 [x0, x1, x2, x3] (.inl v :: st) M) := zU_step dL_682 (Or.inl rfl)
theorem dL_683 : decode code 683 = .ok (.aload_n 0, 1) := by decide +kernel
theorem rL_683 {L : Nat} {xs : Int → Int} {R : zP} {x1 x2 x3 : Option zV} {st : List zV} {M : zM} {a : Nat} : uL L xs R 683 [some (.inr (.inr a)), x1, x2, x3] st M ↔ uL L xs R 684 [some (.inr (.inr a)), x1, x2, x3] (.inr (.inr a) :: st) M := zU_step dL_683 (Or.inl rfl)
theorem dL_684 : decode code 684 = .ok (.iload_n 3, 1) := by decide +kernel
theorem rL_684 {L : Nat} {xs : Int → Int} {R : zP} {x0 x1 x2 : Option zV} {st : List zV} {M : zM} {a : Int} : uL L xs R 684 [x0, x1, x2, some (.inl a)] st M ↔ uL L xs R 685 [x0, x1, x2, some (.inl a)] (.inl a :: st) M := zU_step dL_684 (Or.inl rfl)
theorem dL_685 : decode code 685 = .ok (.iconst 2, 1) := by decide +kernel
theorem rL_685 {L : Nat} {xs : Int → Int} {R : zP} {x0 x1 x2 x3 : Option zV} {st : List zV} {M : zM} : uL L xs R 685 [x0, x1, x2, x3] st M ↔ uL L xs R 686 [x0, x1, x2, x3] (.inl (2) :: st) M := zU_step dL_685 (Or.inl rfl)
theorem dL_686 : decode code 686 = .ok (.iadd, 1) := by decide +kernel
theorem rL_686 {L : Nat} {xs : Int → Int} {R : zP} {x0 x1 x2 x3 : Option zV} {st : List zV} {M : zM} {a b : Int} : uL L xs R 686 [x0, x1, x2, x3] (.inl b :: .inl a :: st) M ↔ uL L xs R 687 [x0, x1, x2, x3] (.inl (a + b) :: st) M := zU_step dL_686 (Or.inl rfl)
theorem dL_687 : decode code 687 = .ok (.iaload, 1) := by decide +kernel
theorem rL_687 {L : Nat} {xs : Int → Int} {R : zP} {x0 x1 x2 x3 : Option zV} {st : List zV} {M : zM} {i : Int} {r : Nat} : uL L xs R 687 [x0, x1, x2, x3] (.inl i :: .inr (.inr r) :: st) M ↔ zread (fL L xs) 0 r M i (fun v => uL L xs R 688 [x0, x1, x2, x3] (.inl v :: st) M) := zU_step dL_687 (Or.inl rfl)
theorem dL_688 : decode code 688 = .ok (.aload_n 0, 1) := by decide +kernel
theorem rL_688 {L : Nat} {xs : Int → Int} {R : zP} {x1 x2 x3 : Option zV} {st : List zV} {M : zM} {a : Nat} : uL L xs R 688 [some (.inr (.inr a)), x1, x2, x3] st M ↔ uL L xs R 689 [some (.inr (.inr a)), x1, x2, x3] (.inr (.inr a) :: st) M := zU_step dL_688 (Or.inl rfl)
theorem dL_689 : decode code 689 = .ok (.iload_n 3, 1) := by decide +kernel
theorem rL_689 {L : Nat} {xs : Int → Int} {R : zP} {x0 x1 x2 : Option zV} {st : List zV} {M : zM} {a : Int} : uL L xs R 689 [x0, x1, x2, some (.inl a)] st M ↔ uL L xs R 690 [x0, x1, x2, some (.inl a)] (.inl a :: st) M := zU_step dL_689 (Or.inl rfl)
theorem dL_690 : decode code 690 = .ok (.iconst 3, 1) := by decide +kernel
theorem rL_690 {L : Nat} {xs : Int → Int} {R : zP} {x0 x1 x2 x3 : Option zV} {st : List zV} {M : zM} : uL L xs R 690 [x0, x1, x2, x3] st M ↔ uL L xs R 691 [x0, x1, x2, x3] (.inl (3) :: st) M := zU_step dL_690 (Or.inl rfl)
theorem dL_691 : decode code 691 = .ok (.iadd, 1) := by decide +kernel
theorem rL_691 {L : Nat} {xs : Int → Int} {R : zP} {x0 x1 x2 x3 : Option zV} {st : List zV} {M : zM} {a b : Int} : uL L xs R 691 [x0, x1, x2, x3] (.inl b :: .inl a :: st) M ↔ uL L xs R 692 [x0, x1, x2, x3] (.inl (a + b) :: st) M := zU_step dL_691 (Or.inl rfl)
theorem dL_692 : decode code 692 = .ok (.iaload, 1) := by decide +kernel
theorem rL_692 {L : Nat} {xs : Int → Int} {R : zP} {x0 x1 x2 x3 : Option zV} {st : List zV} {M : zM} {i : Int} {r : Nat} : uL L xs R 692 [x0, x1, x2, x3] (.inl i :: .inr (.inr r) :: st) M ↔ zread (fL L xs) 0 r M i (fun v => uL L xs R 693 [x0, x1, x2, x3] (.inl v :: st) M) := zU_step dL_692 (Or.inl rfl)
theorem dL_693 : decode code 693 = .ok (.aload_n 0, 1) := by decide +kernel
theorem rL_693 {L : Nat} {xs : Int → Int} {R : zP} {x1 x2 x3 : Option zV} {st : List zV} {M : zM} {a : Nat} : uL L xs R 693 [some (.inr (.inr a)), x1, x2, x3] st M ↔ uL L xs R 694 [some (.inr (.inr a)), x1, x2, x3] (.inr (.inr a) :: st) M := zU_step dL_693 (Or.inl rfl)
theorem dL_694 : decode code 694 = .ok (.iload_n 3, 1) := by decide +kernel
theorem rL_694 {L : Nat} {xs : Int → Int} {R : zP} {x0 x1 x2 : Option zV} {st : List zV} {M : zM} {a : Int} : uL L xs R 694 [x0, x1, x2, some (.inl a)] st M ↔ uL L xs R 695 [x0, x1, x2, some (.inl a)] (.inl a :: st) M := zU_step dL_694 (Or.inl rfl)
theorem dL_695 : decode code 695 = .ok (.iconst 4, 1) := by decide +kernel
theorem rL_695 {L : Nat} {xs : Int → Int} {R : zP} {x0 x1 x2 x3 : Option zV} {st : List zV} {M : zM} : uL L xs R 695 [x0, x1, x2, x3] st M ↔ uL L xs R 696 [x0, x1, x2, x3] (.inl (4) :: st) M := zU_step dL_695 (Or.inl rfl)
theorem dL_696 : decode code 696 = .ok (.iadd, 1) := by decide +kernel
theorem rL_696 {L : Nat} {xs : Int → Int} {R : zP} {x0 x1 x2 x3 : Option zV} {st : List zV} {M : zM} {a b : Int} : uL L xs R 696 [x0, x1, x2, x3] (.inl b :: .inl a :: st) M ↔ uL L xs R 697 [x0, x1, x2, x3] (.inl (a + b) :: st) M := zU_step dL_696 (Or.inl rfl)
theorem dL_697 : decode code 697 = .ok (.iaload, 1) := by decide +kernel
theorem rL_697 {L : Nat} {xs : Int → Int} {R : zP} {x0 x1 x2 x3 : Option zV} {st : List zV} {M : zM} {i : Int} {r : Nat} : uL L xs R 697 [x0, x1, x2, x3] (.inl i :: .inr (.inr r) :: st) M ↔ zread (fL L xs) 0 r M i (fun v => uL L xs R 698 [x0, x1, x2, x3] (.inl v :: st) M) := zU_step dL_697 (Or.inl rfl)
theorem dL_698 : decode code 698 = .ok (.invokevirtual 83, 3) := by decide +kernel
theorem rL_698 {L : Nat} {xs : Int → Int} {R : zP} {x0 x1 x2 x3 : Option zV} {st : List zV} {M : zM} {a0 a1 a2 a3 a4 : zV} : uL L xs R 698 [x0, x1, x2, x3] (a4 :: a3 :: a2 :: a1 :: a0 :: st) M ↔ (st.length ≤ 4 ∧ zcv (zv 7 (znm tX7_rear)) [a0, a1, a2, a3, a4] M (fun v M => uL L xs R 701 [x0, x1, x2, x3] (v :: st) M)) := Iff.trans (zU_step dL_698 (Or.inl rfl)) ⟨fun h => ⟨h.2.1, zcv_of h.2.2⟩, fun h => ⟨rfl, h.1, zcv_to h.2⟩⟩
theorem dL_701 : decode code 701 = .ok (.aload_n 2, 1) := by decide +kernel
theorem rL_701 {L : Nat} {xs : Int → Int} {R : zP} {x0 x1 x3 : Option zV} {st : List zV} {M : zM} {a : Nat} : uL L xs R 701 [x0, x1, some (.inr (.inr a)), x3] st M ↔ uL L xs R 702 [x0, x1, some (.inr (.inr a)), x3] (.inr (.inr a) :: st) M := zU_step dL_701 (Or.inl rfl)
theorem dL_702 : decode code 702 = .ok (.aload_n 0, 1) := by decide +kernel
theorem rL_702 {L : Nat} {xs : Int → Int} {R : zP} {x1 x2 x3 : Option zV} {st : List zV} {M : zM} {a : Nat} : uL L xs R 702 [some (.inr (.inr a)), x1, x2, x3] st M ↔ uL L xs R 703 [some (.inr (.inr a)), x1, x2, x3] (.inr (.inr a) :: st) M := zU_step dL_702 (Or.inl rfl)
theorem dL_703 : decode code 703 = .ok (.iload_n 3, 1) := by decide +kernel
theorem rL_703 {L : Nat} {xs : Int → Int} {R : zP} {x0 x1 x2 : Option zV} {st : List zV} {M : zM} {a : Int} : uL L xs R 703 [x0, x1, x2, some (.inl a)] st M ↔ uL L xs R 704 [x0, x1, x2, some (.inl a)] (.inl a :: st) M := zU_step dL_703 (Or.inl rfl)
theorem dL_704 : decode code 704 = .ok (.iconst 1, 1) := by decide +kernel
theorem rL_704 {L : Nat} {xs : Int → Int} {R : zP} {x0 x1 x2 x3 : Option zV} {st : List zV} {M : zM} : uL L xs R 704 [x0, x1, x2, x3] st M ↔ uL L xs R 705 [x0, x1, x2, x3] (.inl (1) :: st) M := zU_step dL_704 (Or.inl rfl)
theorem dL_705 : decode code 705 = .ok (.iadd, 1) := by decide +kernel
theorem rL_705 {L : Nat} {xs : Int → Int} {R : zP} {x0 x1 x2 x3 : Option zV} {st : List zV} {M : zM} {a b : Int} : uL L xs R 705 [x0, x1, x2, x3] (.inl b :: .inl a :: st) M ↔ uL L xs R 706 [x0, x1, x2, x3] (.inl (a + b) :: st) M := zU_step dL_705 (Or.inl rfl)
theorem dL_706 : decode code 706 = .ok (.iaload, 1) := by decide +kernel
theorem rL_706 {L : Nat} {xs : Int → Int} {R : zP} {x0 x1 x2 x3 : Option zV} {st : List zV} {M : zM} {i : Int} {r : Nat} : uL L xs R 706 [x0, x1, x2, x3] (.inl i :: .inr (.inr r) :: st) M ↔ zread (fL L xs) 0 r M i (fun v => uL L xs R 707 [x0, x1, x2, x3] (.inl v :: st) M) := zU_step dL_706 (Or.inl rfl)
theorem dL_707 : decode code 707 = .ok (.aload_n 0, 1) := by decide +kernel
theorem rL_707 {L : Nat} {xs : Int → Int} {R : zP} {x1 x2 x3 : Option zV} {st : List zV} {M : zM} {a : Nat} : uL L xs R 707 [some (.inr (.inr a)), x1, x2, x3] st M ↔ uL L xs R 708 [some (.inr (.inr a)), x1, x2, x3] (.inr (.inr a) :: st) M := zU_step dL_707 (Or.inl rfl)
theorem dL_708 : decode code 708 = .ok (.iload_n 3, 1) := by decide +kernel
theorem rL_708 {L : Nat} {xs : Int → Int} {R : zP} {x0 x1 x2 : Option zV} {st : List zV} {M : zM} {a : Int} : uL L xs R 708 [x0, x1, x2, some (.inl a)] st M ↔ uL L xs R 709 [x0, x1, x2, some (.inl a)] (.inl a :: st) M := zU_step dL_708 (Or.inl rfl)
theorem dL_709 : decode code 709 = .ok (.iconst 2, 1) := by decide +kernel
theorem rL_709 {L : Nat} {xs : Int → Int} {R : zP} {x0 x1 x2 x3 : Option zV} {st : List zV} {M : zM} : uL L xs R 709 [x0, x1, x2, x3] st M ↔ uL L xs R 710 [x0, x1, x2, x3] (.inl (2) :: st) M := zU_step dL_709 (Or.inl rfl)
theorem dL_710 : decode code 710 = .ok (.iadd, 1) := by decide +kernel
theorem rL_710 {L : Nat} {xs : Int → Int} {R : zP} {x0 x1 x2 x3 : Option zV} {st : List zV} {M : zM} {a b : Int} : uL L xs R 710 [x0, x1, x2, x3] (.inl b :: .inl a :: st) M ↔ uL L xs R 711 [x0, x1, x2, x3] (.inl (a + b) :: st) M := zU_step dL_710 (Or.inl rfl)
theorem dL_711 : decode code 711 = .ok (.iaload, 1) := by decide +kernel
theorem rL_711 {L : Nat} {xs : Int → Int} {R : zP} {x0 x1 x2 x3 : Option zV} {st : List zV} {M : zM} {i : Int} {r : Nat} : uL L xs R 711 [x0, x1, x2, x3] (.inl i :: .inr (.inr r) :: st) M ↔ zread (fL L xs) 0 r M i (fun v => uL L xs R 712 [x0, x1, x2, x3] (.inl v :: st) M) := zU_step dL_711 (Or.inl rfl)
theorem dL_712 : decode code 712 = .ok (.aload_n 0, 1) := by decide +kernel
theorem rL_712 {L : Nat} {xs : Int → Int} {R : zP} {x1 x2 x3 : Option zV} {st : List zV} {M : zM} {a : Nat} : uL L xs R 712 [some (.inr (.inr a)), x1, x2, x3] st M ↔ uL L xs R 713 [some (.inr (.inr a)), x1, x2, x3] (.inr (.inr a) :: st) M := zU_step dL_712 (Or.inl rfl)
theorem dL_713 : decode code 713 = .ok (.iload_n 3, 1) := by decide +kernel
theorem rL_713 {L : Nat} {xs : Int → Int} {R : zP} {x0 x1 x2 : Option zV} {st : List zV} {M : zM} {a : Int} : uL L xs R 713 [x0, x1, x2, some (.inl a)] st M ↔ uL L xs R 714 [x0, x1, x2, some (.inl a)] (.inl a :: st) M := zU_step dL_713 (Or.inl rfl)
theorem dL_714 : decode code 714 = .ok (.iconst 3, 1) := by decide +kernel
theorem rL_714 {L : Nat} {xs : Int → Int} {R : zP} {x0 x1 x2 x3 : Option zV} {st : List zV} {M : zM} : uL L xs R 714 [x0, x1, x2, x3] st M ↔ uL L xs R 715 [x0, x1, x2, x3] (.inl (3) :: st) M := zU_step dL_714 (Or.inl rfl)
theorem dL_715 : decode code 715 = .ok (.iadd, 1) := by decide +kernel
theorem rL_715 {L : Nat} {xs : Int → Int} {R : zP} {x0 x1 x2 x3 : Option zV} {st : List zV} {M : zM} {a b : Int} : uL L xs R 715 [x0, x1, x2, x3] (.inl b :: .inl a :: st) M ↔ uL L xs R 716 [x0, x1, x2, x3] (.inl (a + b) :: st) M := zU_step dL_715 (Or.inl rfl)
theorem dL_716 : decode code 716 = .ok (.iaload, 1) := by decide +kernel
theorem rL_716 {L : Nat} {xs : Int → Int} {R : zP} {x0 x1 x2 x3 : Option zV} {st : List zV} {M : zM} {i : Int} {r : Nat} : uL L xs R 716 [x0, x1, x2, x3] (.inl i :: .inr (.inr r) :: st) M ↔ zread (fL L xs) 0 r M i (fun v => uL L xs R 717 [x0, x1, x2, x3] (.inl v :: st) M) := zU_step dL_716 (Or.inl rfl)
theorem dL_717 : decode code 717 = .ok (.aload_n 0, 1) := by decide +kernel
theorem rL_717 {L : Nat} {xs : Int → Int} {R : zP} {x1 x2 x3 : Option zV} {st : List zV} {M : zM} {a : Nat} : uL L xs R 717 [some (.inr (.inr a)), x1, x2, x3] st M ↔ uL L xs R 718 [some (.inr (.inr a)), x1, x2, x3] (.inr (.inr a) :: st) M := zU_step dL_717 (Or.inl rfl)
theorem dL_718 : decode code 718 = .ok (.iload_n 3, 1) := by decide +kernel
theorem rL_718 {L : Nat} {xs : Int → Int} {R : zP} {x0 x1 x2 : Option zV} {st : List zV} {M : zM} {a : Int} : uL L xs R 718 [x0, x1, x2, some (.inl a)] st M ↔ uL L xs R 719 [x0, x1, x2, some (.inl a)] (.inl a :: st) M := zU_step dL_718 (Or.inl rfl)
theorem dL_719 : decode code 719 = .ok (.iconst 4, 1) := by decide +kernel
theorem rL_719 {L : Nat} {xs : Int → Int} {R : zP} {x0 x1 x2 x3 : Option zV} {st : List zV} {M : zM} : uL L xs R 719 [x0, x1, x2, x3] st M ↔ uL L xs R 720 [x0, x1, x2, x3] (.inl (4) :: st) M := zU_step dL_719 (Or.inl rfl)
theorem dL_720 : decode code 720 = .ok (.iadd, 1) := by decide +kernel
theorem rL_720 {L : Nat} {xs : Int → Int} {R : zP} {x0 x1 x2 x3 : Option zV} {st : List zV} {M : zM} {a b : Int} : uL L xs R 720 [x0, x1, x2, x3] (.inl b :: .inl a :: st) M ↔ uL L xs R 721 [x0, x1, x2, x3] (.inl (a + b) :: st) M := zU_step dL_720 (Or.inl rfl)
theorem dL_721 : decode code 721 = .ok (.iaload, 1) := by decide +kernel
theorem rL_721 {L : Nat} {xs : Int → Int} {R : zP} {x0 x1 x2 x3 : Option zV} {st : List zV} {M : zM} {i : Int} {r : Nat} : uL L xs R 721 [x0, x1, x2, x3] (.inl i :: .inr (.inr r) :: st) M ↔ zread (fL L xs) 0 r M i (fun v => uL L xs R 722 [x0, x1, x2, x3] (.inl v :: st) M) := zU_step dL_721 (Or.inl rfl)
theorem dL_722 : decode code 722 = .ok (.invokevirtual 86, 3) := by decide +kernel
theorem rL_722 {L : Nat} {xs : Int → Int} {R : zP} {x0 x1 x2 x3 : Option zV} {st : List zV} {M : zM} {a0 a1 a2 a3 a4 : zV} : uL L xs R 722 [x0, x1, x2, x3] (a4 :: a3 :: a2 :: a1 :: a0 :: st) M ↔ (st.length ≤ 4 ∧ zcv (zv 8 (znm tX8_rear)) [a0, a1, a2, a3, a4] M (fun v M => uL L xs R 725 [x0, x1, x2, x3] (v :: st) M)) := Iff.trans (zU_step dL_722 (Or.inl rfl)) ⟨fun h => ⟨h.2.1, zcv_of h.2.2⟩, fun h => ⟨rfl, h.1, zcv_to h.2⟩⟩
theorem dL_725 : decode code 725 = .ok (.if_icmp .eq 641, 3) := by decide +kernel
theorem rL_725 {L : Nat} {xs : Int → Int} {R : zP} {x0 x1 x2 x3 : Option zV} {st : List zV} {M : zM} {a b : Int} : uL L xs R 725 [x0, x1, x2, x3] (.inl b :: .inl a :: st) M ↔ ((zIR a ∧ zIR b) ∧ if a = b then uL L xs R 1366 [x0, x1, x2, x3] st M else uL L xs R 728 [x0, x1, x2, x3] st M) := Iff.trans (zU_step dL_725 (Or.inl rfl)) ⟨fun h => ⟨⟨h.1.1, h.1.2.1⟩, (zite (c := a = b)).mpr h.2⟩, fun h => ⟨⟨h.1.1, h.1.2, by decide⟩, (zite (c := a = b)).mp h.2⟩⟩
theorem dL_728 : decode code 728 = .ok (.iconst 0, 1) := by decide +kernel
theorem rL_728 {L : Nat} {xs : Int → Int} {R : zP} {x0 x1 x2 x3 : Option zV} {st : List zV} {M : zM} : uL L xs R 728 [x0, x1, x2, x3] st M ↔ uL L xs R 729 [x0, x1, x2, x3] (.inl (0) :: st) M := zU_step dL_728 (Or.inl rfl)
theorem dL_729 : decode code 729 = .ok (.ireturn, 1) := by decide +kernel
theorem rL_729 {L : Nat} {xs : Int → Int} {R : zP} {x0 x1 x2 x3 : Option zV} {M : zM} {a : Int} : uL L xs R 729 [x0, x1, x2, x3] [.inl a] M ↔ ((a = 0 ∨ a = 1) ∧ R (some (.inl a)) M) := Iff.trans (zU_step dL_729 (Or.inl rfl)) ⟨fun h => ⟨zret2 rfl h.2.1, h.2.2⟩, fun h => ⟨rfl, Or.inr (Or.inl ⟨rfl, h.1⟩), h.2⟩⟩
theorem dL_730 : decode code 730 = .ok (.aload_n 1, 1) := by decide +kernel
theorem rL_730 {L : Nat} {xs : Int → Int} {R : zP} {x0 x2 x3 : Option zV} {st : List zV} {M : zM} {a : Nat} : uL L xs R 730 [x0, some (.inr (.inr a)), x2, x3] st M ↔ uL L xs R 731 [x0, some (.inr (.inr a)), x2, x3] (.inr (.inr a) :: st) M := zU_step dL_730 (Or.inl rfl)
theorem dL_731 : decode code 731 = .ok (.aload_n 0, 1) := by decide +kernel
theorem rL_731 {L : Nat} {xs : Int → Int} {R : zP} {x1 x2 x3 : Option zV} {st : List zV} {M : zM} {a : Nat} : uL L xs R 731 [some (.inr (.inr a)), x1, x2, x3] st M ↔ uL L xs R 732 [some (.inr (.inr a)), x1, x2, x3] (.inr (.inr a) :: st) M := zU_step dL_731 (Or.inl rfl)
theorem dL_732 : decode code 732 = .ok (.iload_n 3, 1) := by decide +kernel
theorem rL_732 {L : Nat} {xs : Int → Int} {R : zP} {x0 x1 x2 : Option zV} {st : List zV} {M : zM} {a : Int} : uL L xs R 732 [x0, x1, x2, some (.inl a)] st M ↔ uL L xs R 733 [x0, x1, x2, some (.inl a)] (.inl a :: st) M := zU_step dL_732 (Or.inl rfl)
theorem dL_733 : decode code 733 = .ok (.iconst 1, 1) := by decide +kernel
theorem rL_733 {L : Nat} {xs : Int → Int} {R : zP} {x0 x1 x2 x3 : Option zV} {st : List zV} {M : zM} : uL L xs R 733 [x0, x1, x2, x3] st M ↔ uL L xs R 734 [x0, x1, x2, x3] (.inl (1) :: st) M := zU_step dL_733 (Or.inl rfl)
theorem dL_734 : decode code 734 = .ok (.iadd, 1) := by decide +kernel
theorem rL_734 {L : Nat} {xs : Int → Int} {R : zP} {x0 x1 x2 x3 : Option zV} {st : List zV} {M : zM} {a b : Int} : uL L xs R 734 [x0, x1, x2, x3] (.inl b :: .inl a :: st) M ↔ uL L xs R 735 [x0, x1, x2, x3] (.inl (a + b) :: st) M := zU_step dL_734 (Or.inl rfl)
theorem dL_735 : decode code 735 = .ok (.iaload, 1) := by decide +kernel
theorem rL_735 {L : Nat} {xs : Int → Int} {R : zP} {x0 x1 x2 x3 : Option zV} {st : List zV} {M : zM} {i : Int} {r : Nat} : uL L xs R 735 [x0, x1, x2, x3] (.inl i :: .inr (.inr r) :: st) M ↔ zread (fL L xs) 0 r M i (fun v => uL L xs R 736 [x0, x1, x2, x3] (.inl v :: st) M) := zU_step dL_735 (Or.inl rfl)
theorem dL_736 : decode code 736 = .ok (.aload_n 0, 1) := by decide +kernel
theorem rL_736 {L : Nat} {xs : Int → Int} {R : zP} {x1 x2 x3 : Option zV} {st : List zV} {M : zM} {a : Nat} : uL L xs R 736 [some (.inr (.inr a)), x1, x2, x3] st M ↔ uL L xs R 737 [some (.inr (.inr a)), x1, x2, x3] (.inr (.inr a) :: st) M := zU_step dL_736 (Or.inl rfl)
theorem dL_737 : decode code 737 = .ok (.iload_n 3, 1) := by decide +kernel
theorem rL_737 {L : Nat} {xs : Int → Int} {R : zP} {x0 x1 x2 : Option zV} {st : List zV} {M : zM} {a : Int} : uL L xs R 737 [x0, x1, x2, some (.inl a)] st M ↔ uL L xs R 738 [x0, x1, x2, some (.inl a)] (.inl a :: st) M := zU_step dL_737 (Or.inl rfl)
theorem dL_738 : decode code 738 = .ok (.iconst 2, 1) := by decide +kernel
theorem rL_738 {L : Nat} {xs : Int → Int} {R : zP} {x0 x1 x2 x3 : Option zV} {st : List zV} {M : zM} : uL L xs R 738 [x0, x1, x2, x3] st M ↔ uL L xs R 739 [x0, x1, x2, x3] (.inl (2) :: st) M := zU_step dL_738 (Or.inl rfl)
theorem dL_739 : decode code 739 = .ok (.iadd, 1) := by decide +kernel
theorem rL_739 {L : Nat} {xs : Int → Int} {R : zP} {x0 x1 x2 x3 : Option zV} {st : List zV} {M : zM} {a b : Int} : uL L xs R 739 [x0, x1, x2, x3] (.inl b :: .inl a :: st) M ↔ uL L xs R 740 [x0, x1, x2, x3] (.inl (a + b) :: st) M := zU_step dL_739 (Or.inl rfl)
theorem dL_740 : decode code 740 = .ok (.iaload, 1) := by decide +kernel
theorem rL_740 {L : Nat} {xs : Int → Int} {R : zP} {x0 x1 x2 x3 : Option zV} {st : List zV} {M : zM} {i : Int} {r : Nat} : uL L xs R 740 [x0, x1, x2, x3] (.inl i :: .inr (.inr r) :: st) M ↔ zread (fL L xs) 0 r M i (fun v => uL L xs R 741 [x0, x1, x2, x3] (.inl v :: st) M) := zU_step dL_740 (Or.inl rfl)
theorem dL_741 : decode code 741 = .ok (.aload_n 0, 1) := by decide +kernel
theorem rL_741 {L : Nat} {xs : Int → Int} {R : zP} {x1 x2 x3 : Option zV} {st : List zV} {M : zM} {a : Nat} : uL L xs R 741 [some (.inr (.inr a)), x1, x2, x3] st M ↔ uL L xs R 742 [some (.inr (.inr a)), x1, x2, x3] (.inr (.inr a) :: st) M := zU_step dL_741 (Or.inl rfl)
theorem dL_742 : decode code 742 = .ok (.iload_n 3, 1) := by decide +kernel
theorem rL_742 {L : Nat} {xs : Int → Int} {R : zP} {x0 x1 x2 : Option zV} {st : List zV} {M : zM} {a : Int} : uL L xs R 742 [x0, x1, x2, some (.inl a)] st M ↔ uL L xs R 743 [x0, x1, x2, some (.inl a)] (.inl a :: st) M := zU_step dL_742 (Or.inl rfl)
theorem dL_743 : decode code 743 = .ok (.iconst 3, 1) := by decide +kernel
theorem rL_743 {L : Nat} {xs : Int → Int} {R : zP} {x0 x1 x2 x3 : Option zV} {st : List zV} {M : zM} : uL L xs R 743 [x0, x1, x2, x3] st M ↔ uL L xs R 744 [x0, x1, x2, x3] (.inl (3) :: st) M := zU_step dL_743 (Or.inl rfl)
theorem dL_744 : decode code 744 = .ok (.iadd, 1) := by decide +kernel
theorem rL_744 {L : Nat} {xs : Int → Int} {R : zP} {x0 x1 x2 x3 : Option zV} {st : List zV} {M : zM} {a b : Int} : uL L xs R 744 [x0, x1, x2, x3] (.inl b :: .inl a :: st) M ↔ uL L xs R 745 [x0, x1, x2, x3] (.inl (a + b) :: st) M := zU_step dL_744 (Or.inl rfl)
theorem dL_745 : decode code 745 = .ok (.iaload, 1) := by decide +kernel
theorem rL_745 {L : Nat} {xs : Int → Int} {R : zP} {x0 x1 x2 x3 : Option zV} {st : List zV} {M : zM} {i : Int} {r : Nat} : uL L xs R 745 [x0, x1, x2, x3] (.inl i :: .inr (.inr r) :: st) M ↔ zread (fL L xs) 0 r M i (fun v => uL L xs R 746 [x0, x1, x2, x3] (.inl v :: st) M) := zU_step dL_745 (Or.inl rfl)
theorem dL_746 : decode code 746 = .ok (.invokevirtual 87, 3) := by decide +kernel
theorem rL_746 {L : Nat} {xs : Int → Int} {R : zP} {x0 x1 x2 x3 : Option zV} {st : List zV} {M : zM} {a0 a1 a2 a3 : zV} : uL L xs R 746 [x0, x1, x2, x3] (a3 :: a2 :: a1 :: a0 :: st) M ↔ (st.length ≤ 4 ∧ zcv (zv 7 (znm tX7_carry)) [a0, a1, a2, a3] M (fun v M => uL L xs R 749 [x0, x1, x2, x3] (v :: st) M)) := Iff.trans (zU_step dL_746 (Or.inl rfl)) ⟨fun h => ⟨h.2.1, zcv_of h.2.2⟩, fun h => ⟨rfl, h.1, zcv_to h.2⟩⟩
theorem dL_749 : decode code 749 = .ok (.aload_n 2, 1) := by decide +kernel
theorem rL_749 {L : Nat} {xs : Int → Int} {R : zP} {x0 x1 x3 : Option zV} {st : List zV} {M : zM} {a : Nat} : uL L xs R 749 [x0, x1, some (.inr (.inr a)), x3] st M ↔ uL L xs R 750 [x0, x1, some (.inr (.inr a)), x3] (.inr (.inr a) :: st) M := zU_step dL_749 (Or.inl rfl)
theorem dL_750 : decode code 750 = .ok (.aload_n 0, 1) := by decide +kernel
theorem rL_750 {L : Nat} {xs : Int → Int} {R : zP} {x1 x2 x3 : Option zV} {st : List zV} {M : zM} {a : Nat} : uL L xs R 750 [some (.inr (.inr a)), x1, x2, x3] st M ↔ uL L xs R 751 [some (.inr (.inr a)), x1, x2, x3] (.inr (.inr a) :: st) M := zU_step dL_750 (Or.inl rfl)
theorem dL_751 : decode code 751 = .ok (.iload_n 3, 1) := by decide +kernel
theorem rL_751 {L : Nat} {xs : Int → Int} {R : zP} {x0 x1 x2 : Option zV} {st : List zV} {M : zM} {a : Int} : uL L xs R 751 [x0, x1, x2, some (.inl a)] st M ↔ uL L xs R 752 [x0, x1, x2, some (.inl a)] (.inl a :: st) M := zU_step dL_751 (Or.inl rfl)
theorem dL_752 : decode code 752 = .ok (.iconst 1, 1) := by decide +kernel
theorem rL_752 {L : Nat} {xs : Int → Int} {R : zP} {x0 x1 x2 x3 : Option zV} {st : List zV} {M : zM} : uL L xs R 752 [x0, x1, x2, x3] st M ↔ uL L xs R 753 [x0, x1, x2, x3] (.inl (1) :: st) M := zU_step dL_752 (Or.inl rfl)
theorem dL_753 : decode code 753 = .ok (.iadd, 1) := by decide +kernel
theorem rL_753 {L : Nat} {xs : Int → Int} {R : zP} {x0 x1 x2 x3 : Option zV} {st : List zV} {M : zM} {a b : Int} : uL L xs R 753 [x0, x1, x2, x3] (.inl b :: .inl a :: st) M ↔ uL L xs R 754 [x0, x1, x2, x3] (.inl (a + b) :: st) M := zU_step dL_753 (Or.inl rfl)
theorem dL_754 : decode code 754 = .ok (.iaload, 1) := by decide +kernel
theorem rL_754 {L : Nat} {xs : Int → Int} {R : zP} {x0 x1 x2 x3 : Option zV} {st : List zV} {M : zM} {i : Int} {r : Nat} : uL L xs R 754 [x0, x1, x2, x3] (.inl i :: .inr (.inr r) :: st) M ↔ zread (fL L xs) 0 r M i (fun v => uL L xs R 755 [x0, x1, x2, x3] (.inl v :: st) M) := zU_step dL_754 (Or.inl rfl)
theorem dL_755 : decode code 755 = .ok (.aload_n 0, 1) := by decide +kernel
theorem rL_755 {L : Nat} {xs : Int → Int} {R : zP} {x1 x2 x3 : Option zV} {st : List zV} {M : zM} {a : Nat} : uL L xs R 755 [some (.inr (.inr a)), x1, x2, x3] st M ↔ uL L xs R 756 [some (.inr (.inr a)), x1, x2, x3] (.inr (.inr a) :: st) M := zU_step dL_755 (Or.inl rfl)
theorem dL_756 : decode code 756 = .ok (.iload_n 3, 1) := by decide +kernel
theorem rL_756 {L : Nat} {xs : Int → Int} {R : zP} {x0 x1 x2 : Option zV} {st : List zV} {M : zM} {a : Int} : uL L xs R 756 [x0, x1, x2, some (.inl a)] st M ↔ uL L xs R 757 [x0, x1, x2, some (.inl a)] (.inl a :: st) M := zU_step dL_756 (Or.inl rfl)
theorem dL_757 : decode code 757 = .ok (.iconst 2, 1) := by decide +kernel
theorem rL_757 {L : Nat} {xs : Int → Int} {R : zP} {x0 x1 x2 x3 : Option zV} {st : List zV} {M : zM} : uL L xs R 757 [x0, x1, x2, x3] st M ↔ uL L xs R 758 [x0, x1, x2, x3] (.inl (2) :: st) M := zU_step dL_757 (Or.inl rfl)
theorem dL_758 : decode code 758 = .ok (.iadd, 1) := by decide +kernel
theorem rL_758 {L : Nat} {xs : Int → Int} {R : zP} {x0 x1 x2 x3 : Option zV} {st : List zV} {M : zM} {a b : Int} : uL L xs R 758 [x0, x1, x2, x3] (.inl b :: .inl a :: st) M ↔ uL L xs R 759 [x0, x1, x2, x3] (.inl (a + b) :: st) M := zU_step dL_758 (Or.inl rfl)
theorem dL_759 : decode code 759 = .ok (.iaload, 1) := by decide +kernel
theorem rL_759 {L : Nat} {xs : Int → Int} {R : zP} {x0 x1 x2 x3 : Option zV} {st : List zV} {M : zM} {i : Int} {r : Nat} : uL L xs R 759 [x0, x1, x2, x3] (.inl i :: .inr (.inr r) :: st) M ↔ zread (fL L xs) 0 r M i (fun v => uL L xs R 760 [x0, x1, x2, x3] (.inl v :: st) M) := zU_step dL_759 (Or.inl rfl)
theorem dL_760 : decode code 760 = .ok (.aload_n 0, 1) := by decide +kernel
theorem rL_760 {L : Nat} {xs : Int → Int} {R : zP} {x1 x2 x3 : Option zV} {st : List zV} {M : zM} {a : Nat} : uL L xs R 760 [some (.inr (.inr a)), x1, x2, x3] st M ↔ uL L xs R 761 [some (.inr (.inr a)), x1, x2, x3] (.inr (.inr a) :: st) M := zU_step dL_760 (Or.inl rfl)
theorem dL_761 : decode code 761 = .ok (.iload_n 3, 1) := by decide +kernel
theorem rL_761 {L : Nat} {xs : Int → Int} {R : zP} {x0 x1 x2 : Option zV} {st : List zV} {M : zM} {a : Int} : uL L xs R 761 [x0, x1, x2, some (.inl a)] st M ↔ uL L xs R 762 [x0, x1, x2, some (.inl a)] (.inl a :: st) M := zU_step dL_761 (Or.inl rfl)
theorem dL_762 : decode code 762 = .ok (.iconst 3, 1) := by decide +kernel
theorem rL_762 {L : Nat} {xs : Int → Int} {R : zP} {x0 x1 x2 x3 : Option zV} {st : List zV} {M : zM} : uL L xs R 762 [x0, x1, x2, x3] st M ↔ uL L xs R 763 [x0, x1, x2, x3] (.inl (3) :: st) M := zU_step dL_762 (Or.inl rfl)
theorem dL_763 : decode code 763 = .ok (.iadd, 1) := by decide +kernel
theorem rL_763 {L : Nat} {xs : Int → Int} {R : zP} {x0 x1 x2 x3 : Option zV} {st : List zV} {M : zM} {a b : Int} : uL L xs R 763 [x0, x1, x2, x3] (.inl b :: .inl a :: st) M ↔ uL L xs R 764 [x0, x1, x2, x3] (.inl (a + b) :: st) M := zU_step dL_763 (Or.inl rfl)
theorem dL_764 : decode code 764 = .ok (.iaload, 1) := by decide +kernel
theorem rL_764 {L : Nat} {xs : Int → Int} {R : zP} {x0 x1 x2 x3 : Option zV} {st : List zV} {M : zM} {i : Int} {r : Nat} : uL L xs R 764 [x0, x1, x2, x3] (.inl i :: .inr (.inr r) :: st) M ↔ zread (fL L xs) 0 r M i (fun v => uL L xs R 765 [x0, x1, x2, x3] (.inl v :: st) M) := zU_step dL_764 (Or.inl rfl)
theorem dL_765 : decode code 765 = .ok (.invokevirtual 90, 3) := by decide +kernel
theorem rL_765 {L : Nat} {xs : Int → Int} {R : zP} {x0 x1 x2 x3 : Option zV} {st : List zV} {M : zM} {a0 a1 a2 a3 : zV} : uL L xs R 765 [x0, x1, x2, x3] (a3 :: a2 :: a1 :: a0 :: st) M ↔ (st.length ≤ 4 ∧ zcv (zv 8 (znm tX8_carry)) [a0, a1, a2, a3] M (fun v M => uL L xs R 768 [x0, x1, x2, x3] (v :: st) M)) := Iff.trans (zU_step dL_765 (Or.inl rfl)) ⟨fun h => ⟨h.2.1, zcv_of h.2.2⟩, fun h => ⟨rfl, h.1, zcv_to h.2⟩⟩
theorem dL_768 : decode code 768 = .ok (.if_icmp .eq 598, 3) := by decide +kernel
theorem rL_768 {L : Nat} {xs : Int → Int} {R : zP} {x0 x1 x2 x3 : Option zV} {st : List zV} {M : zM} {a b : Int} : uL L xs R 768 [x0, x1, x2, x3] (.inl b :: .inl a :: st) M ↔ ((zIR a ∧ zIR b) ∧ if a = b then uL L xs R 1366 [x0, x1, x2, x3] st M else uL L xs R 771 [x0, x1, x2, x3] st M) := Iff.trans (zU_step dL_768 (Or.inl rfl)) ⟨fun h => ⟨⟨h.1.1, h.1.2.1⟩, (zite (c := a = b)).mpr h.2⟩, fun h => ⟨⟨h.1.1, h.1.2, by decide⟩, (zite (c := a = b)).mp h.2⟩⟩
theorem dL_771 : decode code 771 = .ok (.iconst 0, 1) := by decide +kernel
theorem rL_771 {L : Nat} {xs : Int → Int} {R : zP} {x0 x1 x2 x3 : Option zV} {st : List zV} {M : zM} : uL L xs R 771 [x0, x1, x2, x3] st M ↔ uL L xs R 772 [x0, x1, x2, x3] (.inl (0) :: st) M := zU_step dL_771 (Or.inl rfl)
theorem dL_772 : decode code 772 = .ok (.ireturn, 1) := by decide +kernel
theorem rL_772 {L : Nat} {xs : Int → Int} {R : zP} {x0 x1 x2 x3 : Option zV} {M : zM} {a : Int} : uL L xs R 772 [x0, x1, x2, x3] [.inl a] M ↔ ((a = 0 ∨ a = 1) ∧ R (some (.inl a)) M) := Iff.trans (zU_step dL_772 (Or.inl rfl)) ⟨fun h => ⟨zret2 rfl h.2.1, h.2.2⟩, fun h => ⟨rfl, Or.inr (Or.inl ⟨rfl, h.1⟩), h.2⟩⟩
theorem dL_773 : decode code 773 = .ok (.aload_n 1, 1) := by decide +kernel
theorem rL_773 {L : Nat} {xs : Int → Int} {R : zP} {x0 x2 x3 : Option zV} {st : List zV} {M : zM} {a : Nat} : uL L xs R 773 [x0, some (.inr (.inr a)), x2, x3] st M ↔ uL L xs R 774 [x0, some (.inr (.inr a)), x2, x3] (.inr (.inr a) :: st) M := zU_step dL_773 (Or.inl rfl)
theorem dL_774 : decode code 774 = .ok (.aload_n 0, 1) := by decide +kernel
theorem rL_774 {L : Nat} {xs : Int → Int} {R : zP} {x1 x2 x3 : Option zV} {st : List zV} {M : zM} {a : Nat} : uL L xs R 774 [some (.inr (.inr a)), x1, x2, x3] st M ↔ uL L xs R 775 [some (.inr (.inr a)), x1, x2, x3] (.inr (.inr a) :: st) M := zU_step dL_774 (Or.inl rfl)
theorem dL_775 : decode code 775 = .ok (.iload_n 3, 1) := by decide +kernel
theorem rL_775 {L : Nat} {xs : Int → Int} {R : zP} {x0 x1 x2 : Option zV} {st : List zV} {M : zM} {a : Int} : uL L xs R 775 [x0, x1, x2, some (.inl a)] st M ↔ uL L xs R 776 [x0, x1, x2, some (.inl a)] (.inl a :: st) M := zU_step dL_775 (Or.inl rfl)
theorem dL_776 : decode code 776 = .ok (.iconst 1, 1) := by decide +kernel
theorem rL_776 {L : Nat} {xs : Int → Int} {R : zP} {x0 x1 x2 x3 : Option zV} {st : List zV} {M : zM} : uL L xs R 776 [x0, x1, x2, x3] st M ↔ uL L xs R 777 [x0, x1, x2, x3] (.inl (1) :: st) M := zU_step dL_776 (Or.inl rfl)
theorem dL_777 : decode code 777 = .ok (.iadd, 1) := by decide +kernel
theorem rL_777 {L : Nat} {xs : Int → Int} {R : zP} {x0 x1 x2 x3 : Option zV} {st : List zV} {M : zM} {a b : Int} : uL L xs R 777 [x0, x1, x2, x3] (.inl b :: .inl a :: st) M ↔ uL L xs R 778 [x0, x1, x2, x3] (.inl (a + b) :: st) M := zU_step dL_777 (Or.inl rfl)
theorem dL_778 : decode code 778 = .ok (.iaload, 1) := by decide +kernel
theorem rL_778 {L : Nat} {xs : Int → Int} {R : zP} {x0 x1 x2 x3 : Option zV} {st : List zV} {M : zM} {i : Int} {r : Nat} : uL L xs R 778 [x0, x1, x2, x3] (.inl i :: .inr (.inr r) :: st) M ↔ zread (fL L xs) 0 r M i (fun v => uL L xs R 779 [x0, x1, x2, x3] (.inl v :: st) M) := zU_step dL_778 (Or.inl rfl)
theorem dL_779 : decode code 779 = .ok (.invokevirtual 91, 3) := by decide +kernel
theorem rL_779 {L : Nat} {xs : Int → Int} {R : zP} {x0 x1 x2 x3 : Option zV} {st : List zV} {M : zM} {a0 a1 : zV} : uL L xs R 779 [x0, x1, x2, x3] (a1 :: a0 :: st) M ↔ (st.length ≤ 4 ∧ zcv (zv 7 (znm tX7_spare)) [a0, a1] M (fun v M => uL L xs R 782 [x0, x1, x2, x3] (v :: st) M)) := Iff.trans (zU_step dL_779 (Or.inl rfl)) ⟨fun h => ⟨h.2.1, zcv_of h.2.2⟩, fun h => ⟨rfl, h.1, zcv_to h.2⟩⟩
theorem dL_782 : decode code 782 = .ok (.aload_n 2, 1) := by decide +kernel
theorem rL_782 {L : Nat} {xs : Int → Int} {R : zP} {x0 x1 x3 : Option zV} {st : List zV} {M : zM} {a : Nat} : uL L xs R 782 [x0, x1, some (.inr (.inr a)), x3] st M ↔ uL L xs R 783 [x0, x1, some (.inr (.inr a)), x3] (.inr (.inr a) :: st) M := zU_step dL_782 (Or.inl rfl)
theorem dL_783 : decode code 783 = .ok (.aload_n 0, 1) := by decide +kernel
theorem rL_783 {L : Nat} {xs : Int → Int} {R : zP} {x1 x2 x3 : Option zV} {st : List zV} {M : zM} {a : Nat} : uL L xs R 783 [some (.inr (.inr a)), x1, x2, x3] st M ↔ uL L xs R 784 [some (.inr (.inr a)), x1, x2, x3] (.inr (.inr a) :: st) M := zU_step dL_783 (Or.inl rfl)
theorem dL_784 : decode code 784 = .ok (.iload_n 3, 1) := by decide +kernel
theorem rL_784 {L : Nat} {xs : Int → Int} {R : zP} {x0 x1 x2 : Option zV} {st : List zV} {M : zM} {a : Int} : uL L xs R 784 [x0, x1, x2, some (.inl a)] st M ↔ uL L xs R 785 [x0, x1, x2, some (.inl a)] (.inl a :: st) M := zU_step dL_784 (Or.inl rfl)
theorem dL_785 : decode code 785 = .ok (.iconst 1, 1) := by decide +kernel
theorem rL_785 {L : Nat} {xs : Int → Int} {R : zP} {x0 x1 x2 x3 : Option zV} {st : List zV} {M : zM} : uL L xs R 785 [x0, x1, x2, x3] st M ↔ uL L xs R 786 [x0, x1, x2, x3] (.inl (1) :: st) M := zU_step dL_785 (Or.inl rfl)
theorem dL_786 : decode code 786 = .ok (.iadd, 1) := by decide +kernel
theorem rL_786 {L : Nat} {xs : Int → Int} {R : zP} {x0 x1 x2 x3 : Option zV} {st : List zV} {M : zM} {a b : Int} : uL L xs R 786 [x0, x1, x2, x3] (.inl b :: .inl a :: st) M ↔ uL L xs R 787 [x0, x1, x2, x3] (.inl (a + b) :: st) M := zU_step dL_786 (Or.inl rfl)
theorem dL_787 : decode code 787 = .ok (.iaload, 1) := by decide +kernel
theorem rL_787 {L : Nat} {xs : Int → Int} {R : zP} {x0 x1 x2 x3 : Option zV} {st : List zV} {M : zM} {i : Int} {r : Nat} : uL L xs R 787 [x0, x1, x2, x3] (.inl i :: .inr (.inr r) :: st) M ↔ zread (fL L xs) 0 r M i (fun v => uL L xs R 788 [x0, x1, x2, x3] (.inl v :: st) M) := zU_step dL_787 (Or.inl rfl)
theorem dL_788 : decode code 788 = .ok (.invokevirtual 94, 3) := by decide +kernel
theorem rL_788 {L : Nat} {xs : Int → Int} {R : zP} {x0 x1 x2 x3 : Option zV} {st : List zV} {M : zM} {a0 a1 : zV} : uL L xs R 788 [x0, x1, x2, x3] (a1 :: a0 :: st) M ↔ (st.length ≤ 4 ∧ zcv (zv 8 (znm tX8_spare)) [a0, a1] M (fun v M => uL L xs R 791 [x0, x1, x2, x3] (v :: st) M)) := Iff.trans (zU_step dL_788 (Or.inl rfl)) ⟨fun h => ⟨h.2.1, zcv_of h.2.2⟩, fun h => ⟨rfl, h.1, zcv_to h.2⟩⟩
theorem dL_791 : decode code 791 = .ok (.if_icmp .eq 575, 3) := by decide +kernel
theorem rL_791 {L : Nat} {xs : Int → Int} {R : zP} {x0 x1 x2 x3 : Option zV} {st : List zV} {M : zM} {a b : Int} : uL L xs R 791 [x0, x1, x2, x3] (.inl b :: .inl a :: st) M ↔ ((zIR a ∧ zIR b) ∧ if a = b then uL L xs R 1366 [x0, x1, x2, x3] st M else uL L xs R 794 [x0, x1, x2, x3] st M) := Iff.trans (zU_step dL_791 (Or.inl rfl)) ⟨fun h => ⟨⟨h.1.1, h.1.2.1⟩, (zite (c := a = b)).mpr h.2⟩, fun h => ⟨⟨h.1.1, h.1.2, by decide⟩, (zite (c := a = b)).mp h.2⟩⟩
theorem dL_794 : decode code 794 = .ok (.iconst 0, 1) := by decide +kernel
theorem rL_794 {L : Nat} {xs : Int → Int} {R : zP} {x0 x1 x2 x3 : Option zV} {st : List zV} {M : zM} : uL L xs R 794 [x0, x1, x2, x3] st M ↔ uL L xs R 795 [x0, x1, x2, x3] (.inl (0) :: st) M := zU_step dL_794 (Or.inl rfl)
theorem dL_795 : decode code 795 = .ok (.ireturn, 1) := by decide +kernel
theorem rL_795 {L : Nat} {xs : Int → Int} {R : zP} {x0 x1 x2 x3 : Option zV} {M : zM} {a : Int} : uL L xs R 795 [x0, x1, x2, x3] [.inl a] M ↔ ((a = 0 ∨ a = 1) ∧ R (some (.inl a)) M) := Iff.trans (zU_step dL_795 (Or.inl rfl)) ⟨fun h => ⟨zret2 rfl h.2.1, h.2.2⟩, fun h => ⟨rfl, Or.inr (Or.inl ⟨rfl, h.1⟩), h.2⟩⟩
theorem dL_796 : decode code 796 = .ok (.aload_n 1, 1) := by decide +kernel
theorem rL_796 {L : Nat} {xs : Int → Int} {R : zP} {x0 x2 x3 : Option zV} {st : List zV} {M : zM} {a : Nat} : uL L xs R 796 [x0, some (.inr (.inr a)), x2, x3] st M ↔ uL L xs R 797 [x0, some (.inr (.inr a)), x2, x3] (.inr (.inr a) :: st) M := zU_step dL_796 (Or.inl rfl)
theorem dL_797 : decode code 797 = .ok (.aload_n 0, 1) := by decide +kernel
theorem rL_797 {L : Nat} {xs : Int → Int} {R : zP} {x1 x2 x3 : Option zV} {st : List zV} {M : zM} {a : Nat} : uL L xs R 797 [some (.inr (.inr a)), x1, x2, x3] st M ↔ uL L xs R 798 [some (.inr (.inr a)), x1, x2, x3] (.inr (.inr a) :: st) M := zU_step dL_797 (Or.inl rfl)
theorem dL_798 : decode code 798 = .ok (.iload_n 3, 1) := by decide +kernel
theorem rL_798 {L : Nat} {xs : Int → Int} {R : zP} {x0 x1 x2 : Option zV} {st : List zV} {M : zM} {a : Int} : uL L xs R 798 [x0, x1, x2, some (.inl a)] st M ↔ uL L xs R 799 [x0, x1, x2, some (.inl a)] (.inl a :: st) M := zU_step dL_798 (Or.inl rfl)
theorem dL_799 : decode code 799 = .ok (.iconst 1, 1) := by decide +kernel
theorem rL_799 {L : Nat} {xs : Int → Int} {R : zP} {x0 x1 x2 x3 : Option zV} {st : List zV} {M : zM} : uL L xs R 799 [x0, x1, x2, x3] st M ↔ uL L xs R 800 [x0, x1, x2, x3] (.inl (1) :: st) M := zU_step dL_799 (Or.inl rfl)
theorem dL_800 : decode code 800 = .ok (.iadd, 1) := by decide +kernel
theorem rL_800 {L : Nat} {xs : Int → Int} {R : zP} {x0 x1 x2 x3 : Option zV} {st : List zV} {M : zM} {a b : Int} : uL L xs R 800 [x0, x1, x2, x3] (.inl b :: .inl a :: st) M ↔ uL L xs R 801 [x0, x1, x2, x3] (.inl (a + b) :: st) M := zU_step dL_800 (Or.inl rfl)
theorem dL_801 : decode code 801 = .ok (.iaload, 1) := by decide +kernel
theorem rL_801 {L : Nat} {xs : Int → Int} {R : zP} {x0 x1 x2 x3 : Option zV} {st : List zV} {M : zM} {i : Int} {r : Nat} : uL L xs R 801 [x0, x1, x2, x3] (.inl i :: .inr (.inr r) :: st) M ↔ zread (fL L xs) 0 r M i (fun v => uL L xs R 802 [x0, x1, x2, x3] (.inl v :: st) M) := zU_step dL_801 (Or.inl rfl)
theorem dL_802 : decode code 802 = .ok (.aload_n 0, 1) := by decide +kernel
theorem rL_802 {L : Nat} {xs : Int → Int} {R : zP} {x1 x2 x3 : Option zV} {st : List zV} {M : zM} {a : Nat} : uL L xs R 802 [some (.inr (.inr a)), x1, x2, x3] st M ↔ uL L xs R 803 [some (.inr (.inr a)), x1, x2, x3] (.inr (.inr a) :: st) M := zU_step dL_802 (Or.inl rfl)
theorem dL_803 : decode code 803 = .ok (.iload_n 3, 1) := by decide +kernel
theorem rL_803 {L : Nat} {xs : Int → Int} {R : zP} {x0 x1 x2 : Option zV} {st : List zV} {M : zM} {a : Int} : uL L xs R 803 [x0, x1, x2, some (.inl a)] st M ↔ uL L xs R 804 [x0, x1, x2, some (.inl a)] (.inl a :: st) M := zU_step dL_803 (Or.inl rfl)
theorem dL_804 : decode code 804 = .ok (.iconst 2, 1) := by decide +kernel
theorem rL_804 {L : Nat} {xs : Int → Int} {R : zP} {x0 x1 x2 x3 : Option zV} {st : List zV} {M : zM} : uL L xs R 804 [x0, x1, x2, x3] st M ↔ uL L xs R 805 [x0, x1, x2, x3] (.inl (2) :: st) M := zU_step dL_804 (Or.inl rfl)
theorem dL_805 : decode code 805 = .ok (.iadd, 1) := by decide +kernel
theorem rL_805 {L : Nat} {xs : Int → Int} {R : zP} {x0 x1 x2 x3 : Option zV} {st : List zV} {M : zM} {a b : Int} : uL L xs R 805 [x0, x1, x2, x3] (.inl b :: .inl a :: st) M ↔ uL L xs R 806 [x0, x1, x2, x3] (.inl (a + b) :: st) M := zU_step dL_805 (Or.inl rfl)
theorem dL_806 : decode code 806 = .ok (.iaload, 1) := by decide +kernel
theorem rL_806 {L : Nat} {xs : Int → Int} {R : zP} {x0 x1 x2 x3 : Option zV} {st : List zV} {M : zM} {i : Int} {r : Nat} : uL L xs R 806 [x0, x1, x2, x3] (.inl i :: .inr (.inr r) :: st) M ↔ zread (fL L xs) 0 r M i (fun v => uL L xs R 807 [x0, x1, x2, x3] (.inl v :: st) M) := zU_step dL_806 (Or.inl rfl)
theorem dL_807 : decode code 807 = .ok (.aload_n 0, 1) := by decide +kernel
theorem rL_807 {L : Nat} {xs : Int → Int} {R : zP} {x1 x2 x3 : Option zV} {st : List zV} {M : zM} {a : Nat} : uL L xs R 807 [some (.inr (.inr a)), x1, x2, x3] st M ↔ uL L xs R 808 [some (.inr (.inr a)), x1, x2, x3] (.inr (.inr a) :: st) M := zU_step dL_807 (Or.inl rfl)
theorem dL_808 : decode code 808 = .ok (.iload_n 3, 1) := by decide +kernel
theorem rL_808 {L : Nat} {xs : Int → Int} {R : zP} {x0 x1 x2 : Option zV} {st : List zV} {M : zM} {a : Int} : uL L xs R 808 [x0, x1, x2, some (.inl a)] st M ↔ uL L xs R 809 [x0, x1, x2, some (.inl a)] (.inl a :: st) M := zU_step dL_808 (Or.inl rfl)
theorem dL_809 : decode code 809 = .ok (.iconst 3, 1) := by decide +kernel
theorem rL_809 {L : Nat} {xs : Int → Int} {R : zP} {x0 x1 x2 x3 : Option zV} {st : List zV} {M : zM} : uL L xs R 809 [x0, x1, x2, x3] st M ↔ uL L xs R 810 [x0, x1, x2, x3] (.inl (3) :: st) M := zU_step dL_809 (Or.inl rfl)
theorem dL_810 : decode code 810 = .ok (.iadd, 1) := by decide +kernel
theorem rL_810 {L : Nat} {xs : Int → Int} {R : zP} {x0 x1 x2 x3 : Option zV} {st : List zV} {M : zM} {a b : Int} : uL L xs R 810 [x0, x1, x2, x3] (.inl b :: .inl a :: st) M ↔ uL L xs R 811 [x0, x1, x2, x3] (.inl (a + b) :: st) M := zU_step dL_810 (Or.inl rfl)
theorem dL_811 : decode code 811 = .ok (.iaload, 1) := by decide +kernel
theorem rL_811 {L : Nat} {xs : Int → Int} {R : zP} {x0 x1 x2 x3 : Option zV} {st : List zV} {M : zM} {i : Int} {r : Nat} : uL L xs R 811 [x0, x1, x2, x3] (.inl i :: .inr (.inr r) :: st) M ↔ zread (fL L xs) 0 r M i (fun v => uL L xs R 812 [x0, x1, x2, x3] (.inl v :: st) M) := zU_step dL_811 (Or.inl rfl)
theorem dL_812 : decode code 812 = .ok (.aload_n 0, 1) := by decide +kernel
theorem rL_812 {L : Nat} {xs : Int → Int} {R : zP} {x1 x2 x3 : Option zV} {st : List zV} {M : zM} {a : Nat} : uL L xs R 812 [some (.inr (.inr a)), x1, x2, x3] st M ↔ uL L xs R 813 [some (.inr (.inr a)), x1, x2, x3] (.inr (.inr a) :: st) M := zU_step dL_812 (Or.inl rfl)
theorem dL_813 : decode code 813 = .ok (.iload_n 3, 1) := by decide +kernel
theorem rL_813 {L : Nat} {xs : Int → Int} {R : zP} {x0 x1 x2 : Option zV} {st : List zV} {M : zM} {a : Int} : uL L xs R 813 [x0, x1, x2, some (.inl a)] st M ↔ uL L xs R 814 [x0, x1, x2, some (.inl a)] (.inl a :: st) M := zU_step dL_813 (Or.inl rfl)
theorem dL_814 : decode code 814 = .ok (.iconst 4, 1) := by decide +kernel
theorem rL_814 {L : Nat} {xs : Int → Int} {R : zP} {x0 x1 x2 x3 : Option zV} {st : List zV} {M : zM} : uL L xs R 814 [x0, x1, x2, x3] st M ↔ uL L xs R 815 [x0, x1, x2, x3] (.inl (4) :: st) M := zU_step dL_814 (Or.inl rfl)
theorem dL_815 : decode code 815 = .ok (.iadd, 1) := by decide +kernel
theorem rL_815 {L : Nat} {xs : Int → Int} {R : zP} {x0 x1 x2 x3 : Option zV} {st : List zV} {M : zM} {a b : Int} : uL L xs R 815 [x0, x1, x2, x3] (.inl b :: .inl a :: st) M ↔ uL L xs R 816 [x0, x1, x2, x3] (.inl (a + b) :: st) M := zU_step dL_815 (Or.inl rfl)
theorem dL_816 : decode code 816 = .ok (.iaload, 1) := by decide +kernel
theorem rL_816 {L : Nat} {xs : Int → Int} {R : zP} {x0 x1 x2 x3 : Option zV} {st : List zV} {M : zM} {i : Int} {r : Nat} : uL L xs R 816 [x0, x1, x2, x3] (.inl i :: .inr (.inr r) :: st) M ↔ zread (fL L xs) 0 r M i (fun v => uL L xs R 817 [x0, x1, x2, x3] (.inl v :: st) M) := zU_step dL_816 (Or.inl rfl)
theorem dL_817 : decode code 817 = .ok (.invokevirtual 95, 3) := by decide +kernel
theorem rL_817 {L : Nat} {xs : Int → Int} {R : zP} {x0 x1 x2 x3 : Option zV} {st : List zV} {M : zM} {a0 a1 a2 a3 a4 : zV} : uL L xs R 817 [x0, x1, x2, x3] (a4 :: a3 :: a2 :: a1 :: a0 :: st) M ↔ (st.length ≤ 4 ∧ zcv (zv 7 (znm tX7_seen)) [a0, a1, a2, a3, a4] M (fun v M => uL L xs R 820 [x0, x1, x2, x3] (v :: st) M)) := Iff.trans (zU_step dL_817 (Or.inl rfl)) ⟨fun h => ⟨h.2.1, zcv_of h.2.2⟩, fun h => ⟨rfl, h.1, zcv_to h.2⟩⟩
theorem dL_820 : decode code 820 = .ok (.aload_n 2, 1) := by decide +kernel
theorem rL_820 {L : Nat} {xs : Int → Int} {R : zP} {x0 x1 x3 : Option zV} {st : List zV} {M : zM} {a : Nat} : uL L xs R 820 [x0, x1, some (.inr (.inr a)), x3] st M ↔ uL L xs R 821 [x0, x1, some (.inr (.inr a)), x3] (.inr (.inr a) :: st) M := zU_step dL_820 (Or.inl rfl)
theorem dL_821 : decode code 821 = .ok (.aload_n 0, 1) := by decide +kernel
theorem rL_821 {L : Nat} {xs : Int → Int} {R : zP} {x1 x2 x3 : Option zV} {st : List zV} {M : zM} {a : Nat} : uL L xs R 821 [some (.inr (.inr a)), x1, x2, x3] st M ↔ uL L xs R 822 [some (.inr (.inr a)), x1, x2, x3] (.inr (.inr a) :: st) M := zU_step dL_821 (Or.inl rfl)
theorem dL_822 : decode code 822 = .ok (.iload_n 3, 1) := by decide +kernel
theorem rL_822 {L : Nat} {xs : Int → Int} {R : zP} {x0 x1 x2 : Option zV} {st : List zV} {M : zM} {a : Int} : uL L xs R 822 [x0, x1, x2, some (.inl a)] st M ↔ uL L xs R 823 [x0, x1, x2, some (.inl a)] (.inl a :: st) M := zU_step dL_822 (Or.inl rfl)
theorem dL_823 : decode code 823 = .ok (.iconst 1, 1) := by decide +kernel
theorem rL_823 {L : Nat} {xs : Int → Int} {R : zP} {x0 x1 x2 x3 : Option zV} {st : List zV} {M : zM} : uL L xs R 823 [x0, x1, x2, x3] st M ↔ uL L xs R 824 [x0, x1, x2, x3] (.inl (1) :: st) M := zU_step dL_823 (Or.inl rfl)
theorem dL_824 : decode code 824 = .ok (.iadd, 1) := by decide +kernel
theorem rL_824 {L : Nat} {xs : Int → Int} {R : zP} {x0 x1 x2 x3 : Option zV} {st : List zV} {M : zM} {a b : Int} : uL L xs R 824 [x0, x1, x2, x3] (.inl b :: .inl a :: st) M ↔ uL L xs R 825 [x0, x1, x2, x3] (.inl (a + b) :: st) M := zU_step dL_824 (Or.inl rfl)
theorem dL_825 : decode code 825 = .ok (.iaload, 1) := by decide +kernel
theorem rL_825 {L : Nat} {xs : Int → Int} {R : zP} {x0 x1 x2 x3 : Option zV} {st : List zV} {M : zM} {i : Int} {r : Nat} : uL L xs R 825 [x0, x1, x2, x3] (.inl i :: .inr (.inr r) :: st) M ↔ zread (fL L xs) 0 r M i (fun v => uL L xs R 826 [x0, x1, x2, x3] (.inl v :: st) M) := zU_step dL_825 (Or.inl rfl)
theorem dL_826 : decode code 826 = .ok (.aload_n 0, 1) := by decide +kernel
theorem rL_826 {L : Nat} {xs : Int → Int} {R : zP} {x1 x2 x3 : Option zV} {st : List zV} {M : zM} {a : Nat} : uL L xs R 826 [some (.inr (.inr a)), x1, x2, x3] st M ↔ uL L xs R 827 [some (.inr (.inr a)), x1, x2, x3] (.inr (.inr a) :: st) M := zU_step dL_826 (Or.inl rfl)
theorem dL_827 : decode code 827 = .ok (.iload_n 3, 1) := by decide +kernel
theorem rL_827 {L : Nat} {xs : Int → Int} {R : zP} {x0 x1 x2 : Option zV} {st : List zV} {M : zM} {a : Int} : uL L xs R 827 [x0, x1, x2, some (.inl a)] st M ↔ uL L xs R 828 [x0, x1, x2, some (.inl a)] (.inl a :: st) M := zU_step dL_827 (Or.inl rfl)
theorem dL_828 : decode code 828 = .ok (.iconst 2, 1) := by decide +kernel
theorem rL_828 {L : Nat} {xs : Int → Int} {R : zP} {x0 x1 x2 x3 : Option zV} {st : List zV} {M : zM} : uL L xs R 828 [x0, x1, x2, x3] st M ↔ uL L xs R 829 [x0, x1, x2, x3] (.inl (2) :: st) M := zU_step dL_828 (Or.inl rfl)
theorem dL_829 : decode code 829 = .ok (.iadd, 1) := by decide +kernel
theorem rL_829 {L : Nat} {xs : Int → Int} {R : zP} {x0 x1 x2 x3 : Option zV} {st : List zV} {M : zM} {a b : Int} : uL L xs R 829 [x0, x1, x2, x3] (.inl b :: .inl a :: st) M ↔ uL L xs R 830 [x0, x1, x2, x3] (.inl (a + b) :: st) M := zU_step dL_829 (Or.inl rfl)
theorem dL_830 : decode code 830 = .ok (.iaload, 1) := by decide +kernel
theorem rL_830 {L : Nat} {xs : Int → Int} {R : zP} {x0 x1 x2 x3 : Option zV} {st : List zV} {M : zM} {i : Int} {r : Nat} : uL L xs R 830 [x0, x1, x2, x3] (.inl i :: .inr (.inr r) :: st) M ↔ zread (fL L xs) 0 r M i (fun v => uL L xs R 831 [x0, x1, x2, x3] (.inl v :: st) M) := zU_step dL_830 (Or.inl rfl)
theorem dL_831 : decode code 831 = .ok (.aload_n 0, 1) := by decide +kernel
theorem rL_831 {L : Nat} {xs : Int → Int} {R : zP} {x1 x2 x3 : Option zV} {st : List zV} {M : zM} {a : Nat} : uL L xs R 831 [some (.inr (.inr a)), x1, x2, x3] st M ↔ uL L xs R 832 [some (.inr (.inr a)), x1, x2, x3] (.inr (.inr a) :: st) M := zU_step dL_831 (Or.inl rfl)
theorem dL_832 : decode code 832 = .ok (.iload_n 3, 1) := by decide +kernel
theorem rL_832 {L : Nat} {xs : Int → Int} {R : zP} {x0 x1 x2 : Option zV} {st : List zV} {M : zM} {a : Int} : uL L xs R 832 [x0, x1, x2, some (.inl a)] st M ↔ uL L xs R 833 [x0, x1, x2, some (.inl a)] (.inl a :: st) M := zU_step dL_832 (Or.inl rfl)
theorem dL_833 : decode code 833 = .ok (.iconst 3, 1) := by decide +kernel
theorem rL_833 {L : Nat} {xs : Int → Int} {R : zP} {x0 x1 x2 x3 : Option zV} {st : List zV} {M : zM} : uL L xs R 833 [x0, x1, x2, x3] st M ↔ uL L xs R 834 [x0, x1, x2, x3] (.inl (3) :: st) M := zU_step dL_833 (Or.inl rfl)
theorem dL_834 : decode code 834 = .ok (.iadd, 1) := by decide +kernel
theorem rL_834 {L : Nat} {xs : Int → Int} {R : zP} {x0 x1 x2 x3 : Option zV} {st : List zV} {M : zM} {a b : Int} : uL L xs R 834 [x0, x1, x2, x3] (.inl b :: .inl a :: st) M ↔ uL L xs R 835 [x0, x1, x2, x3] (.inl (a + b) :: st) M := zU_step dL_834 (Or.inl rfl)
theorem dL_835 : decode code 835 = .ok (.iaload, 1) := by decide +kernel
theorem rL_835 {L : Nat} {xs : Int → Int} {R : zP} {x0 x1 x2 x3 : Option zV} {st : List zV} {M : zM} {i : Int} {r : Nat} : uL L xs R 835 [x0, x1, x2, x3] (.inl i :: .inr (.inr r) :: st) M ↔ zread (fL L xs) 0 r M i (fun v => uL L xs R 836 [x0, x1, x2, x3] (.inl v :: st) M) := zU_step dL_835 (Or.inl rfl)
theorem dL_836 : decode code 836 = .ok (.aload_n 0, 1) := by decide +kernel
theorem rL_836 {L : Nat} {xs : Int → Int} {R : zP} {x1 x2 x3 : Option zV} {st : List zV} {M : zM} {a : Nat} : uL L xs R 836 [some (.inr (.inr a)), x1, x2, x3] st M ↔ uL L xs R 837 [some (.inr (.inr a)), x1, x2, x3] (.inr (.inr a) :: st) M := zU_step dL_836 (Or.inl rfl)
theorem dL_837 : decode code 837 = .ok (.iload_n 3, 1) := by decide +kernel
theorem rL_837 {L : Nat} {xs : Int → Int} {R : zP} {x0 x1 x2 : Option zV} {st : List zV} {M : zM} {a : Int} : uL L xs R 837 [x0, x1, x2, some (.inl a)] st M ↔ uL L xs R 838 [x0, x1, x2, some (.inl a)] (.inl a :: st) M := zU_step dL_837 (Or.inl rfl)
theorem dL_838 : decode code 838 = .ok (.iconst 4, 1) := by decide +kernel
theorem rL_838 {L : Nat} {xs : Int → Int} {R : zP} {x0 x1 x2 x3 : Option zV} {st : List zV} {M : zM} : uL L xs R 838 [x0, x1, x2, x3] st M ↔ uL L xs R 839 [x0, x1, x2, x3] (.inl (4) :: st) M := zU_step dL_838 (Or.inl rfl)
theorem dL_839 : decode code 839 = .ok (.iadd, 1) := by decide +kernel
theorem rL_839 {L : Nat} {xs : Int → Int} {R : zP} {x0 x1 x2 x3 : Option zV} {st : List zV} {M : zM} {a b : Int} : uL L xs R 839 [x0, x1, x2, x3] (.inl b :: .inl a :: st) M ↔ uL L xs R 840 [x0, x1, x2, x3] (.inl (a + b) :: st) M := zU_step dL_839 (Or.inl rfl)
theorem dL_840 : decode code 840 = .ok (.iaload, 1) := by decide +kernel
theorem rL_840 {L : Nat} {xs : Int → Int} {R : zP} {x0 x1 x2 x3 : Option zV} {st : List zV} {M : zM} {i : Int} {r : Nat} : uL L xs R 840 [x0, x1, x2, x3] (.inl i :: .inr (.inr r) :: st) M ↔ zread (fL L xs) 0 r M i (fun v => uL L xs R 841 [x0, x1, x2, x3] (.inl v :: st) M) := zU_step dL_840 (Or.inl rfl)
theorem dL_841 : decode code 841 = .ok (.invokevirtual 98, 3) := by decide +kernel
theorem rL_841 {L : Nat} {xs : Int → Int} {R : zP} {x0 x1 x2 x3 : Option zV} {st : List zV} {M : zM} {a0 a1 a2 a3 a4 : zV} : uL L xs R 841 [x0, x1, x2, x3] (a4 :: a3 :: a2 :: a1 :: a0 :: st) M ↔ (st.length ≤ 4 ∧ zcv (zv 8 (znm tX8_seen)) [a0, a1, a2, a3, a4] M (fun v M => uL L xs R 844 [x0, x1, x2, x3] (v :: st) M)) := Iff.trans (zU_step dL_841 (Or.inl rfl)) ⟨fun h => ⟨h.2.1, zcv_of h.2.2⟩, fun h => ⟨rfl, h.1, zcv_to h.2⟩⟩
theorem dL_844 : decode code 844 = .ok (.if_icmp .eq 522, 3) := by decide +kernel
theorem rL_844 {L : Nat} {xs : Int → Int} {R : zP} {x0 x1 x2 x3 : Option zV} {st : List zV} {M : zM} {a b : Int} : uL L xs R 844 [x0, x1, x2, x3] (.inl b :: .inl a :: st) M ↔ ((zIR a ∧ zIR b) ∧ if a = b then uL L xs R 1366 [x0, x1, x2, x3] st M else uL L xs R 847 [x0, x1, x2, x3] st M) := Iff.trans (zU_step dL_844 (Or.inl rfl)) ⟨fun h => ⟨⟨h.1.1, h.1.2.1⟩, (zite (c := a = b)).mpr h.2⟩, fun h => ⟨⟨h.1.1, h.1.2, by decide⟩, (zite (c := a = b)).mp h.2⟩⟩
theorem dL_847 : decode code 847 = .ok (.iconst 0, 1) := by decide +kernel
theorem rL_847 {L : Nat} {xs : Int → Int} {R : zP} {x0 x1 x2 x3 : Option zV} {st : List zV} {M : zM} : uL L xs R 847 [x0, x1, x2, x3] st M ↔ uL L xs R 848 [x0, x1, x2, x3] (.inl (0) :: st) M := zU_step dL_847 (Or.inl rfl)
theorem dL_848 : decode code 848 = .ok (.ireturn, 1) := by decide +kernel
theorem rL_848 {L : Nat} {xs : Int → Int} {R : zP} {x0 x1 x2 x3 : Option zV} {M : zM} {a : Int} : uL L xs R 848 [x0, x1, x2, x3] [.inl a] M ↔ ((a = 0 ∨ a = 1) ∧ R (some (.inl a)) M) := Iff.trans (zU_step dL_848 (Or.inl rfl)) ⟨fun h => ⟨zret2 rfl h.2.1, h.2.2⟩, fun h => ⟨rfl, Or.inr (Or.inl ⟨rfl, h.1⟩), h.2⟩⟩
theorem dL_849 : decode code 849 = .ok (.aload_n 1, 1) := by decide +kernel
theorem rL_849 {L : Nat} {xs : Int → Int} {R : zP} {x0 x2 x3 : Option zV} {st : List zV} {M : zM} {a : Nat} : uL L xs R 849 [x0, some (.inr (.inr a)), x2, x3] st M ↔ uL L xs R 850 [x0, some (.inr (.inr a)), x2, x3] (.inr (.inr a) :: st) M := zU_step dL_849 (Or.inl rfl)
theorem dL_850 : decode code 850 = .ok (.invokevirtual 99, 3) := by decide +kernel
theorem rL_850 {L : Nat} {xs : Int → Int} {R : zP} {x0 x1 x2 x3 : Option zV} {st : List zV} {M : zM} {a0 : zV} : uL L xs R 850 [x0, x1, x2, x3] (a0 :: st) M ↔ (st.length ≤ 4 ∧ zcv (zv 7 (znm tX7_forget)) [a0] M (fun v M => uL L xs R 853 [x0, x1, x2, x3] (v :: st) M)) := Iff.trans (zU_step dL_850 (Or.inl rfl)) ⟨fun h => ⟨h.2.1, zcv_of h.2.2⟩, fun h => ⟨rfl, h.1, zcv_to h.2⟩⟩
theorem dL_853 : decode code 853 = .ok (.aload_n 2, 1) := by decide +kernel
theorem rL_853 {L : Nat} {xs : Int → Int} {R : zP} {x0 x1 x3 : Option zV} {st : List zV} {M : zM} {a : Nat} : uL L xs R 853 [x0, x1, some (.inr (.inr a)), x3] st M ↔ uL L xs R 854 [x0, x1, some (.inr (.inr a)), x3] (.inr (.inr a) :: st) M := zU_step dL_853 (Or.inl rfl)
theorem dL_854 : decode code 854 = .ok (.invokevirtual 102, 3) := by decide +kernel
theorem rL_854 {L : Nat} {xs : Int → Int} {R : zP} {x0 x1 x2 x3 : Option zV} {st : List zV} {M : zM} {a0 : zV} : uL L xs R 854 [x0, x1, x2, x3] (a0 :: st) M ↔ (st.length ≤ 4 ∧ zcv (zv 8 (znm tX8_forget)) [a0] M (fun v M => uL L xs R 857 [x0, x1, x2, x3] (v :: st) M)) := Iff.trans (zU_step dL_854 (Or.inl rfl)) ⟨fun h => ⟨h.2.1, zcv_of h.2.2⟩, fun h => ⟨rfl, h.1, zcv_to h.2⟩⟩
theorem dL_857 : decode code 857 = .ok (.if_icmp .eq 509, 3) := by decide +kernel
theorem rL_857 {L : Nat} {xs : Int → Int} {R : zP} {x0 x1 x2 x3 : Option zV} {st : List zV} {M : zM} {a b : Int} : uL L xs R 857 [x0, x1, x2, x3] (.inl b :: .inl a :: st) M ↔ ((zIR a ∧ zIR b) ∧ if a = b then uL L xs R 1366 [x0, x1, x2, x3] st M else uL L xs R 860 [x0, x1, x2, x3] st M) := Iff.trans (zU_step dL_857 (Or.inl rfl)) ⟨fun h => ⟨⟨h.1.1, h.1.2.1⟩, (zite (c := a = b)).mpr h.2⟩, fun h => ⟨⟨h.1.1, h.1.2, by decide⟩, (zite (c := a = b)).mp h.2⟩⟩
theorem dL_860 : decode code 860 = .ok (.iconst 0, 1) := by decide +kernel
theorem rL_860 {L : Nat} {xs : Int → Int} {R : zP} {x0 x1 x2 x3 : Option zV} {st : List zV} {M : zM} : uL L xs R 860 [x0, x1, x2, x3] st M ↔ uL L xs R 861 [x0, x1, x2, x3] (.inl (0) :: st) M := zU_step dL_860 (Or.inl rfl)
theorem dL_861 : decode code 861 = .ok (.ireturn, 1) := by decide +kernel
theorem rL_861 {L : Nat} {xs : Int → Int} {R : zP} {x0 x1 x2 x3 : Option zV} {M : zM} {a : Int} : uL L xs R 861 [x0, x1, x2, x3] [.inl a] M ↔ ((a = 0 ∨ a = 1) ∧ R (some (.inl a)) M) := Iff.trans (zU_step dL_861 (Or.inl rfl)) ⟨fun h => ⟨zret2 rfl h.2.1, h.2.2⟩, fun h => ⟨rfl, Or.inr (Or.inl ⟨rfl, h.1⟩), h.2⟩⟩
theorem dL_862 : decode code 862 = .ok (.aload_n 1, 1) := by decide +kernel
theorem rL_862 {L : Nat} {xs : Int → Int} {R : zP} {x0 x2 x3 : Option zV} {st : List zV} {M : zM} {a : Nat} : uL L xs R 862 [x0, some (.inr (.inr a)), x2, x3] st M ↔ uL L xs R 863 [x0, some (.inr (.inr a)), x2, x3] (.inr (.inr a) :: st) M := zU_step dL_862 (Or.inl rfl)
theorem dL_863 : decode code 863 = .ok (.invokevirtual 103, 3) := by decide +kernel
theorem rL_863 {L : Nat} {xs : Int → Int} {R : zP} {x0 x1 x2 x3 : Option zV} {st : List zV} {M : zM} {a0 : zV} : uL L xs R 863 [x0, x1, x2, x3] (a0 :: st) M ↔ (st.length ≤ 4 ∧ zcv (zv 7 (znm tX7_never)) [a0] M (fun v M => uL L xs R 866 [x0, x1, x2, x3] (v :: st) M)) := Iff.trans (zU_step dL_863 (Or.inl rfl)) ⟨fun h => ⟨h.2.1, zcv_of h.2.2⟩, fun h => ⟨rfl, h.1, zcv_to h.2⟩⟩
theorem dL_866 : decode code 866 = .ok (.aload_n 2, 1) := by decide +kernel
theorem rL_866 {L : Nat} {xs : Int → Int} {R : zP} {x0 x1 x3 : Option zV} {st : List zV} {M : zM} {a : Nat} : uL L xs R 866 [x0, x1, some (.inr (.inr a)), x3] st M ↔ uL L xs R 867 [x0, x1, some (.inr (.inr a)), x3] (.inr (.inr a) :: st) M := zU_step dL_866 (Or.inl rfl)
theorem dL_867 : decode code 867 = .ok (.invokevirtual 106, 3) := by decide +kernel
theorem rL_867 {L : Nat} {xs : Int → Int} {R : zP} {x0 x1 x2 x3 : Option zV} {st : List zV} {M : zM} {a0 : zV} : uL L xs R 867 [x0, x1, x2, x3] (a0 :: st) M ↔ (st.length ≤ 4 ∧ zcv (zv 8 (znm tX8_never)) [a0] M (fun v M => uL L xs R 870 [x0, x1, x2, x3] (v :: st) M)) := Iff.trans (zU_step dL_867 (Or.inl rfl)) ⟨fun h => ⟨h.2.1, zcv_of h.2.2⟩, fun h => ⟨rfl, h.1, zcv_to h.2⟩⟩
theorem dL_870 : decode code 870 = .ok (.if_icmp .eq 496, 3) := by decide +kernel
theorem rL_870 {L : Nat} {xs : Int → Int} {R : zP} {x0 x1 x2 x3 : Option zV} {st : List zV} {M : zM} {a b : Int} : uL L xs R 870 [x0, x1, x2, x3] (.inl b :: .inl a :: st) M ↔ ((zIR a ∧ zIR b) ∧ if a = b then uL L xs R 1366 [x0, x1, x2, x3] st M else uL L xs R 873 [x0, x1, x2, x3] st M) := Iff.trans (zU_step dL_870 (Or.inl rfl)) ⟨fun h => ⟨⟨h.1.1, h.1.2.1⟩, (zite (c := a = b)).mpr h.2⟩, fun h => ⟨⟨h.1.1, h.1.2, by decide⟩, (zite (c := a = b)).mp h.2⟩⟩
theorem dL_873 : decode code 873 = .ok (.iconst 0, 1) := by decide +kernel
theorem rL_873 {L : Nat} {xs : Int → Int} {R : zP} {x0 x1 x2 x3 : Option zV} {st : List zV} {M : zM} : uL L xs R 873 [x0, x1, x2, x3] st M ↔ uL L xs R 874 [x0, x1, x2, x3] (.inl (0) :: st) M := zU_step dL_873 (Or.inl rfl)
theorem dL_874 : decode code 874 = .ok (.ireturn, 1) := by decide +kernel
theorem rL_874 {L : Nat} {xs : Int → Int} {R : zP} {x0 x1 x2 x3 : Option zV} {M : zM} {a : Int} : uL L xs R 874 [x0, x1, x2, x3] [.inl a] M ↔ ((a = 0 ∨ a = 1) ∧ R (some (.inl a)) M) := Iff.trans (zU_step dL_874 (Or.inl rfl)) ⟨fun h => ⟨zret2 rfl h.2.1, h.2.2⟩, fun h => ⟨rfl, Or.inr (Or.inl ⟨rfl, h.1⟩), h.2⟩⟩
theorem dL_875 : decode code 875 = .ok (.aload_n 1, 1) := by decide +kernel
theorem rL_875 {L : Nat} {xs : Int → Int} {R : zP} {x0 x2 x3 : Option zV} {st : List zV} {M : zM} {a : Nat} : uL L xs R 875 [x0, some (.inr (.inr a)), x2, x3] st M ↔ uL L xs R 876 [x0, some (.inr (.inr a)), x2, x3] (.inr (.inr a) :: st) M := zU_step dL_875 (Or.inl rfl)
theorem dL_876 : decode code 876 = .ok (.aload_n 0, 1) := by decide +kernel
theorem rL_876 {L : Nat} {xs : Int → Int} {R : zP} {x1 x2 x3 : Option zV} {st : List zV} {M : zM} {a : Nat} : uL L xs R 876 [some (.inr (.inr a)), x1, x2, x3] st M ↔ uL L xs R 877 [some (.inr (.inr a)), x1, x2, x3] (.inr (.inr a) :: st) M := zU_step dL_876 (Or.inl rfl)
theorem dL_877 : decode code 877 = .ok (.iload_n 3, 1) := by decide +kernel
theorem rL_877 {L : Nat} {xs : Int → Int} {R : zP} {x0 x1 x2 : Option zV} {st : List zV} {M : zM} {a : Int} : uL L xs R 877 [x0, x1, x2, some (.inl a)] st M ↔ uL L xs R 878 [x0, x1, x2, some (.inl a)] (.inl a :: st) M := zU_step dL_877 (Or.inl rfl)
theorem dL_878 : decode code 878 = .ok (.iconst 1, 1) := by decide +kernel
theorem rL_878 {L : Nat} {xs : Int → Int} {R : zP} {x0 x1 x2 x3 : Option zV} {st : List zV} {M : zM} : uL L xs R 878 [x0, x1, x2, x3] st M ↔ uL L xs R 879 [x0, x1, x2, x3] (.inl (1) :: st) M := zU_step dL_878 (Or.inl rfl)
theorem dL_879 : decode code 879 = .ok (.iadd, 1) := by decide +kernel
theorem rL_879 {L : Nat} {xs : Int → Int} {R : zP} {x0 x1 x2 x3 : Option zV} {st : List zV} {M : zM} {a b : Int} : uL L xs R 879 [x0, x1, x2, x3] (.inl b :: .inl a :: st) M ↔ uL L xs R 880 [x0, x1, x2, x3] (.inl (a + b) :: st) M := zU_step dL_879 (Or.inl rfl)
theorem dL_880 : decode code 880 = .ok (.iaload, 1) := by decide +kernel
theorem rL_880 {L : Nat} {xs : Int → Int} {R : zP} {x0 x1 x2 x3 : Option zV} {st : List zV} {M : zM} {i : Int} {r : Nat} : uL L xs R 880 [x0, x1, x2, x3] (.inl i :: .inr (.inr r) :: st) M ↔ zread (fL L xs) 0 r M i (fun v => uL L xs R 881 [x0, x1, x2, x3] (.inl v :: st) M) := zU_step dL_880 (Or.inl rfl)
theorem dL_881 : decode code 881 = .ok (.invokevirtual 107, 3) := by decide +kernel
theorem rL_881 {L : Nat} {xs : Int → Int} {R : zP} {x0 x1 x2 x3 : Option zV} {st : List zV} {M : zM} {a0 a1 : zV} : uL L xs R 881 [x0, x1, x2, x3] (a1 :: a0 :: st) M ↔ (st.length ≤ 4 ∧ zcv (zv 7 (znm tX7_sort)) [a0, a1] M (fun v M => uL L xs R 884 [x0, x1, x2, x3] (v :: st) M)) := Iff.trans (zU_step dL_881 (Or.inl rfl)) ⟨fun h => ⟨h.2.1, zcv_of h.2.2⟩, fun h => ⟨rfl, h.1, zcv_to h.2⟩⟩
theorem dL_884 : decode code 884 = .ok (.aload_n 2, 1) := by decide +kernel
theorem rL_884 {L : Nat} {xs : Int → Int} {R : zP} {x0 x1 x3 : Option zV} {st : List zV} {M : zM} {a : Nat} : uL L xs R 884 [x0, x1, some (.inr (.inr a)), x3] st M ↔ uL L xs R 885 [x0, x1, some (.inr (.inr a)), x3] (.inr (.inr a) :: st) M := zU_step dL_884 (Or.inl rfl)
theorem dL_885 : decode code 885 = .ok (.aload_n 0, 1) := by decide +kernel
theorem rL_885 {L : Nat} {xs : Int → Int} {R : zP} {x1 x2 x3 : Option zV} {st : List zV} {M : zM} {a : Nat} : uL L xs R 885 [some (.inr (.inr a)), x1, x2, x3] st M ↔ uL L xs R 886 [some (.inr (.inr a)), x1, x2, x3] (.inr (.inr a) :: st) M := zU_step dL_885 (Or.inl rfl)
theorem dL_886 : decode code 886 = .ok (.iload_n 3, 1) := by decide +kernel
theorem rL_886 {L : Nat} {xs : Int → Int} {R : zP} {x0 x1 x2 : Option zV} {st : List zV} {M : zM} {a : Int} : uL L xs R 886 [x0, x1, x2, some (.inl a)] st M ↔ uL L xs R 887 [x0, x1, x2, some (.inl a)] (.inl a :: st) M := zU_step dL_886 (Or.inl rfl)
theorem dL_887 : decode code 887 = .ok (.iconst 1, 1) := by decide +kernel
theorem rL_887 {L : Nat} {xs : Int → Int} {R : zP} {x0 x1 x2 x3 : Option zV} {st : List zV} {M : zM} : uL L xs R 887 [x0, x1, x2, x3] st M ↔ uL L xs R 888 [x0, x1, x2, x3] (.inl (1) :: st) M := zU_step dL_887 (Or.inl rfl)
theorem dL_888 : decode code 888 = .ok (.iadd, 1) := by decide +kernel
theorem rL_888 {L : Nat} {xs : Int → Int} {R : zP} {x0 x1 x2 x3 : Option zV} {st : List zV} {M : zM} {a b : Int} : uL L xs R 888 [x0, x1, x2, x3] (.inl b :: .inl a :: st) M ↔ uL L xs R 889 [x0, x1, x2, x3] (.inl (a + b) :: st) M := zU_step dL_888 (Or.inl rfl)
theorem dL_889 : decode code 889 = .ok (.iaload, 1) := by decide +kernel
theorem rL_889 {L : Nat} {xs : Int → Int} {R : zP} {x0 x1 x2 x3 : Option zV} {st : List zV} {M : zM} {i : Int} {r : Nat} : uL L xs R 889 [x0, x1, x2, x3] (.inl i :: .inr (.inr r) :: st) M ↔ zread (fL L xs) 0 r M i (fun v => uL L xs R 890 [x0, x1, x2, x3] (.inl v :: st) M) := zU_step dL_889 (Or.inl rfl)
theorem dL_890 : decode code 890 = .ok (.invokevirtual 110, 3) := by decide +kernel
theorem rL_890 {L : Nat} {xs : Int → Int} {R : zP} {x0 x1 x2 x3 : Option zV} {st : List zV} {M : zM} {a0 a1 : zV} : uL L xs R 890 [x0, x1, x2, x3] (a1 :: a0 :: st) M ↔ (st.length ≤ 4 ∧ zcv (zv 8 (znm tX8_sort)) [a0, a1] M (fun v M => uL L xs R 893 [x0, x1, x2, x3] (v :: st) M)) := Iff.trans (zU_step dL_890 (Or.inl rfl)) ⟨fun h => ⟨h.2.1, zcv_of h.2.2⟩, fun h => ⟨rfl, h.1, zcv_to h.2⟩⟩
theorem dL_893 : decode code 893 = .ok (.if_icmp .eq 473, 3) := by decide +kernel
theorem rL_893 {L : Nat} {xs : Int → Int} {R : zP} {x0 x1 x2 x3 : Option zV} {st : List zV} {M : zM} {a b : Int} : uL L xs R 893 [x0, x1, x2, x3] (.inl b :: .inl a :: st) M ↔ ((zIR a ∧ zIR b) ∧ if a = b then uL L xs R 1366 [x0, x1, x2, x3] st M else uL L xs R 896 [x0, x1, x2, x3] st M) := Iff.trans (zU_step dL_893 (Or.inl rfl)) ⟨fun h => ⟨⟨h.1.1, h.1.2.1⟩, (zite (c := a = b)).mpr h.2⟩, fun h => ⟨⟨h.1.1, h.1.2, by decide⟩, (zite (c := a = b)).mp h.2⟩⟩
theorem dL_896 : decode code 896 = .ok (.iconst 0, 1) := by decide +kernel
theorem rL_896 {L : Nat} {xs : Int → Int} {R : zP} {x0 x1 x2 x3 : Option zV} {st : List zV} {M : zM} : uL L xs R 896 [x0, x1, x2, x3] st M ↔ uL L xs R 897 [x0, x1, x2, x3] (.inl (0) :: st) M := zU_step dL_896 (Or.inl rfl)
theorem dL_897 : decode code 897 = .ok (.ireturn, 1) := by decide +kernel
theorem rL_897 {L : Nat} {xs : Int → Int} {R : zP} {x0 x1 x2 x3 : Option zV} {M : zM} {a : Int} : uL L xs R 897 [x0, x1, x2, x3] [.inl a] M ↔ ((a = 0 ∨ a = 1) ∧ R (some (.inl a)) M) := Iff.trans (zU_step dL_897 (Or.inl rfl)) ⟨fun h => ⟨zret2 rfl h.2.1, h.2.2⟩, fun h => ⟨rfl, Or.inr (Or.inl ⟨rfl, h.1⟩), h.2⟩⟩
theorem dL_898 : decode code 898 = .ok (.aload_n 1, 1) := by decide +kernel
theorem rL_898 {L : Nat} {xs : Int → Int} {R : zP} {x0 x2 x3 : Option zV} {st : List zV} {M : zM} {a : Nat} : uL L xs R 898 [x0, some (.inr (.inr a)), x2, x3] st M ↔ uL L xs R 899 [x0, some (.inr (.inr a)), x2, x3] (.inr (.inr a) :: st) M := zU_step dL_898 (Or.inl rfl)
theorem dL_899 : decode code 899 = .ok (.aload_n 0, 1) := by decide +kernel
theorem rL_899 {L : Nat} {xs : Int → Int} {R : zP} {x1 x2 x3 : Option zV} {st : List zV} {M : zM} {a : Nat} : uL L xs R 899 [some (.inr (.inr a)), x1, x2, x3] st M ↔ uL L xs R 900 [some (.inr (.inr a)), x1, x2, x3] (.inr (.inr a) :: st) M := zU_step dL_899 (Or.inl rfl)
theorem dL_900 : decode code 900 = .ok (.iload_n 3, 1) := by decide +kernel
theorem rL_900 {L : Nat} {xs : Int → Int} {R : zP} {x0 x1 x2 : Option zV} {st : List zV} {M : zM} {a : Int} : uL L xs R 900 [x0, x1, x2, some (.inl a)] st M ↔ uL L xs R 901 [x0, x1, x2, some (.inl a)] (.inl a :: st) M := zU_step dL_900 (Or.inl rfl)
theorem dL_901 : decode code 901 = .ok (.iconst 1, 1) := by decide +kernel
theorem rL_901 {L : Nat} {xs : Int → Int} {R : zP} {x0 x1 x2 x3 : Option zV} {st : List zV} {M : zM} : uL L xs R 901 [x0, x1, x2, x3] st M ↔ uL L xs R 902 [x0, x1, x2, x3] (.inl (1) :: st) M := zU_step dL_901 (Or.inl rfl)
theorem dL_902 : decode code 902 = .ok (.iadd, 1) := by decide +kernel
theorem rL_902 {L : Nat} {xs : Int → Int} {R : zP} {x0 x1 x2 x3 : Option zV} {st : List zV} {M : zM} {a b : Int} : uL L xs R 902 [x0, x1, x2, x3] (.inl b :: .inl a :: st) M ↔ uL L xs R 903 [x0, x1, x2, x3] (.inl (a + b) :: st) M := zU_step dL_902 (Or.inl rfl)
theorem dL_903 : decode code 903 = .ok (.iaload, 1) := by decide +kernel
theorem rL_903 {L : Nat} {xs : Int → Int} {R : zP} {x0 x1 x2 x3 : Option zV} {st : List zV} {M : zM} {i : Int} {r : Nat} : uL L xs R 903 [x0, x1, x2, x3] (.inl i :: .inr (.inr r) :: st) M ↔ zread (fL L xs) 0 r M i (fun v => uL L xs R 904 [x0, x1, x2, x3] (.inl v :: st) M) := zU_step dL_903 (Or.inl rfl)
theorem dL_904 : decode code 904 = .ok (.aload_n 0, 1) := by decide +kernel
theorem rL_904 {L : Nat} {xs : Int → Int} {R : zP} {x1 x2 x3 : Option zV} {st : List zV} {M : zM} {a : Nat} : uL L xs R 904 [some (.inr (.inr a)), x1, x2, x3] st M ↔ uL L xs R 905 [some (.inr (.inr a)), x1, x2, x3] (.inr (.inr a) :: st) M := zU_step dL_904 (Or.inl rfl)
theorem dL_905 : decode code 905 = .ok (.iload_n 3, 1) := by decide +kernel
theorem rL_905 {L : Nat} {xs : Int → Int} {R : zP} {x0 x1 x2 : Option zV} {st : List zV} {M : zM} {a : Int} : uL L xs R 905 [x0, x1, x2, some (.inl a)] st M ↔ uL L xs R 906 [x0, x1, x2, some (.inl a)] (.inl a :: st) M := zU_step dL_905 (Or.inl rfl)
theorem dL_906 : decode code 906 = .ok (.iconst 2, 1) := by decide +kernel
theorem rL_906 {L : Nat} {xs : Int → Int} {R : zP} {x0 x1 x2 x3 : Option zV} {st : List zV} {M : zM} : uL L xs R 906 [x0, x1, x2, x3] st M ↔ uL L xs R 907 [x0, x1, x2, x3] (.inl (2) :: st) M := zU_step dL_906 (Or.inl rfl)
theorem dL_907 : decode code 907 = .ok (.iadd, 1) := by decide +kernel
theorem rL_907 {L : Nat} {xs : Int → Int} {R : zP} {x0 x1 x2 x3 : Option zV} {st : List zV} {M : zM} {a b : Int} : uL L xs R 907 [x0, x1, x2, x3] (.inl b :: .inl a :: st) M ↔ uL L xs R 908 [x0, x1, x2, x3] (.inl (a + b) :: st) M := zU_step dL_907 (Or.inl rfl)
theorem dL_908 : decode code 908 = .ok (.iaload, 1) := by decide +kernel
theorem rL_908 {L : Nat} {xs : Int → Int} {R : zP} {x0 x1 x2 x3 : Option zV} {st : List zV} {M : zM} {i : Int} {r : Nat} : uL L xs R 908 [x0, x1, x2, x3] (.inl i :: .inr (.inr r) :: st) M ↔ zread (fL L xs) 0 r M i (fun v => uL L xs R 909 [x0, x1, x2, x3] (.inl v :: st) M) := zU_step dL_908 (Or.inl rfl)
theorem dL_909 : decode code 909 = .ok (.invokevirtual 111, 3) := by decide +kernel
theorem rL_909 {L : Nat} {xs : Int → Int} {R : zP} {x0 x1 x2 x3 : Option zV} {st : List zV} {M : zM} {a0 a1 a2 : zV} : uL L xs R 909 [x0, x1, x2, x3] (a2 :: a1 :: a0 :: st) M ↔ (st.length ≤ 4 ∧ zcv (zv 7 (znm tX7_first)) [a0, a1, a2] M (fun v M => uL L xs R 912 [x0, x1, x2, x3] (v :: st) M)) := Iff.trans (zU_step dL_909 (Or.inl rfl)) ⟨fun h => ⟨h.2.1, zcv_of h.2.2⟩, fun h => ⟨rfl, h.1, zcv_to h.2⟩⟩
theorem dL_912 : decode code 912 = .ok (.aload_n 2, 1) := by decide +kernel
theorem rL_912 {L : Nat} {xs : Int → Int} {R : zP} {x0 x1 x3 : Option zV} {st : List zV} {M : zM} {a : Nat} : uL L xs R 912 [x0, x1, some (.inr (.inr a)), x3] st M ↔ uL L xs R 913 [x0, x1, some (.inr (.inr a)), x3] (.inr (.inr a) :: st) M := zU_step dL_912 (Or.inl rfl)
theorem dL_913 : decode code 913 = .ok (.aload_n 0, 1) := by decide +kernel
theorem rL_913 {L : Nat} {xs : Int → Int} {R : zP} {x1 x2 x3 : Option zV} {st : List zV} {M : zM} {a : Nat} : uL L xs R 913 [some (.inr (.inr a)), x1, x2, x3] st M ↔ uL L xs R 914 [some (.inr (.inr a)), x1, x2, x3] (.inr (.inr a) :: st) M := zU_step dL_913 (Or.inl rfl)
theorem dL_914 : decode code 914 = .ok (.iload_n 3, 1) := by decide +kernel
theorem rL_914 {L : Nat} {xs : Int → Int} {R : zP} {x0 x1 x2 : Option zV} {st : List zV} {M : zM} {a : Int} : uL L xs R 914 [x0, x1, x2, some (.inl a)] st M ↔ uL L xs R 915 [x0, x1, x2, some (.inl a)] (.inl a :: st) M := zU_step dL_914 (Or.inl rfl)
theorem dL_915 : decode code 915 = .ok (.iconst 1, 1) := by decide +kernel
theorem rL_915 {L : Nat} {xs : Int → Int} {R : zP} {x0 x1 x2 x3 : Option zV} {st : List zV} {M : zM} : uL L xs R 915 [x0, x1, x2, x3] st M ↔ uL L xs R 916 [x0, x1, x2, x3] (.inl (1) :: st) M := zU_step dL_915 (Or.inl rfl)
theorem dL_916 : decode code 916 = .ok (.iadd, 1) := by decide +kernel
theorem rL_916 {L : Nat} {xs : Int → Int} {R : zP} {x0 x1 x2 x3 : Option zV} {st : List zV} {M : zM} {a b : Int} : uL L xs R 916 [x0, x1, x2, x3] (.inl b :: .inl a :: st) M ↔ uL L xs R 917 [x0, x1, x2, x3] (.inl (a + b) :: st) M := zU_step dL_916 (Or.inl rfl)
theorem dL_917 : decode code 917 = .ok (.iaload, 1) := by decide +kernel
theorem rL_917 {L : Nat} {xs : Int → Int} {R : zP} {x0 x1 x2 x3 : Option zV} {st : List zV} {M : zM} {i : Int} {r : Nat} : uL L xs R 917 [x0, x1, x2, x3] (.inl i :: .inr (.inr r) :: st) M ↔ zread (fL L xs) 0 r M i (fun v => uL L xs R 918 [x0, x1, x2, x3] (.inl v :: st) M) := zU_step dL_917 (Or.inl rfl)
theorem dL_918 : decode code 918 = .ok (.aload_n 0, 1) := by decide +kernel
theorem rL_918 {L : Nat} {xs : Int → Int} {R : zP} {x1 x2 x3 : Option zV} {st : List zV} {M : zM} {a : Nat} : uL L xs R 918 [some (.inr (.inr a)), x1, x2, x3] st M ↔ uL L xs R 919 [some (.inr (.inr a)), x1, x2, x3] (.inr (.inr a) :: st) M := zU_step dL_918 (Or.inl rfl)
theorem dL_919 : decode code 919 = .ok (.iload_n 3, 1) := by decide +kernel
theorem rL_919 {L : Nat} {xs : Int → Int} {R : zP} {x0 x1 x2 : Option zV} {st : List zV} {M : zM} {a : Int} : uL L xs R 919 [x0, x1, x2, some (.inl a)] st M ↔ uL L xs R 920 [x0, x1, x2, some (.inl a)] (.inl a :: st) M := zU_step dL_919 (Or.inl rfl)
theorem dL_920 : decode code 920 = .ok (.iconst 2, 1) := by decide +kernel
theorem rL_920 {L : Nat} {xs : Int → Int} {R : zP} {x0 x1 x2 x3 : Option zV} {st : List zV} {M : zM} : uL L xs R 920 [x0, x1, x2, x3] st M ↔ uL L xs R 921 [x0, x1, x2, x3] (.inl (2) :: st) M := zU_step dL_920 (Or.inl rfl)
theorem dL_921 : decode code 921 = .ok (.iadd, 1) := by decide +kernel
theorem rL_921 {L : Nat} {xs : Int → Int} {R : zP} {x0 x1 x2 x3 : Option zV} {st : List zV} {M : zM} {a b : Int} : uL L xs R 921 [x0, x1, x2, x3] (.inl b :: .inl a :: st) M ↔ uL L xs R 922 [x0, x1, x2, x3] (.inl (a + b) :: st) M := zU_step dL_921 (Or.inl rfl)
theorem dL_922 : decode code 922 = .ok (.iaload, 1) := by decide +kernel
theorem rL_922 {L : Nat} {xs : Int → Int} {R : zP} {x0 x1 x2 x3 : Option zV} {st : List zV} {M : zM} {i : Int} {r : Nat} : uL L xs R 922 [x0, x1, x2, x3] (.inl i :: .inr (.inr r) :: st) M ↔ zread (fL L xs) 0 r M i (fun v => uL L xs R 923 [x0, x1, x2, x3] (.inl v :: st) M) := zU_step dL_922 (Or.inl rfl)
theorem dL_923 : decode code 923 = .ok (.invokevirtual 114, 3) := by decide +kernel
theorem rL_923 {L : Nat} {xs : Int → Int} {R : zP} {x0 x1 x2 x3 : Option zV} {st : List zV} {M : zM} {a0 a1 a2 : zV} : uL L xs R 923 [x0, x1, x2, x3] (a2 :: a1 :: a0 :: st) M ↔ (st.length ≤ 4 ∧ zcv (zv 8 (znm tX8_first)) [a0, a1, a2] M (fun v M => uL L xs R 926 [x0, x1, x2, x3] (v :: st) M)) := Iff.trans (zU_step dL_923 (Or.inl rfl)) ⟨fun h => ⟨h.2.1, zcv_of h.2.2⟩, fun h => ⟨rfl, h.1, zcv_to h.2⟩⟩
theorem dL_926 : decode code 926 = .ok (.if_icmp .eq 440, 3) := by decide +kernel
theorem rL_926 {L : Nat} {xs : Int → Int} {R : zP} {x0 x1 x2 x3 : Option zV} {st : List zV} {M : zM} {a b : Int} : uL L xs R 926 [x0, x1, x2, x3] (.inl b :: .inl a :: st) M ↔ ((zIR a ∧ zIR b) ∧ if a = b then uL L xs R 1366 [x0, x1, x2, x3] st M else uL L xs R 929 [x0, x1, x2, x3] st M) := Iff.trans (zU_step dL_926 (Or.inl rfl)) ⟨fun h => ⟨⟨h.1.1, h.1.2.1⟩, (zite (c := a = b)).mpr h.2⟩, fun h => ⟨⟨h.1.1, h.1.2, by decide⟩, (zite (c := a = b)).mp h.2⟩⟩
theorem dL_929 : decode code 929 = .ok (.iconst 0, 1) := by decide +kernel
theorem rL_929 {L : Nat} {xs : Int → Int} {R : zP} {x0 x1 x2 x3 : Option zV} {st : List zV} {M : zM} : uL L xs R 929 [x0, x1, x2, x3] st M ↔ uL L xs R 930 [x0, x1, x2, x3] (.inl (0) :: st) M := zU_step dL_929 (Or.inl rfl)
theorem dL_930 : decode code 930 = .ok (.ireturn, 1) := by decide +kernel
theorem rL_930 {L : Nat} {xs : Int → Int} {R : zP} {x0 x1 x2 x3 : Option zV} {M : zM} {a : Int} : uL L xs R 930 [x0, x1, x2, x3] [.inl a] M ↔ ((a = 0 ∨ a = 1) ∧ R (some (.inl a)) M) := Iff.trans (zU_step dL_930 (Or.inl rfl)) ⟨fun h => ⟨zret2 rfl h.2.1, h.2.2⟩, fun h => ⟨rfl, Or.inr (Or.inl ⟨rfl, h.1⟩), h.2⟩⟩
theorem dL_931 : decode code 931 = .ok (.aload_n 1, 1) := by decide +kernel
theorem rL_931 {L : Nat} {xs : Int → Int} {R : zP} {x0 x2 x3 : Option zV} {st : List zV} {M : zM} {a : Nat} : uL L xs R 931 [x0, some (.inr (.inr a)), x2, x3] st M ↔ uL L xs R 932 [x0, some (.inr (.inr a)), x2, x3] (.inr (.inr a) :: st) M := zU_step dL_931 (Or.inl rfl)
theorem dL_932 : decode code 932 = .ok (.aload_n 0, 1) := by decide +kernel
theorem rL_932 {L : Nat} {xs : Int → Int} {R : zP} {x1 x2 x3 : Option zV} {st : List zV} {M : zM} {a : Nat} : uL L xs R 932 [some (.inr (.inr a)), x1, x2, x3] st M ↔ uL L xs R 933 [some (.inr (.inr a)), x1, x2, x3] (.inr (.inr a) :: st) M := zU_step dL_932 (Or.inl rfl)
theorem dL_933 : decode code 933 = .ok (.iload_n 3, 1) := by decide +kernel
theorem rL_933 {L : Nat} {xs : Int → Int} {R : zP} {x0 x1 x2 : Option zV} {st : List zV} {M : zM} {a : Int} : uL L xs R 933 [x0, x1, x2, some (.inl a)] st M ↔ uL L xs R 934 [x0, x1, x2, some (.inl a)] (.inl a :: st) M := zU_step dL_933 (Or.inl rfl)
theorem dL_934 : decode code 934 = .ok (.iconst 1, 1) := by decide +kernel
theorem rL_934 {L : Nat} {xs : Int → Int} {R : zP} {x0 x1 x2 x3 : Option zV} {st : List zV} {M : zM} : uL L xs R 934 [x0, x1, x2, x3] st M ↔ uL L xs R 935 [x0, x1, x2, x3] (.inl (1) :: st) M := zU_step dL_934 (Or.inl rfl)
theorem dL_935 : decode code 935 = .ok (.iadd, 1) := by decide +kernel
theorem rL_935 {L : Nat} {xs : Int → Int} {R : zP} {x0 x1 x2 x3 : Option zV} {st : List zV} {M : zM} {a b : Int} : uL L xs R 935 [x0, x1, x2, x3] (.inl b :: .inl a :: st) M ↔ uL L xs R 936 [x0, x1, x2, x3] (.inl (a + b) :: st) M := zU_step dL_935 (Or.inl rfl)
theorem dL_936 : decode code 936 = .ok (.iaload, 1) := by decide +kernel
theorem rL_936 {L : Nat} {xs : Int → Int} {R : zP} {x0 x1 x2 x3 : Option zV} {st : List zV} {M : zM} {i : Int} {r : Nat} : uL L xs R 936 [x0, x1, x2, x3] (.inl i :: .inr (.inr r) :: st) M ↔ zread (fL L xs) 0 r M i (fun v => uL L xs R 937 [x0, x1, x2, x3] (.inl v :: st) M) := zU_step dL_936 (Or.inl rfl)
theorem dL_937 : decode code 937 = .ok (.aload_n 0, 1) := by decide +kernel
theorem rL_937 {L : Nat} {xs : Int → Int} {R : zP} {x1 x2 x3 : Option zV} {st : List zV} {M : zM} {a : Nat} : uL L xs R 937 [some (.inr (.inr a)), x1, x2, x3] st M ↔ uL L xs R 938 [some (.inr (.inr a)), x1, x2, x3] (.inr (.inr a) :: st) M := zU_step dL_937 (Or.inl rfl)
theorem dL_938 : decode code 938 = .ok (.iload_n 3, 1) := by decide +kernel
theorem rL_938 {L : Nat} {xs : Int → Int} {R : zP} {x0 x1 x2 : Option zV} {st : List zV} {M : zM} {a : Int} : uL L xs R 938 [x0, x1, x2, some (.inl a)] st M ↔ uL L xs R 939 [x0, x1, x2, some (.inl a)] (.inl a :: st) M := zU_step dL_938 (Or.inl rfl)
theorem dL_939 : decode code 939 = .ok (.iconst 2, 1) := by decide +kernel
theorem rL_939 {L : Nat} {xs : Int → Int} {R : zP} {x0 x1 x2 x3 : Option zV} {st : List zV} {M : zM} : uL L xs R 939 [x0, x1, x2, x3] st M ↔ uL L xs R 940 [x0, x1, x2, x3] (.inl (2) :: st) M := zU_step dL_939 (Or.inl rfl)
theorem dL_940 : decode code 940 = .ok (.iadd, 1) := by decide +kernel
theorem rL_940 {L : Nat} {xs : Int → Int} {R : zP} {x0 x1 x2 x3 : Option zV} {st : List zV} {M : zM} {a b : Int} : uL L xs R 940 [x0, x1, x2, x3] (.inl b :: .inl a :: st) M ↔ uL L xs R 941 [x0, x1, x2, x3] (.inl (a + b) :: st) M := zU_step dL_940 (Or.inl rfl)
theorem dL_941 : decode code 941 = .ok (.iaload, 1) := by decide +kernel
theorem rL_941 {L : Nat} {xs : Int → Int} {R : zP} {x0 x1 x2 x3 : Option zV} {st : List zV} {M : zM} {i : Int} {r : Nat} : uL L xs R 941 [x0, x1, x2, x3] (.inl i :: .inr (.inr r) :: st) M ↔ zread (fL L xs) 0 r M i (fun v => uL L xs R 942 [x0, x1, x2, x3] (.inl v :: st) M) := zU_step dL_941 (Or.inl rfl)
theorem dL_942 : decode code 942 = .ok (.invokevirtual 115, 3) := by decide +kernel
theorem rL_942 {L : Nat} {xs : Int → Int} {R : zP} {x0 x1 x2 x3 : Option zV} {st : List zV} {M : zM} {a0 a1 a2 : zV} : uL L xs R 942 [x0, x1, x2, x3] (a2 :: a1 :: a0 :: st) M ↔ (st.length ≤ 4 ∧ zcv (zv 7 (znm tX7_ask)) [a0, a1, a2] M (fun v M => uL L xs R 945 [x0, x1, x2, x3] (v :: st) M)) := Iff.trans (zU_step dL_942 (Or.inl rfl)) ⟨fun h => ⟨h.2.1, zcv_of h.2.2⟩, fun h => ⟨rfl, h.1, zcv_to h.2⟩⟩
theorem dL_945 : decode code 945 = .ok (.aload_n 2, 1) := by decide +kernel
theorem rL_945 {L : Nat} {xs : Int → Int} {R : zP} {x0 x1 x3 : Option zV} {st : List zV} {M : zM} {a : Nat} : uL L xs R 945 [x0, x1, some (.inr (.inr a)), x3] st M ↔ uL L xs R 946 [x0, x1, some (.inr (.inr a)), x3] (.inr (.inr a) :: st) M := zU_step dL_945 (Or.inl rfl)
theorem dL_946 : decode code 946 = .ok (.aload_n 0, 1) := by decide +kernel
theorem rL_946 {L : Nat} {xs : Int → Int} {R : zP} {x1 x2 x3 : Option zV} {st : List zV} {M : zM} {a : Nat} : uL L xs R 946 [some (.inr (.inr a)), x1, x2, x3] st M ↔ uL L xs R 947 [some (.inr (.inr a)), x1, x2, x3] (.inr (.inr a) :: st) M := zU_step dL_946 (Or.inl rfl)
theorem dL_947 : decode code 947 = .ok (.iload_n 3, 1) := by decide +kernel
theorem rL_947 {L : Nat} {xs : Int → Int} {R : zP} {x0 x1 x2 : Option zV} {st : List zV} {M : zM} {a : Int} : uL L xs R 947 [x0, x1, x2, some (.inl a)] st M ↔ uL L xs R 948 [x0, x1, x2, some (.inl a)] (.inl a :: st) M := zU_step dL_947 (Or.inl rfl)
theorem dL_948 : decode code 948 = .ok (.iconst 1, 1) := by decide +kernel
theorem rL_948 {L : Nat} {xs : Int → Int} {R : zP} {x0 x1 x2 x3 : Option zV} {st : List zV} {M : zM} : uL L xs R 948 [x0, x1, x2, x3] st M ↔ uL L xs R 949 [x0, x1, x2, x3] (.inl (1) :: st) M := zU_step dL_948 (Or.inl rfl)
theorem dL_949 : decode code 949 = .ok (.iadd, 1) := by decide +kernel
theorem rL_949 {L : Nat} {xs : Int → Int} {R : zP} {x0 x1 x2 x3 : Option zV} {st : List zV} {M : zM} {a b : Int} : uL L xs R 949 [x0, x1, x2, x3] (.inl b :: .inl a :: st) M ↔ uL L xs R 950 [x0, x1, x2, x3] (.inl (a + b) :: st) M := zU_step dL_949 (Or.inl rfl)
theorem dL_950 : decode code 950 = .ok (.iaload, 1) := by decide +kernel
theorem rL_950 {L : Nat} {xs : Int → Int} {R : zP} {x0 x1 x2 x3 : Option zV} {st : List zV} {M : zM} {i : Int} {r : Nat} : uL L xs R 950 [x0, x1, x2, x3] (.inl i :: .inr (.inr r) :: st) M ↔ zread (fL L xs) 0 r M i (fun v => uL L xs R 951 [x0, x1, x2, x3] (.inl v :: st) M) := zU_step dL_950 (Or.inl rfl)
theorem dL_951 : decode code 951 = .ok (.aload_n 0, 1) := by decide +kernel
theorem rL_951 {L : Nat} {xs : Int → Int} {R : zP} {x1 x2 x3 : Option zV} {st : List zV} {M : zM} {a : Nat} : uL L xs R 951 [some (.inr (.inr a)), x1, x2, x3] st M ↔ uL L xs R 952 [some (.inr (.inr a)), x1, x2, x3] (.inr (.inr a) :: st) M := zU_step dL_951 (Or.inl rfl)
theorem dL_952 : decode code 952 = .ok (.iload_n 3, 1) := by decide +kernel
theorem rL_952 {L : Nat} {xs : Int → Int} {R : zP} {x0 x1 x2 : Option zV} {st : List zV} {M : zM} {a : Int} : uL L xs R 952 [x0, x1, x2, some (.inl a)] st M ↔ uL L xs R 953 [x0, x1, x2, some (.inl a)] (.inl a :: st) M := zU_step dL_952 (Or.inl rfl)
theorem dL_953 : decode code 953 = .ok (.iconst 2, 1) := by decide +kernel
theorem rL_953 {L : Nat} {xs : Int → Int} {R : zP} {x0 x1 x2 x3 : Option zV} {st : List zV} {M : zM} : uL L xs R 953 [x0, x1, x2, x3] st M ↔ uL L xs R 954 [x0, x1, x2, x3] (.inl (2) :: st) M := zU_step dL_953 (Or.inl rfl)
theorem dL_954 : decode code 954 = .ok (.iadd, 1) := by decide +kernel
theorem rL_954 {L : Nat} {xs : Int → Int} {R : zP} {x0 x1 x2 x3 : Option zV} {st : List zV} {M : zM} {a b : Int} : uL L xs R 954 [x0, x1, x2, x3] (.inl b :: .inl a :: st) M ↔ uL L xs R 955 [x0, x1, x2, x3] (.inl (a + b) :: st) M := zU_step dL_954 (Or.inl rfl)
theorem dL_955 : decode code 955 = .ok (.iaload, 1) := by decide +kernel
theorem rL_955 {L : Nat} {xs : Int → Int} {R : zP} {x0 x1 x2 x3 : Option zV} {st : List zV} {M : zM} {i : Int} {r : Nat} : uL L xs R 955 [x0, x1, x2, x3] (.inl i :: .inr (.inr r) :: st) M ↔ zread (fL L xs) 0 r M i (fun v => uL L xs R 956 [x0, x1, x2, x3] (.inl v :: st) M) := zU_step dL_955 (Or.inl rfl)
theorem dL_956 : decode code 956 = .ok (.invokevirtual 118, 3) := by decide +kernel
theorem rL_956 {L : Nat} {xs : Int → Int} {R : zP} {x0 x1 x2 x3 : Option zV} {st : List zV} {M : zM} {a0 a1 a2 : zV} : uL L xs R 956 [x0, x1, x2, x3] (a2 :: a1 :: a0 :: st) M ↔ (st.length ≤ 4 ∧ zcv (zv 8 (znm tX8_ask)) [a0, a1, a2] M (fun v M => uL L xs R 959 [x0, x1, x2, x3] (v :: st) M)) := Iff.trans (zU_step dL_956 (Or.inl rfl)) ⟨fun h => ⟨h.2.1, zcv_of h.2.2⟩, fun h => ⟨rfl, h.1, zcv_to h.2⟩⟩
theorem dL_959 : decode code 959 = .ok (.if_icmp .eq 407, 3) := by decide +kernel
theorem rL_959 {L : Nat} {xs : Int → Int} {R : zP} {x0 x1 x2 x3 : Option zV} {st : List zV} {M : zM} {a b : Int} : uL L xs R 959 [x0, x1, x2, x3] (.inl b :: .inl a :: st) M ↔ ((zIR a ∧ zIR b) ∧ if a = b then uL L xs R 1366 [x0, x1, x2, x3] st M else uL L xs R 962 [x0, x1, x2, x3] st M) := Iff.trans (zU_step dL_959 (Or.inl rfl)) ⟨fun h => ⟨⟨h.1.1, h.1.2.1⟩, (zite (c := a = b)).mpr h.2⟩, fun h => ⟨⟨h.1.1, h.1.2, by decide⟩, (zite (c := a = b)).mp h.2⟩⟩
theorem dL_962 : decode code 962 = .ok (.iconst 0, 1) := by decide +kernel
theorem rL_962 {L : Nat} {xs : Int → Int} {R : zP} {x0 x1 x2 x3 : Option zV} {st : List zV} {M : zM} : uL L xs R 962 [x0, x1, x2, x3] st M ↔ uL L xs R 963 [x0, x1, x2, x3] (.inl (0) :: st) M := zU_step dL_962 (Or.inl rfl)
theorem dL_963 : decode code 963 = .ok (.ireturn, 1) := by decide +kernel
theorem rL_963 {L : Nat} {xs : Int → Int} {R : zP} {x0 x1 x2 x3 : Option zV} {M : zM} {a : Int} : uL L xs R 963 [x0, x1, x2, x3] [.inl a] M ↔ ((a = 0 ∨ a = 1) ∧ R (some (.inl a)) M) := Iff.trans (zU_step dL_963 (Or.inl rfl)) ⟨fun h => ⟨zret2 rfl h.2.1, h.2.2⟩, fun h => ⟨rfl, Or.inr (Or.inl ⟨rfl, h.1⟩), h.2⟩⟩
theorem dL_964 : decode code 964 = .ok (.aload_n 1, 1) := by decide +kernel
theorem rL_964 {L : Nat} {xs : Int → Int} {R : zP} {x0 x2 x3 : Option zV} {st : List zV} {M : zM} {a : Nat} : uL L xs R 964 [x0, some (.inr (.inr a)), x2, x3] st M ↔ uL L xs R 965 [x0, some (.inr (.inr a)), x2, x3] (.inr (.inr a) :: st) M := zU_step dL_964 (Or.inl rfl)
theorem dL_965 : decode code 965 = .ok (.aload_n 0, 1) := by decide +kernel
theorem rL_965 {L : Nat} {xs : Int → Int} {R : zP} {x1 x2 x3 : Option zV} {st : List zV} {M : zM} {a : Nat} : uL L xs R 965 [some (.inr (.inr a)), x1, x2, x3] st M ↔ uL L xs R 966 [some (.inr (.inr a)), x1, x2, x3] (.inr (.inr a) :: st) M := zU_step dL_965 (Or.inl rfl)
theorem dL_966 : decode code 966 = .ok (.iload_n 3, 1) := by decide +kernel
theorem rL_966 {L : Nat} {xs : Int → Int} {R : zP} {x0 x1 x2 : Option zV} {st : List zV} {M : zM} {a : Int} : uL L xs R 966 [x0, x1, x2, some (.inl a)] st M ↔ uL L xs R 967 [x0, x1, x2, some (.inl a)] (.inl a :: st) M := zU_step dL_966 (Or.inl rfl)
theorem dL_967 : decode code 967 = .ok (.iconst 1, 1) := by decide +kernel
theorem rL_967 {L : Nat} {xs : Int → Int} {R : zP} {x0 x1 x2 x3 : Option zV} {st : List zV} {M : zM} : uL L xs R 967 [x0, x1, x2, x3] st M ↔ uL L xs R 968 [x0, x1, x2, x3] (.inl (1) :: st) M := zU_step dL_967 (Or.inl rfl)
theorem dL_968 : decode code 968 = .ok (.iadd, 1) := by decide +kernel
theorem rL_968 {L : Nat} {xs : Int → Int} {R : zP} {x0 x1 x2 x3 : Option zV} {st : List zV} {M : zM} {a b : Int} : uL L xs R 968 [x0, x1, x2, x3] (.inl b :: .inl a :: st) M ↔ uL L xs R 969 [x0, x1, x2, x3] (.inl (a + b) :: st) M := zU_step dL_968 (Or.inl rfl)
theorem dL_969 : decode code 969 = .ok (.iaload, 1) := by decide +kernel
theorem rL_969 {L : Nat} {xs : Int → Int} {R : zP} {x0 x1 x2 x3 : Option zV} {st : List zV} {M : zM} {i : Int} {r : Nat} : uL L xs R 969 [x0, x1, x2, x3] (.inl i :: .inr (.inr r) :: st) M ↔ zread (fL L xs) 0 r M i (fun v => uL L xs R 970 [x0, x1, x2, x3] (.inl v :: st) M) := zU_step dL_969 (Or.inl rfl)
theorem dL_970 : decode code 970 = .ok (.aload_n 0, 1) := by decide +kernel
theorem rL_970 {L : Nat} {xs : Int → Int} {R : zP} {x1 x2 x3 : Option zV} {st : List zV} {M : zM} {a : Nat} : uL L xs R 970 [some (.inr (.inr a)), x1, x2, x3] st M ↔ uL L xs R 971 [some (.inr (.inr a)), x1, x2, x3] (.inr (.inr a) :: st) M := zU_step dL_970 (Or.inl rfl)
theorem dL_971 : decode code 971 = .ok (.iload_n 3, 1) := by decide +kernel
theorem rL_971 {L : Nat} {xs : Int → Int} {R : zP} {x0 x1 x2 : Option zV} {st : List zV} {M : zM} {a : Int} : uL L xs R 971 [x0, x1, x2, some (.inl a)] st M ↔ uL L xs R 972 [x0, x1, x2, some (.inl a)] (.inl a :: st) M := zU_step dL_971 (Or.inl rfl)
theorem dL_972 : decode code 972 = .ok (.iconst 2, 1) := by decide +kernel
theorem rL_972 {L : Nat} {xs : Int → Int} {R : zP} {x0 x1 x2 x3 : Option zV} {st : List zV} {M : zM} : uL L xs R 972 [x0, x1, x2, x3] st M ↔ uL L xs R 973 [x0, x1, x2, x3] (.inl (2) :: st) M := zU_step dL_972 (Or.inl rfl)
theorem dL_973 : decode code 973 = .ok (.iadd, 1) := by decide +kernel
theorem rL_973 {L : Nat} {xs : Int → Int} {R : zP} {x0 x1 x2 x3 : Option zV} {st : List zV} {M : zM} {a b : Int} : uL L xs R 973 [x0, x1, x2, x3] (.inl b :: .inl a :: st) M ↔ uL L xs R 974 [x0, x1, x2, x3] (.inl (a + b) :: st) M := zU_step dL_973 (Or.inl rfl)
theorem dL_974 : decode code 974 = .ok (.iaload, 1) := by decide +kernel
theorem rL_974 {L : Nat} {xs : Int → Int} {R : zP} {x0 x1 x2 x3 : Option zV} {st : List zV} {M : zM} {i : Int} {r : Nat} : uL L xs R 974 [x0, x1, x2, x3] (.inl i :: .inr (.inr r) :: st) M ↔ zread (fL L xs) 0 r M i (fun v => uL L xs R 975 [x0, x1, x2, x3] (.inl v :: st) M) := zU_step dL_974 (Or.inl rfl)
theorem dL_975 : decode code 975 = .ok (.aload_n 0, 1) := by decide +kernel
theorem rL_975 {L : Nat} {xs : Int → Int} {R : zP} {x1 x2 x3 : Option zV} {st : List zV} {M : zM} {a : Nat} : uL L xs R 975 [some (.inr (.inr a)), x1, x2, x3] st M ↔ uL L xs R 976 [some (.inr (.inr a)), x1, x2, x3] (.inr (.inr a) :: st) M := zU_step dL_975 (Or.inl rfl)
theorem dL_976 : decode code 976 = .ok (.iload_n 3, 1) := by decide +kernel
theorem rL_976 {L : Nat} {xs : Int → Int} {R : zP} {x0 x1 x2 : Option zV} {st : List zV} {M : zM} {a : Int} : uL L xs R 976 [x0, x1, x2, some (.inl a)] st M ↔ uL L xs R 977 [x0, x1, x2, some (.inl a)] (.inl a :: st) M := zU_step dL_976 (Or.inl rfl)
theorem dL_977 : decode code 977 = .ok (.iconst 3, 1) := by decide +kernel
theorem rL_977 {L : Nat} {xs : Int → Int} {R : zP} {x0 x1 x2 x3 : Option zV} {st : List zV} {M : zM} : uL L xs R 977 [x0, x1, x2, x3] st M ↔ uL L xs R 978 [x0, x1, x2, x3] (.inl (3) :: st) M := zU_step dL_977 (Or.inl rfl)
theorem dL_978 : decode code 978 = .ok (.iadd, 1) := by decide +kernel
theorem rL_978 {L : Nat} {xs : Int → Int} {R : zP} {x0 x1 x2 x3 : Option zV} {st : List zV} {M : zM} {a b : Int} : uL L xs R 978 [x0, x1, x2, x3] (.inl b :: .inl a :: st) M ↔ uL L xs R 979 [x0, x1, x2, x3] (.inl (a + b) :: st) M := zU_step dL_978 (Or.inl rfl)
theorem dL_979 : decode code 979 = .ok (.iaload, 1) := by decide +kernel
theorem rL_979 {L : Nat} {xs : Int → Int} {R : zP} {x0 x1 x2 x3 : Option zV} {st : List zV} {M : zM} {i : Int} {r : Nat} : uL L xs R 979 [x0, x1, x2, x3] (.inl i :: .inr (.inr r) :: st) M ↔ zread (fL L xs) 0 r M i (fun v => uL L xs R 980 [x0, x1, x2, x3] (.inl v :: st) M) := zU_step dL_979 (Or.inl rfl)
theorem dL_980 : decode code 980 = .ok (.aload_n 0, 1) := by decide +kernel
theorem rL_980 {L : Nat} {xs : Int → Int} {R : zP} {x1 x2 x3 : Option zV} {st : List zV} {M : zM} {a : Nat} : uL L xs R 980 [some (.inr (.inr a)), x1, x2, x3] st M ↔ uL L xs R 981 [some (.inr (.inr a)), x1, x2, x3] (.inr (.inr a) :: st) M := zU_step dL_980 (Or.inl rfl)
theorem dL_981 : decode code 981 = .ok (.iload_n 3, 1) := by decide +kernel
theorem rL_981 {L : Nat} {xs : Int → Int} {R : zP} {x0 x1 x2 : Option zV} {st : List zV} {M : zM} {a : Int} : uL L xs R 981 [x0, x1, x2, some (.inl a)] st M ↔ uL L xs R 982 [x0, x1, x2, some (.inl a)] (.inl a :: st) M := zU_step dL_981 (Or.inl rfl)
theorem dL_982 : decode code 982 = .ok (.iconst 4, 1) := by decide +kernel
theorem rL_982 {L : Nat} {xs : Int → Int} {R : zP} {x0 x1 x2 x3 : Option zV} {st : List zV} {M : zM} : uL L xs R 982 [x0, x1, x2, x3] st M ↔ uL L xs R 983 [x0, x1, x2, x3] (.inl (4) :: st) M := zU_step dL_982 (Or.inl rfl)
theorem dL_983 : decode code 983 = .ok (.iadd, 1) := by decide +kernel
theorem rL_983 {L : Nat} {xs : Int → Int} {R : zP} {x0 x1 x2 x3 : Option zV} {st : List zV} {M : zM} {a b : Int} : uL L xs R 983 [x0, x1, x2, x3] (.inl b :: .inl a :: st) M ↔ uL L xs R 984 [x0, x1, x2, x3] (.inl (a + b) :: st) M := zU_step dL_983 (Or.inl rfl)
theorem dL_984 : decode code 984 = .ok (.iaload, 1) := by decide +kernel
theorem rL_984 {L : Nat} {xs : Int → Int} {R : zP} {x0 x1 x2 x3 : Option zV} {st : List zV} {M : zM} {i : Int} {r : Nat} : uL L xs R 984 [x0, x1, x2, x3] (.inl i :: .inr (.inr r) :: st) M ↔ zread (fL L xs) 0 r M i (fun v => uL L xs R 985 [x0, x1, x2, x3] (.inl v :: st) M) := zU_step dL_984 (Or.inl rfl)
theorem dL_985 : decode code 985 = .ok (.invokevirtual 119, 3) := by decide +kernel
theorem rL_985 {L : Nat} {xs : Int → Int} {R : zP} {x0 x1 x2 x3 : Option zV} {st : List zV} {M : zM} {a0 a1 a2 a3 a4 : zV} : uL L xs R 985 [x0, x1, x2, x3] (a4 :: a3 :: a2 :: a1 :: a0 :: st) M ↔ (st.length ≤ 4 ∧ zcv (zv 7 (znm tX7_cream)) [a0, a1, a2, a3, a4] M (fun v M => uL L xs R 988 [x0, x1, x2, x3] (v :: st) M)) := Iff.trans (zU_step dL_985 (Or.inl rfl)) ⟨fun h => ⟨h.2.1, zcv_of h.2.2⟩, fun h => ⟨rfl, h.1, zcv_to h.2⟩⟩
theorem dL_988 : decode code 988 = .ok (.aload_n 2, 1) := by decide +kernel
theorem rL_988 {L : Nat} {xs : Int → Int} {R : zP} {x0 x1 x3 : Option zV} {st : List zV} {M : zM} {a : Nat} : uL L xs R 988 [x0, x1, some (.inr (.inr a)), x3] st M ↔ uL L xs R 989 [x0, x1, some (.inr (.inr a)), x3] (.inr (.inr a) :: st) M := zU_step dL_988 (Or.inl rfl)
theorem dL_989 : decode code 989 = .ok (.aload_n 0, 1) := by decide +kernel
theorem rL_989 {L : Nat} {xs : Int → Int} {R : zP} {x1 x2 x3 : Option zV} {st : List zV} {M : zM} {a : Nat} : uL L xs R 989 [some (.inr (.inr a)), x1, x2, x3] st M ↔ uL L xs R 990 [some (.inr (.inr a)), x1, x2, x3] (.inr (.inr a) :: st) M := zU_step dL_989 (Or.inl rfl)
theorem dL_990 : decode code 990 = .ok (.iload_n 3, 1) := by decide +kernel
theorem rL_990 {L : Nat} {xs : Int → Int} {R : zP} {x0 x1 x2 : Option zV} {st : List zV} {M : zM} {a : Int} : uL L xs R 990 [x0, x1, x2, some (.inl a)] st M ↔ uL L xs R 991 [x0, x1, x2, some (.inl a)] (.inl a :: st) M := zU_step dL_990 (Or.inl rfl)
theorem dL_991 : decode code 991 = .ok (.iconst 1, 1) := by decide +kernel
theorem rL_991 {L : Nat} {xs : Int → Int} {R : zP} {x0 x1 x2 x3 : Option zV} {st : List zV} {M : zM} : uL L xs R 991 [x0, x1, x2, x3] st M ↔ uL L xs R 992 [x0, x1, x2, x3] (.inl (1) :: st) M := zU_step dL_991 (Or.inl rfl)
theorem dL_992 : decode code 992 = .ok (.iadd, 1) := by decide +kernel
theorem rL_992 {L : Nat} {xs : Int → Int} {R : zP} {x0 x1 x2 x3 : Option zV} {st : List zV} {M : zM} {a b : Int} : uL L xs R 992 [x0, x1, x2, x3] (.inl b :: .inl a :: st) M ↔ uL L xs R 993 [x0, x1, x2, x3] (.inl (a + b) :: st) M := zU_step dL_992 (Or.inl rfl)
theorem dL_993 : decode code 993 = .ok (.iaload, 1) := by decide +kernel
theorem rL_993 {L : Nat} {xs : Int → Int} {R : zP} {x0 x1 x2 x3 : Option zV} {st : List zV} {M : zM} {i : Int} {r : Nat} : uL L xs R 993 [x0, x1, x2, x3] (.inl i :: .inr (.inr r) :: st) M ↔ zread (fL L xs) 0 r M i (fun v => uL L xs R 994 [x0, x1, x2, x3] (.inl v :: st) M) := zU_step dL_993 (Or.inl rfl)
theorem dL_994 : decode code 994 = .ok (.aload_n 0, 1) := by decide +kernel
theorem rL_994 {L : Nat} {xs : Int → Int} {R : zP} {x1 x2 x3 : Option zV} {st : List zV} {M : zM} {a : Nat} : uL L xs R 994 [some (.inr (.inr a)), x1, x2, x3] st M ↔ uL L xs R 995 [some (.inr (.inr a)), x1, x2, x3] (.inr (.inr a) :: st) M := zU_step dL_994 (Or.inl rfl)
theorem dL_995 : decode code 995 = .ok (.iload_n 3, 1) := by decide +kernel
theorem rL_995 {L : Nat} {xs : Int → Int} {R : zP} {x0 x1 x2 : Option zV} {st : List zV} {M : zM} {a : Int} : uL L xs R 995 [x0, x1, x2, some (.inl a)] st M ↔ uL L xs R 996 [x0, x1, x2, some (.inl a)] (.inl a :: st) M := zU_step dL_995 (Or.inl rfl)
theorem dL_996 : decode code 996 = .ok (.iconst 2, 1) := by decide +kernel
theorem rL_996 {L : Nat} {xs : Int → Int} {R : zP} {x0 x1 x2 x3 : Option zV} {st : List zV} {M : zM} : uL L xs R 996 [x0, x1, x2, x3] st M ↔ uL L xs R 997 [x0, x1, x2, x3] (.inl (2) :: st) M := zU_step dL_996 (Or.inl rfl)
theorem dL_997 : decode code 997 = .ok (.iadd, 1) := by decide +kernel
theorem rL_997 {L : Nat} {xs : Int → Int} {R : zP} {x0 x1 x2 x3 : Option zV} {st : List zV} {M : zM} {a b : Int} : uL L xs R 997 [x0, x1, x2, x3] (.inl b :: .inl a :: st) M ↔ uL L xs R 998 [x0, x1, x2, x3] (.inl (a + b) :: st) M := zU_step dL_997 (Or.inl rfl)
theorem dL_998 : decode code 998 = .ok (.iaload, 1) := by decide +kernel
theorem rL_998 {L : Nat} {xs : Int → Int} {R : zP} {x0 x1 x2 x3 : Option zV} {st : List zV} {M : zM} {i : Int} {r : Nat} : uL L xs R 998 [x0, x1, x2, x3] (.inl i :: .inr (.inr r) :: st) M ↔ zread (fL L xs) 0 r M i (fun v => uL L xs R 999 [x0, x1, x2, x3] (.inl v :: st) M) := zU_step dL_998 (Or.inl rfl)
theorem dL_999 : decode code 999 = .ok (.aload_n 0, 1) := by decide +kernel
theorem rL_999 {L : Nat} {xs : Int → Int} {R : zP} {x1 x2 x3 : Option zV} {st : List zV} {M : zM} {a : Nat} : uL L xs R 999 [some (.inr (.inr a)), x1, x2, x3] st M ↔ uL L xs R 1000 [some (.inr (.inr a)), x1, x2, x3] (.inr (.inr a) :: st) M := zU_step dL_999 (Or.inl rfl)
theorem dL_1000 : decode code 1000 = .ok (.iload_n 3, 1) := by decide +kernel
theorem rL_1000 {L : Nat} {xs : Int → Int} {R : zP} {x0 x1 x2 : Option zV} {st : List zV} {M : zM} {a : Int} : uL L xs R 1000 [x0, x1, x2, some (.inl a)] st M ↔ uL L xs R 1001 [x0, x1, x2, some (.inl a)] (.inl a :: st) M := zU_step dL_1000 (Or.inl rfl)
theorem dL_1001 : decode code 1001 = .ok (.iconst 3, 1) := by decide +kernel
theorem rL_1001 {L : Nat} {xs : Int → Int} {R : zP} {x0 x1 x2 x3 : Option zV} {st : List zV} {M : zM} : uL L xs R 1001 [x0, x1, x2, x3] st M ↔ uL L xs R 1002 [x0, x1, x2, x3] (.inl (3) :: st) M := zU_step dL_1001 (Or.inl rfl)
theorem dL_1002 : decode code 1002 = .ok (.iadd, 1) := by decide +kernel
theorem rL_1002 {L : Nat} {xs : Int → Int} {R : zP} {x0 x1 x2 x3 : Option zV} {st : List zV} {M : zM} {a b : Int} : uL L xs R 1002 [x0, x1, x2, x3] (.inl b :: .inl a :: st) M ↔ uL L xs R 1003 [x0, x1, x2, x3] (.inl (a + b) :: st) M := zU_step dL_1002 (Or.inl rfl)
theorem dL_1003 : decode code 1003 = .ok (.iaload, 1) := by decide +kernel
theorem rL_1003 {L : Nat} {xs : Int → Int} {R : zP} {x0 x1 x2 x3 : Option zV} {st : List zV} {M : zM} {i : Int} {r : Nat} : uL L xs R 1003 [x0, x1, x2, x3] (.inl i :: .inr (.inr r) :: st) M ↔ zread (fL L xs) 0 r M i (fun v => uL L xs R 1004 [x0, x1, x2, x3] (.inl v :: st) M) := zU_step dL_1003 (Or.inl rfl)
theorem dL_1004 : decode code 1004 = .ok (.aload_n 0, 1) := by decide +kernel
theorem rL_1004 {L : Nat} {xs : Int → Int} {R : zP} {x1 x2 x3 : Option zV} {st : List zV} {M : zM} {a : Nat} : uL L xs R 1004 [some (.inr (.inr a)), x1, x2, x3] st M ↔ uL L xs R 1005 [some (.inr (.inr a)), x1, x2, x3] (.inr (.inr a) :: st) M := zU_step dL_1004 (Or.inl rfl)
theorem dL_1005 : decode code 1005 = .ok (.iload_n 3, 1) := by decide +kernel
theorem rL_1005 {L : Nat} {xs : Int → Int} {R : zP} {x0 x1 x2 : Option zV} {st : List zV} {M : zM} {a : Int} : uL L xs R 1005 [x0, x1, x2, some (.inl a)] st M ↔ uL L xs R 1006 [x0, x1, x2, some (.inl a)] (.inl a :: st) M := zU_step dL_1005 (Or.inl rfl)
theorem dL_1006 : decode code 1006 = .ok (.iconst 4, 1) := by decide +kernel
theorem rL_1006 {L : Nat} {xs : Int → Int} {R : zP} {x0 x1 x2 x3 : Option zV} {st : List zV} {M : zM} : uL L xs R 1006 [x0, x1, x2, x3] st M ↔ uL L xs R 1007 [x0, x1, x2, x3] (.inl (4) :: st) M := zU_step dL_1006 (Or.inl rfl)
theorem dL_1007 : decode code 1007 = .ok (.iadd, 1) := by decide +kernel
theorem rL_1007 {L : Nat} {xs : Int → Int} {R : zP} {x0 x1 x2 x3 : Option zV} {st : List zV} {M : zM} {a b : Int} : uL L xs R 1007 [x0, x1, x2, x3] (.inl b :: .inl a :: st) M ↔ uL L xs R 1008 [x0, x1, x2, x3] (.inl (a + b) :: st) M := zU_step dL_1007 (Or.inl rfl)
theorem dL_1008 : decode code 1008 = .ok (.iaload, 1) := by decide +kernel
theorem rL_1008 {L : Nat} {xs : Int → Int} {R : zP} {x0 x1 x2 x3 : Option zV} {st : List zV} {M : zM} {i : Int} {r : Nat} : uL L xs R 1008 [x0, x1, x2, x3] (.inl i :: .inr (.inr r) :: st) M ↔ zread (fL L xs) 0 r M i (fun v => uL L xs R 1009 [x0, x1, x2, x3] (.inl v :: st) M) := zU_step dL_1008 (Or.inl rfl)
theorem dL_1009 : decode code 1009 = .ok (.invokevirtual 123, 3) := by decide +kernel
theorem rL_1009 {L : Nat} {xs : Int → Int} {R : zP} {x0 x1 x2 x3 : Option zV} {st : List zV} {M : zM} {a0 a1 a2 a3 a4 : zV} : uL L xs R 1009 [x0, x1, x2, x3] (a4 :: a3 :: a2 :: a1 :: a0 :: st) M ↔ (st.length ≤ 4 ∧ zcv (zv 8 (znm tX8_cream)) [a0, a1, a2, a3, a4] M (fun v M => uL L xs R 1012 [x0, x1, x2, x3] (v :: st) M)) := Iff.trans (zU_step dL_1009 (Or.inl rfl)) ⟨fun h => ⟨h.2.1, zcv_of h.2.2⟩, fun h => ⟨rfl, h.1, zcv_to h.2⟩⟩
theorem dL_1012 : decode code 1012 = .ok (.lcmp, 1) := by decide +kernel
theorem rL_1012 {L : Nat} {xs : Int → Int} {R : zP} {x0 x1 x2 x3 : Option zV} {st : List zV} {M : zM} {a b : Int} : uL L xs R 1012 [x0, x1, x2, x3] (.inr (.inl b) :: .inr (.inl a) :: st) M ↔ ((zLR a ∧ zLR b) ∧ uL L xs R 1013 [x0, x1, x2, x3] (.inl (zcmp a b) :: st) M) := zU_step dL_1012 (Or.inl rfl)
theorem dL_1013 : decode code 1013 = .ok (.ifCond .eq 353, 3) := by decide +kernel
theorem rL_1013 {L : Nat} {xs : Int → Int} {R : zP} {x0 x1 x2 x3 : Option zV} {st : List zV} {M : zM} {a : Int} : uL L xs R 1013 [x0, x1, x2, x3] (.inl a :: st) M ↔ (zIR a ∧ if a = 0 then uL L xs R 1366 [x0, x1, x2, x3] st M else uL L xs R 1016 [x0, x1, x2, x3] st M) := Iff.trans (zU_step dL_1013 (Or.inl rfl)) ⟨fun h => ⟨h.1.1, (zite (c := a = 0)).mpr h.2⟩, fun h => ⟨⟨h.1, by decide⟩, (zite (c := a = 0)).mp h.2⟩⟩
theorem dL_1016 : decode code 1016 = .ok (.iconst 0, 1) := by decide +kernel
theorem rL_1016 {L : Nat} {xs : Int → Int} {R : zP} {x0 x1 x2 x3 : Option zV} {st : List zV} {M : zM} : uL L xs R 1016 [x0, x1, x2, x3] st M ↔ uL L xs R 1017 [x0, x1, x2, x3] (.inl (0) :: st) M := zU_step dL_1016 (Or.inl rfl)
theorem dL_1017 : decode code 1017 = .ok (.ireturn, 1) := by decide +kernel
theorem rL_1017 {L : Nat} {xs : Int → Int} {R : zP} {x0 x1 x2 x3 : Option zV} {M : zM} {a : Int} : uL L xs R 1017 [x0, x1, x2, x3] [.inl a] M ↔ ((a = 0 ∨ a = 1) ∧ R (some (.inl a)) M) := Iff.trans (zU_step dL_1017 (Or.inl rfl)) ⟨fun h => ⟨zret2 rfl h.2.1, h.2.2⟩, fun h => ⟨rfl, Or.inr (Or.inl ⟨rfl, h.1⟩), h.2⟩⟩
theorem dL_1018 : decode code 1018 = .ok (.aload_n 1, 1) := by decide +kernel
theorem rL_1018 {L : Nat} {xs : Int → Int} {R : zP} {x0 x2 x3 : Option zV} {st : List zV} {M : zM} {a : Nat} : uL L xs R 1018 [x0, some (.inr (.inr a)), x2, x3] st M ↔ uL L xs R 1019 [x0, some (.inr (.inr a)), x2, x3] (.inr (.inr a) :: st) M := zU_step dL_1018 (Or.inl rfl)
theorem dL_1019 : decode code 1019 = .ok (.aload_n 0, 1) := by decide +kernel
theorem rL_1019 {L : Nat} {xs : Int → Int} {R : zP} {x1 x2 x3 : Option zV} {st : List zV} {M : zM} {a : Nat} : uL L xs R 1019 [some (.inr (.inr a)), x1, x2, x3] st M ↔ uL L xs R 1020 [some (.inr (.inr a)), x1, x2, x3] (.inr (.inr a) :: st) M := zU_step dL_1019 (Or.inl rfl)
theorem dL_1020 : decode code 1020 = .ok (.iload_n 3, 1) := by decide +kernel
theorem rL_1020 {L : Nat} {xs : Int → Int} {R : zP} {x0 x1 x2 : Option zV} {st : List zV} {M : zM} {a : Int} : uL L xs R 1020 [x0, x1, x2, some (.inl a)] st M ↔ uL L xs R 1021 [x0, x1, x2, some (.inl a)] (.inl a :: st) M := zU_step dL_1020 (Or.inl rfl)
theorem dL_1021 : decode code 1021 = .ok (.iconst 1, 1) := by decide +kernel
theorem rL_1021 {L : Nat} {xs : Int → Int} {R : zP} {x0 x1 x2 x3 : Option zV} {st : List zV} {M : zM} : uL L xs R 1021 [x0, x1, x2, x3] st M ↔ uL L xs R 1022 [x0, x1, x2, x3] (.inl (1) :: st) M := zU_step dL_1021 (Or.inl rfl)
theorem dL_1022 : decode code 1022 = .ok (.iadd, 1) := by decide +kernel
theorem rL_1022 {L : Nat} {xs : Int → Int} {R : zP} {x0 x1 x2 x3 : Option zV} {st : List zV} {M : zM} {a b : Int} : uL L xs R 1022 [x0, x1, x2, x3] (.inl b :: .inl a :: st) M ↔ uL L xs R 1023 [x0, x1, x2, x3] (.inl (a + b) :: st) M := zU_step dL_1022 (Or.inl rfl)
theorem dL_1023 : decode code 1023 = .ok (.iaload, 1) := by decide +kernel
theorem rL_1023 {L : Nat} {xs : Int → Int} {R : zP} {x0 x1 x2 x3 : Option zV} {st : List zV} {M : zM} {i : Int} {r : Nat} : uL L xs R 1023 [x0, x1, x2, x3] (.inl i :: .inr (.inr r) :: st) M ↔ zread (fL L xs) 0 r M i (fun v => uL L xs R 1024 [x0, x1, x2, x3] (.inl v :: st) M) := zU_step dL_1023 (Or.inl rfl)
theorem dL_1024 : decode code 1024 = .ok (.aload_n 0, 1) := by decide +kernel
theorem rL_1024 {L : Nat} {xs : Int → Int} {R : zP} {x1 x2 x3 : Option zV} {st : List zV} {M : zM} {a : Nat} : uL L xs R 1024 [some (.inr (.inr a)), x1, x2, x3] st M ↔ uL L xs R 1025 [some (.inr (.inr a)), x1, x2, x3] (.inr (.inr a) :: st) M := zU_step dL_1024 (Or.inl rfl)
theorem dL_1025 : decode code 1025 = .ok (.iload_n 3, 1) := by decide +kernel
theorem rL_1025 {L : Nat} {xs : Int → Int} {R : zP} {x0 x1 x2 : Option zV} {st : List zV} {M : zM} {a : Int} : uL L xs R 1025 [x0, x1, x2, some (.inl a)] st M ↔ uL L xs R 1026 [x0, x1, x2, some (.inl a)] (.inl a :: st) M := zU_step dL_1025 (Or.inl rfl)
theorem dL_1026 : decode code 1026 = .ok (.iconst 2, 1) := by decide +kernel
theorem rL_1026 {L : Nat} {xs : Int → Int} {R : zP} {x0 x1 x2 x3 : Option zV} {st : List zV} {M : zM} : uL L xs R 1026 [x0, x1, x2, x3] st M ↔ uL L xs R 1027 [x0, x1, x2, x3] (.inl (2) :: st) M := zU_step dL_1026 (Or.inl rfl)
theorem dL_1027 : decode code 1027 = .ok (.iadd, 1) := by decide +kernel
theorem rL_1027 {L : Nat} {xs : Int → Int} {R : zP} {x0 x1 x2 x3 : Option zV} {st : List zV} {M : zM} {a b : Int} : uL L xs R 1027 [x0, x1, x2, x3] (.inl b :: .inl a :: st) M ↔ uL L xs R 1028 [x0, x1, x2, x3] (.inl (a + b) :: st) M := zU_step dL_1027 (Or.inl rfl)
theorem dL_1028 : decode code 1028 = .ok (.iaload, 1) := by decide +kernel
theorem rL_1028 {L : Nat} {xs : Int → Int} {R : zP} {x0 x1 x2 x3 : Option zV} {st : List zV} {M : zM} {i : Int} {r : Nat} : uL L xs R 1028 [x0, x1, x2, x3] (.inl i :: .inr (.inr r) :: st) M ↔ zread (fL L xs) 0 r M i (fun v => uL L xs R 1029 [x0, x1, x2, x3] (.inl v :: st) M) := zU_step dL_1028 (Or.inl rfl)
theorem dL_1029 : decode code 1029 = .ok (.aload_n 0, 1) := by decide +kernel
theorem rL_1029 {L : Nat} {xs : Int → Int} {R : zP} {x1 x2 x3 : Option zV} {st : List zV} {M : zM} {a : Nat} : uL L xs R 1029 [some (.inr (.inr a)), x1, x2, x3] st M ↔ uL L xs R 1030 [some (.inr (.inr a)), x1, x2, x3] (.inr (.inr a) :: st) M := zU_step dL_1029 (Or.inl rfl)
theorem dL_1030 : decode code 1030 = .ok (.iload_n 3, 1) := by decide +kernel
theorem rL_1030 {L : Nat} {xs : Int → Int} {R : zP} {x0 x1 x2 : Option zV} {st : List zV} {M : zM} {a : Int} : uL L xs R 1030 [x0, x1, x2, some (.inl a)] st M ↔ uL L xs R 1031 [x0, x1, x2, some (.inl a)] (.inl a :: st) M := zU_step dL_1030 (Or.inl rfl)
theorem dL_1031 : decode code 1031 = .ok (.iconst 3, 1) := by decide +kernel
theorem rL_1031 {L : Nat} {xs : Int → Int} {R : zP} {x0 x1 x2 x3 : Option zV} {st : List zV} {M : zM} : uL L xs R 1031 [x0, x1, x2, x3] st M ↔ uL L xs R 1032 [x0, x1, x2, x3] (.inl (3) :: st) M := zU_step dL_1031 (Or.inl rfl)
theorem dL_1032 : decode code 1032 = .ok (.iadd, 1) := by decide +kernel
theorem rL_1032 {L : Nat} {xs : Int → Int} {R : zP} {x0 x1 x2 x3 : Option zV} {st : List zV} {M : zM} {a b : Int} : uL L xs R 1032 [x0, x1, x2, x3] (.inl b :: .inl a :: st) M ↔ uL L xs R 1033 [x0, x1, x2, x3] (.inl (a + b) :: st) M := zU_step dL_1032 (Or.inl rfl)
theorem dL_1033 : decode code 1033 = .ok (.iaload, 1) := by decide +kernel
theorem rL_1033 {L : Nat} {xs : Int → Int} {R : zP} {x0 x1 x2 x3 : Option zV} {st : List zV} {M : zM} {i : Int} {r : Nat} : uL L xs R 1033 [x0, x1, x2, x3] (.inl i :: .inr (.inr r) :: st) M ↔ zread (fL L xs) 0 r M i (fun v => uL L xs R 1034 [x0, x1, x2, x3] (.inl v :: st) M) := zU_step dL_1033 (Or.inl rfl)
theorem dL_1034 : decode code 1034 = .ok (.invokevirtual 124, 3) := by decide +kernel
theorem rL_1034 {L : Nat} {xs : Int → Int} {R : zP} {x0 x1 x2 x3 : Option zV} {st : List zV} {M : zM} {a0 a1 a2 a3 : zV} : uL L xs R 1034 [x0, x1, x2, x3] (a3 :: a2 :: a1 :: a0 :: st) M ↔ (st.length ≤ 4 ∧ zcv (zv 7 (znm tX7_years)) [a0, a1, a2, a3] M (fun v M => uL L xs R 1037 [x0, x1, x2, x3] (v :: st) M)) := Iff.trans (zU_step dL_1034 (Or.inl rfl)) ⟨fun h => ⟨h.2.1, zcv_of h.2.2⟩, fun h => ⟨rfl, h.1, zcv_to h.2⟩⟩
theorem dL_1037 : decode code 1037 = .ok (.aload_n 2, 1) := by decide +kernel
theorem rL_1037 {L : Nat} {xs : Int → Int} {R : zP} {x0 x1 x3 : Option zV} {st : List zV} {M : zM} {a : Nat} : uL L xs R 1037 [x0, x1, some (.inr (.inr a)), x3] st M ↔ uL L xs R 1038 [x0, x1, some (.inr (.inr a)), x3] (.inr (.inr a) :: st) M := zU_step dL_1037 (Or.inl rfl)
theorem dL_1038 : decode code 1038 = .ok (.aload_n 0, 1) := by decide +kernel
theorem rL_1038 {L : Nat} {xs : Int → Int} {R : zP} {x1 x2 x3 : Option zV} {st : List zV} {M : zM} {a : Nat} : uL L xs R 1038 [some (.inr (.inr a)), x1, x2, x3] st M ↔ uL L xs R 1039 [some (.inr (.inr a)), x1, x2, x3] (.inr (.inr a) :: st) M := zU_step dL_1038 (Or.inl rfl)
theorem dL_1039 : decode code 1039 = .ok (.iload_n 3, 1) := by decide +kernel
theorem rL_1039 {L : Nat} {xs : Int → Int} {R : zP} {x0 x1 x2 : Option zV} {st : List zV} {M : zM} {a : Int} : uL L xs R 1039 [x0, x1, x2, some (.inl a)] st M ↔ uL L xs R 1040 [x0, x1, x2, some (.inl a)] (.inl a :: st) M := zU_step dL_1039 (Or.inl rfl)
theorem dL_1040 : decode code 1040 = .ok (.iconst 1, 1) := by decide +kernel
theorem rL_1040 {L : Nat} {xs : Int → Int} {R : zP} {x0 x1 x2 x3 : Option zV} {st : List zV} {M : zM} : uL L xs R 1040 [x0, x1, x2, x3] st M ↔ uL L xs R 1041 [x0, x1, x2, x3] (.inl (1) :: st) M := zU_step dL_1040 (Or.inl rfl)
theorem dL_1041 : decode code 1041 = .ok (.iadd, 1) := by decide +kernel
theorem rL_1041 {L : Nat} {xs : Int → Int} {R : zP} {x0 x1 x2 x3 : Option zV} {st : List zV} {M : zM} {a b : Int} : uL L xs R 1041 [x0, x1, x2, x3] (.inl b :: .inl a :: st) M ↔ uL L xs R 1042 [x0, x1, x2, x3] (.inl (a + b) :: st) M := zU_step dL_1041 (Or.inl rfl)
theorem dL_1042 : decode code 1042 = .ok (.iaload, 1) := by decide +kernel
theorem rL_1042 {L : Nat} {xs : Int → Int} {R : zP} {x0 x1 x2 x3 : Option zV} {st : List zV} {M : zM} {i : Int} {r : Nat} : uL L xs R 1042 [x0, x1, x2, x3] (.inl i :: .inr (.inr r) :: st) M ↔ zread (fL L xs) 0 r M i (fun v => uL L xs R 1043 [x0, x1, x2, x3] (.inl v :: st) M) := zU_step dL_1042 (Or.inl rfl)
theorem dL_1043 : decode code 1043 = .ok (.aload_n 0, 1) := by decide +kernel
theorem rL_1043 {L : Nat} {xs : Int → Int} {R : zP} {x1 x2 x3 : Option zV} {st : List zV} {M : zM} {a : Nat} : uL L xs R 1043 [some (.inr (.inr a)), x1, x2, x3] st M ↔ uL L xs R 1044 [some (.inr (.inr a)), x1, x2, x3] (.inr (.inr a) :: st) M := zU_step dL_1043 (Or.inl rfl)
theorem dL_1044 : decode code 1044 = .ok (.iload_n 3, 1) := by decide +kernel
theorem rL_1044 {L : Nat} {xs : Int → Int} {R : zP} {x0 x1 x2 : Option zV} {st : List zV} {M : zM} {a : Int} : uL L xs R 1044 [x0, x1, x2, some (.inl a)] st M ↔ uL L xs R 1045 [x0, x1, x2, some (.inl a)] (.inl a :: st) M := zU_step dL_1044 (Or.inl rfl)
theorem dL_1045 : decode code 1045 = .ok (.iconst 2, 1) := by decide +kernel
theorem rL_1045 {L : Nat} {xs : Int → Int} {R : zP} {x0 x1 x2 x3 : Option zV} {st : List zV} {M : zM} : uL L xs R 1045 [x0, x1, x2, x3] st M ↔ uL L xs R 1046 [x0, x1, x2, x3] (.inl (2) :: st) M := zU_step dL_1045 (Or.inl rfl)
theorem dL_1046 : decode code 1046 = .ok (.iadd, 1) := by decide +kernel
theorem rL_1046 {L : Nat} {xs : Int → Int} {R : zP} {x0 x1 x2 x3 : Option zV} {st : List zV} {M : zM} {a b : Int} : uL L xs R 1046 [x0, x1, x2, x3] (.inl b :: .inl a :: st) M ↔ uL L xs R 1047 [x0, x1, x2, x3] (.inl (a + b) :: st) M := zU_step dL_1046 (Or.inl rfl)
theorem dL_1047 : decode code 1047 = .ok (.iaload, 1) := by decide +kernel
theorem rL_1047 {L : Nat} {xs : Int → Int} {R : zP} {x0 x1 x2 x3 : Option zV} {st : List zV} {M : zM} {i : Int} {r : Nat} : uL L xs R 1047 [x0, x1, x2, x3] (.inl i :: .inr (.inr r) :: st) M ↔ zread (fL L xs) 0 r M i (fun v => uL L xs R 1048 [x0, x1, x2, x3] (.inl v :: st) M) := zU_step dL_1047 (Or.inl rfl)
theorem dL_1048 : decode code 1048 = .ok (.aload_n 0, 1) := by decide +kernel
theorem rL_1048 {L : Nat} {xs : Int → Int} {R : zP} {x1 x2 x3 : Option zV} {st : List zV} {M : zM} {a : Nat} : uL L xs R 1048 [some (.inr (.inr a)), x1, x2, x3] st M ↔ uL L xs R 1049 [some (.inr (.inr a)), x1, x2, x3] (.inr (.inr a) :: st) M := zU_step dL_1048 (Or.inl rfl)
theorem dL_1049 : decode code 1049 = .ok (.iload_n 3, 1) := by decide +kernel
theorem rL_1049 {L : Nat} {xs : Int → Int} {R : zP} {x0 x1 x2 : Option zV} {st : List zV} {M : zM} {a : Int} : uL L xs R 1049 [x0, x1, x2, some (.inl a)] st M ↔ uL L xs R 1050 [x0, x1, x2, some (.inl a)] (.inl a :: st) M := zU_step dL_1049 (Or.inl rfl)
theorem dL_1050 : decode code 1050 = .ok (.iconst 3, 1) := by decide +kernel
theorem rL_1050 {L : Nat} {xs : Int → Int} {R : zP} {x0 x1 x2 x3 : Option zV} {st : List zV} {M : zM} : uL L xs R 1050 [x0, x1, x2, x3] st M ↔ uL L xs R 1051 [x0, x1, x2, x3] (.inl (3) :: st) M := zU_step dL_1050 (Or.inl rfl)
theorem dL_1051 : decode code 1051 = .ok (.iadd, 1) := by decide +kernel
theorem rL_1051 {L : Nat} {xs : Int → Int} {R : zP} {x0 x1 x2 x3 : Option zV} {st : List zV} {M : zM} {a b : Int} : uL L xs R 1051 [x0, x1, x2, x3] (.inl b :: .inl a :: st) M ↔ uL L xs R 1052 [x0, x1, x2, x3] (.inl (a + b) :: st) M := zU_step dL_1051 (Or.inl rfl)
theorem dL_1052 : decode code 1052 = .ok (.iaload, 1) := by decide +kernel
theorem rL_1052 {L : Nat} {xs : Int → Int} {R : zP} {x0 x1 x2 x3 : Option zV} {st : List zV} {M : zM} {i : Int} {r : Nat} : uL L xs R 1052 [x0, x1, x2, x3] (.inl i :: .inr (.inr r) :: st) M ↔ zread (fL L xs) 0 r M i (fun v => uL L xs R 1053 [x0, x1, x2, x3] (.inl v :: st) M) := zU_step dL_1052 (Or.inl rfl)
theorem dL_1053 : decode code 1053 = .ok (.invokevirtual 127, 3) := by decide +kernel
theorem rL_1053 {L : Nat} {xs : Int → Int} {R : zP} {x0 x1 x2 x3 : Option zV} {st : List zV} {M : zM} {a0 a1 a2 a3 : zV} : uL L xs R 1053 [x0, x1, x2, x3] (a3 :: a2 :: a1 :: a0 :: st) M ↔ (st.length ≤ 4 ∧ zcv (zv 8 (znm tX8_years)) [a0, a1, a2, a3] M (fun v M => uL L xs R 1056 [x0, x1, x2, x3] (v :: st) M)) := Iff.trans (zU_step dL_1053 (Or.inl rfl)) ⟨fun h => ⟨h.2.1, zcv_of h.2.2⟩, fun h => ⟨rfl, h.1, zcv_to h.2⟩⟩
theorem dL_1056 : decode code 1056 = .ok (.if_icmp .eq 310, 3) := by decide +kernel
theorem rL_1056 {L : Nat} {xs : Int → Int} {R : zP} {x0 x1 x2 x3 : Option zV} {st : List zV} {M : zM} {a b : Int} : uL L xs R 1056 [x0, x1, x2, x3] (.inl b :: .inl a :: st) M ↔ ((zIR a ∧ zIR b) ∧ if a = b then uL L xs R 1366 [x0, x1, x2, x3] st M else uL L xs R 1059 [x0, x1, x2, x3] st M) := Iff.trans (zU_step dL_1056 (Or.inl rfl)) ⟨fun h => ⟨⟨h.1.1, h.1.2.1⟩, (zite (c := a = b)).mpr h.2⟩, fun h => ⟨⟨h.1.1, h.1.2, by decide⟩, (zite (c := a = b)).mp h.2⟩⟩
theorem dL_1059 : decode code 1059 = .ok (.iconst 0, 1) := by decide +kernel
theorem rL_1059 {L : Nat} {xs : Int → Int} {R : zP} {x0 x1 x2 x3 : Option zV} {st : List zV} {M : zM} : uL L xs R 1059 [x0, x1, x2, x3] st M ↔ uL L xs R 1060 [x0, x1, x2, x3] (.inl (0) :: st) M := zU_step dL_1059 (Or.inl rfl)
theorem dL_1060 : decode code 1060 = .ok (.ireturn, 1) := by decide +kernel
theorem rL_1060 {L : Nat} {xs : Int → Int} {R : zP} {x0 x1 x2 x3 : Option zV} {M : zM} {a : Int} : uL L xs R 1060 [x0, x1, x2, x3] [.inl a] M ↔ ((a = 0 ∨ a = 1) ∧ R (some (.inl a)) M) := Iff.trans (zU_step dL_1060 (Or.inl rfl)) ⟨fun h => ⟨zret2 rfl h.2.1, h.2.2⟩, fun h => ⟨rfl, Or.inr (Or.inl ⟨rfl, h.1⟩), h.2⟩⟩
theorem dL_1061 : decode code 1061 = .ok (.aload_n 1, 1) := by decide +kernel
theorem rL_1061 {L : Nat} {xs : Int → Int} {R : zP} {x0 x2 x3 : Option zV} {st : List zV} {M : zM} {a : Nat} : uL L xs R 1061 [x0, some (.inr (.inr a)), x2, x3] st M ↔ uL L xs R 1062 [x0, some (.inr (.inr a)), x2, x3] (.inr (.inr a) :: st) M := zU_step dL_1061 (Or.inl rfl)
theorem dL_1062 : decode code 1062 = .ok (.aload_n 0, 1) := by decide +kernel
theorem rL_1062 {L : Nat} {xs : Int → Int} {R : zP} {x1 x2 x3 : Option zV} {st : List zV} {M : zM} {a : Nat} : uL L xs R 1062 [some (.inr (.inr a)), x1, x2, x3] st M ↔ uL L xs R 1063 [some (.inr (.inr a)), x1, x2, x3] (.inr (.inr a) :: st) M := zU_step dL_1062 (Or.inl rfl)
theorem dL_1063 : decode code 1063 = .ok (.iload_n 3, 1) := by decide +kernel
theorem rL_1063 {L : Nat} {xs : Int → Int} {R : zP} {x0 x1 x2 : Option zV} {st : List zV} {M : zM} {a : Int} : uL L xs R 1063 [x0, x1, x2, some (.inl a)] st M ↔ uL L xs R 1064 [x0, x1, x2, some (.inl a)] (.inl a :: st) M := zU_step dL_1063 (Or.inl rfl)
theorem dL_1064 : decode code 1064 = .ok (.iconst 1, 1) := by decide +kernel
theorem rL_1064 {L : Nat} {xs : Int → Int} {R : zP} {x0 x1 x2 x3 : Option zV} {st : List zV} {M : zM} : uL L xs R 1064 [x0, x1, x2, x3] st M ↔ uL L xs R 1065 [x0, x1, x2, x3] (.inl (1) :: st) M := zU_step dL_1064 (Or.inl rfl)
theorem dL_1065 : decode code 1065 = .ok (.iadd, 1) := by decide +kernel
theorem rL_1065 {L : Nat} {xs : Int → Int} {R : zP} {x0 x1 x2 x3 : Option zV} {st : List zV} {M : zM} {a b : Int} : uL L xs R 1065 [x0, x1, x2, x3] (.inl b :: .inl a :: st) M ↔ uL L xs R 1066 [x0, x1, x2, x3] (.inl (a + b) :: st) M := zU_step dL_1065 (Or.inl rfl)
theorem dL_1066 : decode code 1066 = .ok (.iaload, 1) := by decide +kernel
theorem rL_1066 {L : Nat} {xs : Int → Int} {R : zP} {x0 x1 x2 x3 : Option zV} {st : List zV} {M : zM} {i : Int} {r : Nat} : uL L xs R 1066 [x0, x1, x2, x3] (.inl i :: .inr (.inr r) :: st) M ↔ zread (fL L xs) 0 r M i (fun v => uL L xs R 1067 [x0, x1, x2, x3] (.inl v :: st) M) := zU_step dL_1066 (Or.inl rfl)
theorem dL_1067 : decode code 1067 = .ok (.aload_n 0, 1) := by decide +kernel
theorem rL_1067 {L : Nat} {xs : Int → Int} {R : zP} {x1 x2 x3 : Option zV} {st : List zV} {M : zM} {a : Nat} : uL L xs R 1067 [some (.inr (.inr a)), x1, x2, x3] st M ↔ uL L xs R 1068 [some (.inr (.inr a)), x1, x2, x3] (.inr (.inr a) :: st) M := zU_step dL_1067 (Or.inl rfl)
theorem dL_1068 : decode code 1068 = .ok (.iload_n 3, 1) := by decide +kernel
theorem rL_1068 {L : Nat} {xs : Int → Int} {R : zP} {x0 x1 x2 : Option zV} {st : List zV} {M : zM} {a : Int} : uL L xs R 1068 [x0, x1, x2, some (.inl a)] st M ↔ uL L xs R 1069 [x0, x1, x2, some (.inl a)] (.inl a :: st) M := zU_step dL_1068 (Or.inl rfl)
theorem dL_1069 : decode code 1069 = .ok (.iconst 2, 1) := by decide +kernel
theorem rL_1069 {L : Nat} {xs : Int → Int} {R : zP} {x0 x1 x2 x3 : Option zV} {st : List zV} {M : zM} : uL L xs R 1069 [x0, x1, x2, x3] st M ↔ uL L xs R 1070 [x0, x1, x2, x3] (.inl (2) :: st) M := zU_step dL_1069 (Or.inl rfl)
theorem dL_1070 : decode code 1070 = .ok (.iadd, 1) := by decide +kernel
theorem rL_1070 {L : Nat} {xs : Int → Int} {R : zP} {x0 x1 x2 x3 : Option zV} {st : List zV} {M : zM} {a b : Int} : uL L xs R 1070 [x0, x1, x2, x3] (.inl b :: .inl a :: st) M ↔ uL L xs R 1071 [x0, x1, x2, x3] (.inl (a + b) :: st) M := zU_step dL_1070 (Or.inl rfl)
theorem dL_1071 : decode code 1071 = .ok (.iaload, 1) := by decide +kernel
theorem rL_1071 {L : Nat} {xs : Int → Int} {R : zP} {x0 x1 x2 x3 : Option zV} {st : List zV} {M : zM} {i : Int} {r : Nat} : uL L xs R 1071 [x0, x1, x2, x3] (.inl i :: .inr (.inr r) :: st) M ↔ zread (fL L xs) 0 r M i (fun v => uL L xs R 1072 [x0, x1, x2, x3] (.inl v :: st) M) := zU_step dL_1071 (Or.inl rfl)
theorem dL_1072 : decode code 1072 = .ok (.aload_n 0, 1) := by decide +kernel
theorem rL_1072 {L : Nat} {xs : Int → Int} {R : zP} {x1 x2 x3 : Option zV} {st : List zV} {M : zM} {a : Nat} : uL L xs R 1072 [some (.inr (.inr a)), x1, x2, x3] st M ↔ uL L xs R 1073 [some (.inr (.inr a)), x1, x2, x3] (.inr (.inr a) :: st) M := zU_step dL_1072 (Or.inl rfl)
theorem dL_1073 : decode code 1073 = .ok (.iload_n 3, 1) := by decide +kernel
theorem rL_1073 {L : Nat} {xs : Int → Int} {R : zP} {x0 x1 x2 : Option zV} {st : List zV} {M : zM} {a : Int} : uL L xs R 1073 [x0, x1, x2, some (.inl a)] st M ↔ uL L xs R 1074 [x0, x1, x2, some (.inl a)] (.inl a :: st) M := zU_step dL_1073 (Or.inl rfl)
theorem dL_1074 : decode code 1074 = .ok (.iconst 3, 1) := by decide +kernel
theorem rL_1074 {L : Nat} {xs : Int → Int} {R : zP} {x0 x1 x2 x3 : Option zV} {st : List zV} {M : zM} : uL L xs R 1074 [x0, x1, x2, x3] st M ↔ uL L xs R 1075 [x0, x1, x2, x3] (.inl (3) :: st) M := zU_step dL_1074 (Or.inl rfl)
theorem dL_1075 : decode code 1075 = .ok (.iadd, 1) := by decide +kernel
theorem rL_1075 {L : Nat} {xs : Int → Int} {R : zP} {x0 x1 x2 x3 : Option zV} {st : List zV} {M : zM} {a b : Int} : uL L xs R 1075 [x0, x1, x2, x3] (.inl b :: .inl a :: st) M ↔ uL L xs R 1076 [x0, x1, x2, x3] (.inl (a + b) :: st) M := zU_step dL_1075 (Or.inl rfl)
theorem dL_1076 : decode code 1076 = .ok (.iaload, 1) := by decide +kernel
theorem rL_1076 {L : Nat} {xs : Int → Int} {R : zP} {x0 x1 x2 x3 : Option zV} {st : List zV} {M : zM} {i : Int} {r : Nat} : uL L xs R 1076 [x0, x1, x2, x3] (.inl i :: .inr (.inr r) :: st) M ↔ zread (fL L xs) 0 r M i (fun v => uL L xs R 1077 [x0, x1, x2, x3] (.inl v :: st) M) := zU_step dL_1076 (Or.inl rfl)
theorem dL_1077 : decode code 1077 = .ok (.invokevirtual 128, 3) := by decide +kernel
theorem rL_1077 {L : Nat} {xs : Int → Int} {R : zP} {x0 x1 x2 x3 : Option zV} {st : List zV} {M : zM} {a0 a1 a2 a3 : zV} : uL L xs R 1077 [x0, x1, x2, x3] (a3 :: a2 :: a1 :: a0 :: st) M ↔ (st.length ≤ 4 ∧ zcv (zv 7 (znm tX7_sheet)) [a0, a1, a2, a3] M (fun v M => uL L xs R 1080 [x0, x1, x2, x3] (v :: st) M)) := Iff.trans (zU_step dL_1077 (Or.inl rfl)) ⟨fun h => ⟨h.2.1, zcv_of h.2.2⟩, fun h => ⟨rfl, h.1, zcv_to h.2⟩⟩
theorem dL_1080 : decode code 1080 = .ok (.aload_n 2, 1) := by decide +kernel
theorem rL_1080 {L : Nat} {xs : Int → Int} {R : zP} {x0 x1 x3 : Option zV} {st : List zV} {M : zM} {a : Nat} : uL L xs R 1080 [x0, x1, some (.inr (.inr a)), x3] st M ↔ uL L xs R 1081 [x0, x1, some (.inr (.inr a)), x3] (.inr (.inr a) :: st) M := zU_step dL_1080 (Or.inl rfl)
theorem dL_1081 : decode code 1081 = .ok (.aload_n 0, 1) := by decide +kernel
theorem rL_1081 {L : Nat} {xs : Int → Int} {R : zP} {x1 x2 x3 : Option zV} {st : List zV} {M : zM} {a : Nat} : uL L xs R 1081 [some (.inr (.inr a)), x1, x2, x3] st M ↔ uL L xs R 1082 [some (.inr (.inr a)), x1, x2, x3] (.inr (.inr a) :: st) M := zU_step dL_1081 (Or.inl rfl)
theorem dL_1082 : decode code 1082 = .ok (.iload_n 3, 1) := by decide +kernel
theorem rL_1082 {L : Nat} {xs : Int → Int} {R : zP} {x0 x1 x2 : Option zV} {st : List zV} {M : zM} {a : Int} : uL L xs R 1082 [x0, x1, x2, some (.inl a)] st M ↔ uL L xs R 1083 [x0, x1, x2, some (.inl a)] (.inl a :: st) M := zU_step dL_1082 (Or.inl rfl)
theorem dL_1083 : decode code 1083 = .ok (.iconst 1, 1) := by decide +kernel
theorem rL_1083 {L : Nat} {xs : Int → Int} {R : zP} {x0 x1 x2 x3 : Option zV} {st : List zV} {M : zM} : uL L xs R 1083 [x0, x1, x2, x3] st M ↔ uL L xs R 1084 [x0, x1, x2, x3] (.inl (1) :: st) M := zU_step dL_1083 (Or.inl rfl)
theorem dL_1084 : decode code 1084 = .ok (.iadd, 1) := by decide +kernel
theorem rL_1084 {L : Nat} {xs : Int → Int} {R : zP} {x0 x1 x2 x3 : Option zV} {st : List zV} {M : zM} {a b : Int} : uL L xs R 1084 [x0, x1, x2, x3] (.inl b :: .inl a :: st) M ↔ uL L xs R 1085 [x0, x1, x2, x3] (.inl (a + b) :: st) M := zU_step dL_1084 (Or.inl rfl)
theorem dL_1085 : decode code 1085 = .ok (.iaload, 1) := by decide +kernel
theorem rL_1085 {L : Nat} {xs : Int → Int} {R : zP} {x0 x1 x2 x3 : Option zV} {st : List zV} {M : zM} {i : Int} {r : Nat} : uL L xs R 1085 [x0, x1, x2, x3] (.inl i :: .inr (.inr r) :: st) M ↔ zread (fL L xs) 0 r M i (fun v => uL L xs R 1086 [x0, x1, x2, x3] (.inl v :: st) M) := zU_step dL_1085 (Or.inl rfl)
theorem dL_1086 : decode code 1086 = .ok (.aload_n 0, 1) := by decide +kernel
theorem rL_1086 {L : Nat} {xs : Int → Int} {R : zP} {x1 x2 x3 : Option zV} {st : List zV} {M : zM} {a : Nat} : uL L xs R 1086 [some (.inr (.inr a)), x1, x2, x3] st M ↔ uL L xs R 1087 [some (.inr (.inr a)), x1, x2, x3] (.inr (.inr a) :: st) M := zU_step dL_1086 (Or.inl rfl)
theorem dL_1087 : decode code 1087 = .ok (.iload_n 3, 1) := by decide +kernel
theorem rL_1087 {L : Nat} {xs : Int → Int} {R : zP} {x0 x1 x2 : Option zV} {st : List zV} {M : zM} {a : Int} : uL L xs R 1087 [x0, x1, x2, some (.inl a)] st M ↔ uL L xs R 1088 [x0, x1, x2, some (.inl a)] (.inl a :: st) M := zU_step dL_1087 (Or.inl rfl)
theorem dL_1088 : decode code 1088 = .ok (.iconst 2, 1) := by decide +kernel
theorem rL_1088 {L : Nat} {xs : Int → Int} {R : zP} {x0 x1 x2 x3 : Option zV} {st : List zV} {M : zM} : uL L xs R 1088 [x0, x1, x2, x3] st M ↔ uL L xs R 1089 [x0, x1, x2, x3] (.inl (2) :: st) M := zU_step dL_1088 (Or.inl rfl)
theorem dL_1089 : decode code 1089 = .ok (.iadd, 1) := by decide +kernel
theorem rL_1089 {L : Nat} {xs : Int → Int} {R : zP} {x0 x1 x2 x3 : Option zV} {st : List zV} {M : zM} {a b : Int} : uL L xs R 1089 [x0, x1, x2, x3] (.inl b :: .inl a :: st) M ↔ uL L xs R 1090 [x0, x1, x2, x3] (.inl (a + b) :: st) M := zU_step dL_1089 (Or.inl rfl)
theorem dL_1090 : decode code 1090 = .ok (.iaload, 1) := by decide +kernel
theorem rL_1090 {L : Nat} {xs : Int → Int} {R : zP} {x0 x1 x2 x3 : Option zV} {st : List zV} {M : zM} {i : Int} {r : Nat} : uL L xs R 1090 [x0, x1, x2, x3] (.inl i :: .inr (.inr r) :: st) M ↔ zread (fL L xs) 0 r M i (fun v => uL L xs R 1091 [x0, x1, x2, x3] (.inl v :: st) M) := zU_step dL_1090 (Or.inl rfl)
theorem dL_1091 : decode code 1091 = .ok (.aload_n 0, 1) := by decide +kernel
theorem rL_1091 {L : Nat} {xs : Int → Int} {R : zP} {x1 x2 x3 : Option zV} {st : List zV} {M : zM} {a : Nat} : uL L xs R 1091 [some (.inr (.inr a)), x1, x2, x3] st M ↔ uL L xs R 1092 [some (.inr (.inr a)), x1, x2, x3] (.inr (.inr a) :: st) M := zU_step dL_1091 (Or.inl rfl)
theorem dL_1092 : decode code 1092 = .ok (.iload_n 3, 1) := by decide +kernel
theorem rL_1092 {L : Nat} {xs : Int → Int} {R : zP} {x0 x1 x2 : Option zV} {st : List zV} {M : zM} {a : Int} : uL L xs R 1092 [x0, x1, x2, some (.inl a)] st M ↔ uL L xs R 1093 [x0, x1, x2, some (.inl a)] (.inl a :: st) M := zU_step dL_1092 (Or.inl rfl)
theorem dL_1093 : decode code 1093 = .ok (.iconst 3, 1) := by decide +kernel
theorem rL_1093 {L : Nat} {xs : Int → Int} {R : zP} {x0 x1 x2 x3 : Option zV} {st : List zV} {M : zM} : uL L xs R 1093 [x0, x1, x2, x3] st M ↔ uL L xs R 1094 [x0, x1, x2, x3] (.inl (3) :: st) M := zU_step dL_1093 (Or.inl rfl)
theorem dL_1094 : decode code 1094 = .ok (.iadd, 1) := by decide +kernel
theorem rL_1094 {L : Nat} {xs : Int → Int} {R : zP} {x0 x1 x2 x3 : Option zV} {st : List zV} {M : zM} {a b : Int} : uL L xs R 1094 [x0, x1, x2, x3] (.inl b :: .inl a :: st) M ↔ uL L xs R 1095 [x0, x1, x2, x3] (.inl (a + b) :: st) M := zU_step dL_1094 (Or.inl rfl)
theorem dL_1095 : decode code 1095 = .ok (.iaload, 1) := by decide +kernel
theorem rL_1095 {L : Nat} {xs : Int → Int} {R : zP} {x0 x1 x2 x3 : Option zV} {st : List zV} {M : zM} {i : Int} {r : Nat} : uL L xs R 1095 [x0, x1, x2, x3] (.inl i :: .inr (.inr r) :: st) M ↔ zread (fL L xs) 0 r M i (fun v => uL L xs R 1096 [x0, x1, x2, x3] (.inl v :: st) M) := zU_step dL_1095 (Or.inl rfl)
theorem dL_1096 : decode code 1096 = .ok (.invokevirtual 131, 3) := by decide +kernel
theorem rL_1096 {L : Nat} {xs : Int → Int} {R : zP} {x0 x1 x2 x3 : Option zV} {st : List zV} {M : zM} {a0 a1 a2 a3 : zV} : uL L xs R 1096 [x0, x1, x2, x3] (a3 :: a2 :: a1 :: a0 :: st) M ↔ (st.length ≤ 4 ∧ zcv (zv 8 (znm tX8_sheet)) [a0, a1, a2, a3] M (fun v M => uL L xs R 1099 [x0, x1, x2, x3] (v :: st) M)) := Iff.trans (zU_step dL_1096 (Or.inl rfl)) ⟨fun h => ⟨h.2.1, zcv_of h.2.2⟩, fun h => ⟨rfl, h.1, zcv_to h.2⟩⟩
theorem dL_1099 : decode code 1099 = .ok (.if_icmp .eq 267, 3) := by decide +kernel
theorem rL_1099 {L : Nat} {xs : Int → Int} {R : zP} {x0 x1 x2 x3 : Option zV} {st : List zV} {M : zM} {a b : Int} : uL L xs R 1099 [x0, x1, x2, x3] (.inl b :: .inl a :: st) M ↔ ((zIR a ∧ zIR b) ∧ if a = b then uL L xs R 1366 [x0, x1, x2, x3] st M else uL L xs R 1102 [x0, x1, x2, x3] st M) := Iff.trans (zU_step dL_1099 (Or.inl rfl)) ⟨fun h => ⟨⟨h.1.1, h.1.2.1⟩, (zite (c := a = b)).mpr h.2⟩, fun h => ⟨⟨h.1.1, h.1.2, by decide⟩, (zite (c := a = b)).mp h.2⟩⟩
theorem dL_1102 : decode code 1102 = .ok (.iconst 0, 1) := by decide +kernel
theorem rL_1102 {L : Nat} {xs : Int → Int} {R : zP} {x0 x1 x2 x3 : Option zV} {st : List zV} {M : zM} : uL L xs R 1102 [x0, x1, x2, x3] st M ↔ uL L xs R 1103 [x0, x1, x2, x3] (.inl (0) :: st) M := zU_step dL_1102 (Or.inl rfl)
theorem dL_1103 : decode code 1103 = .ok (.ireturn, 1) := by decide +kernel
theorem rL_1103 {L : Nat} {xs : Int → Int} {R : zP} {x0 x1 x2 x3 : Option zV} {M : zM} {a : Int} : uL L xs R 1103 [x0, x1, x2, x3] [.inl a] M ↔ ((a = 0 ∨ a = 1) ∧ R (some (.inl a)) M) := Iff.trans (zU_step dL_1103 (Or.inl rfl)) ⟨fun h => ⟨zret2 rfl h.2.1, h.2.2⟩, fun h => ⟨rfl, Or.inr (Or.inl ⟨rfl, h.1⟩), h.2⟩⟩
theorem dL_1104 : decode code 1104 = .ok (.aload_n 1, 1) := by decide +kernel
theorem rL_1104 {L : Nat} {xs : Int → Int} {R : zP} {x0 x2 x3 : Option zV} {st : List zV} {M : zM} {a : Nat} : uL L xs R 1104 [x0, some (.inr (.inr a)), x2, x3] st M ↔ uL L xs R 1105 [x0, some (.inr (.inr a)), x2, x3] (.inr (.inr a) :: st) M := zU_step dL_1104 (Or.inl rfl)
theorem dL_1105 : decode code 1105 = .ok (.aload_n 0, 1) := by decide +kernel
theorem rL_1105 {L : Nat} {xs : Int → Int} {R : zP} {x1 x2 x3 : Option zV} {st : List zV} {M : zM} {a : Nat} : uL L xs R 1105 [some (.inr (.inr a)), x1, x2, x3] st M ↔ uL L xs R 1106 [some (.inr (.inr a)), x1, x2, x3] (.inr (.inr a) :: st) M := zU_step dL_1105 (Or.inl rfl)
theorem dL_1106 : decode code 1106 = .ok (.iload_n 3, 1) := by decide +kernel
theorem rL_1106 {L : Nat} {xs : Int → Int} {R : zP} {x0 x1 x2 : Option zV} {st : List zV} {M : zM} {a : Int} : uL L xs R 1106 [x0, x1, x2, some (.inl a)] st M ↔ uL L xs R 1107 [x0, x1, x2, some (.inl a)] (.inl a :: st) M := zU_step dL_1106 (Or.inl rfl)
theorem dL_1107 : decode code 1107 = .ok (.iconst 1, 1) := by decide +kernel
theorem rL_1107 {L : Nat} {xs : Int → Int} {R : zP} {x0 x1 x2 x3 : Option zV} {st : List zV} {M : zM} : uL L xs R 1107 [x0, x1, x2, x3] st M ↔ uL L xs R 1108 [x0, x1, x2, x3] (.inl (1) :: st) M := zU_step dL_1107 (Or.inl rfl)
theorem dL_1108 : decode code 1108 = .ok (.iadd, 1) := by decide +kernel
theorem rL_1108 {L : Nat} {xs : Int → Int} {R : zP} {x0 x1 x2 x3 : Option zV} {st : List zV} {M : zM} {a b : Int} : uL L xs R 1108 [x0, x1, x2, x3] (.inl b :: .inl a :: st) M ↔ uL L xs R 1109 [x0, x1, x2, x3] (.inl (a + b) :: st) M := zU_step dL_1108 (Or.inl rfl)
theorem dL_1109 : decode code 1109 = .ok (.iaload, 1) := by decide +kernel
theorem rL_1109 {L : Nat} {xs : Int → Int} {R : zP} {x0 x1 x2 x3 : Option zV} {st : List zV} {M : zM} {i : Int} {r : Nat} : uL L xs R 1109 [x0, x1, x2, x3] (.inl i :: .inr (.inr r) :: st) M ↔ zread (fL L xs) 0 r M i (fun v => uL L xs R 1110 [x0, x1, x2, x3] (.inl v :: st) M) := zU_step dL_1109 (Or.inl rfl)
theorem dL_1110 : decode code 1110 = .ok (.invokevirtual 132, 3) := by decide +kernel
theorem rL_1110 {L : Nat} {xs : Int → Int} {R : zP} {x0 x1 x2 x3 : Option zV} {st : List zV} {M : zM} {a0 a1 : zV} : uL L xs R 1110 [x0, x1, x2, x3] (a1 :: a0 :: st) M ↔ (st.length ≤ 4 ∧ zcv (zv 7 (znm tX7_lose)) [a0, a1] M (fun v M => uL L xs R 1113 [x0, x1, x2, x3] (v :: st) M)) := Iff.trans (zU_step dL_1110 (Or.inl rfl)) ⟨fun h => ⟨h.2.1, zcv_of h.2.2⟩, fun h => ⟨rfl, h.1, zcv_to h.2⟩⟩
theorem dL_1113 : decode code 1113 = .ok (.aload_n 2, 1) := by decide +kernel
theorem rL_1113 {L : Nat} {xs : Int → Int} {R : zP} {x0 x1 x3 : Option zV} {st : List zV} {M : zM} {a : Nat} : uL L xs R 1113 [x0, x1, some (.inr (.inr a)), x3] st M ↔ uL L xs R 1114 [x0, x1, some (.inr (.inr a)), x3] (.inr (.inr a) :: st) M := zU_step dL_1113 (Or.inl rfl)
theorem dL_1114 : decode code 1114 = .ok (.aload_n 0, 1) := by decide +kernel
theorem rL_1114 {L : Nat} {xs : Int → Int} {R : zP} {x1 x2 x3 : Option zV} {st : List zV} {M : zM} {a : Nat} : uL L xs R 1114 [some (.inr (.inr a)), x1, x2, x3] st M ↔ uL L xs R 1115 [some (.inr (.inr a)), x1, x2, x3] (.inr (.inr a) :: st) M := zU_step dL_1114 (Or.inl rfl)
theorem dL_1115 : decode code 1115 = .ok (.iload_n 3, 1) := by decide +kernel
theorem rL_1115 {L : Nat} {xs : Int → Int} {R : zP} {x0 x1 x2 : Option zV} {st : List zV} {M : zM} {a : Int} : uL L xs R 1115 [x0, x1, x2, some (.inl a)] st M ↔ uL L xs R 1116 [x0, x1, x2, some (.inl a)] (.inl a :: st) M := zU_step dL_1115 (Or.inl rfl)
theorem dL_1116 : decode code 1116 = .ok (.iconst 1, 1) := by decide +kernel
theorem rL_1116 {L : Nat} {xs : Int → Int} {R : zP} {x0 x1 x2 x3 : Option zV} {st : List zV} {M : zM} : uL L xs R 1116 [x0, x1, x2, x3] st M ↔ uL L xs R 1117 [x0, x1, x2, x3] (.inl (1) :: st) M := zU_step dL_1116 (Or.inl rfl)
theorem dL_1117 : decode code 1117 = .ok (.iadd, 1) := by decide +kernel
theorem rL_1117 {L : Nat} {xs : Int → Int} {R : zP} {x0 x1 x2 x3 : Option zV} {st : List zV} {M : zM} {a b : Int} : uL L xs R 1117 [x0, x1, x2, x3] (.inl b :: .inl a :: st) M ↔ uL L xs R 1118 [x0, x1, x2, x3] (.inl (a + b) :: st) M := zU_step dL_1117 (Or.inl rfl)
theorem dL_1118 : decode code 1118 = .ok (.iaload, 1) := by decide +kernel
theorem rL_1118 {L : Nat} {xs : Int → Int} {R : zP} {x0 x1 x2 x3 : Option zV} {st : List zV} {M : zM} {i : Int} {r : Nat} : uL L xs R 1118 [x0, x1, x2, x3] (.inl i :: .inr (.inr r) :: st) M ↔ zread (fL L xs) 0 r M i (fun v => uL L xs R 1119 [x0, x1, x2, x3] (.inl v :: st) M) := zU_step dL_1118 (Or.inl rfl)
theorem dL_1119 : decode code 1119 = .ok (.invokevirtual 135, 3) := by decide +kernel
theorem rL_1119 {L : Nat} {xs : Int → Int} {R : zP} {x0 x1 x2 x3 : Option zV} {st : List zV} {M : zM} {a0 a1 : zV} : uL L xs R 1119 [x0, x1, x2, x3] (a1 :: a0 :: st) M ↔ (st.length ≤ 4 ∧ zcv (zv 8 (znm tX8_lose)) [a0, a1] M (fun v M => uL L xs R 1122 [x0, x1, x2, x3] (v :: st) M)) := Iff.trans (zU_step dL_1119 (Or.inl rfl)) ⟨fun h => ⟨h.2.1, zcv_of h.2.2⟩, fun h => ⟨rfl, h.1, zcv_to h.2⟩⟩
theorem dL_1122 : decode code 1122 = .ok (.if_icmp .eq 244, 3) := by decide +kernel
theorem rL_1122 {L : Nat} {xs : Int → Int} {R : zP} {x0 x1 x2 x3 : Option zV} {st : List zV} {M : zM} {a b : Int} : uL L xs R 1122 [x0, x1, x2, x3] (.inl b :: .inl a :: st) M ↔ ((zIR a ∧ zIR b) ∧ if a = b then uL L xs R 1366 [x0, x1, x2, x3] st M else uL L xs R 1125 [x0, x1, x2, x3] st M) := Iff.trans (zU_step dL_1122 (Or.inl rfl)) ⟨fun h => ⟨⟨h.1.1, h.1.2.1⟩, (zite (c := a = b)).mpr h.2⟩, fun h => ⟨⟨h.1.1, h.1.2, by decide⟩, (zite (c := a = b)).mp h.2⟩⟩
theorem dL_1125 : decode code 1125 = .ok (.iconst 0, 1) := by decide +kernel
theorem rL_1125 {L : Nat} {xs : Int → Int} {R : zP} {x0 x1 x2 x3 : Option zV} {st : List zV} {M : zM} : uL L xs R 1125 [x0, x1, x2, x3] st M ↔ uL L xs R 1126 [x0, x1, x2, x3] (.inl (0) :: st) M := zU_step dL_1125 (Or.inl rfl)
theorem dL_1126 : decode code 1126 = .ok (.ireturn, 1) := by decide +kernel
theorem rL_1126 {L : Nat} {xs : Int → Int} {R : zP} {x0 x1 x2 x3 : Option zV} {M : zM} {a : Int} : uL L xs R 1126 [x0, x1, x2, x3] [.inl a] M ↔ ((a = 0 ∨ a = 1) ∧ R (some (.inl a)) M) := Iff.trans (zU_step dL_1126 (Or.inl rfl)) ⟨fun h => ⟨zret2 rfl h.2.1, h.2.2⟩, fun h => ⟨rfl, Or.inr (Or.inl ⟨rfl, h.1⟩), h.2⟩⟩
theorem dL_1127 : decode code 1127 = .ok (.aload_n 1, 1) := by decide +kernel
theorem rL_1127 {L : Nat} {xs : Int → Int} {R : zP} {x0 x2 x3 : Option zV} {st : List zV} {M : zM} {a : Nat} : uL L xs R 1127 [x0, some (.inr (.inr a)), x2, x3] st M ↔ uL L xs R 1128 [x0, some (.inr (.inr a)), x2, x3] (.inr (.inr a) :: st) M := zU_step dL_1127 (Or.inl rfl)
theorem dL_1128 : decode code 1128 = .ok (.aload_n 0, 1) := by decide +kernel
theorem rL_1128 {L : Nat} {xs : Int → Int} {R : zP} {x1 x2 x3 : Option zV} {st : List zV} {M : zM} {a : Nat} : uL L xs R 1128 [some (.inr (.inr a)), x1, x2, x3] st M ↔ uL L xs R 1129 [some (.inr (.inr a)), x1, x2, x3] (.inr (.inr a) :: st) M := zU_step dL_1128 (Or.inl rfl)
theorem dL_1129 : decode code 1129 = .ok (.iload_n 3, 1) := by decide +kernel
theorem rL_1129 {L : Nat} {xs : Int → Int} {R : zP} {x0 x1 x2 : Option zV} {st : List zV} {M : zM} {a : Int} : uL L xs R 1129 [x0, x1, x2, some (.inl a)] st M ↔ uL L xs R 1130 [x0, x1, x2, some (.inl a)] (.inl a :: st) M := zU_step dL_1129 (Or.inl rfl)
theorem dL_1130 : decode code 1130 = .ok (.iconst 1, 1) := by decide +kernel
theorem rL_1130 {L : Nat} {xs : Int → Int} {R : zP} {x0 x1 x2 x3 : Option zV} {st : List zV} {M : zM} : uL L xs R 1130 [x0, x1, x2, x3] st M ↔ uL L xs R 1131 [x0, x1, x2, x3] (.inl (1) :: st) M := zU_step dL_1130 (Or.inl rfl)
theorem dL_1131 : decode code 1131 = .ok (.iadd, 1) := by decide +kernel
theorem rL_1131 {L : Nat} {xs : Int → Int} {R : zP} {x0 x1 x2 x3 : Option zV} {st : List zV} {M : zM} {a b : Int} : uL L xs R 1131 [x0, x1, x2, x3] (.inl b :: .inl a :: st) M ↔ uL L xs R 1132 [x0, x1, x2, x3] (.inl (a + b) :: st) M := zU_step dL_1131 (Or.inl rfl)
theorem dL_1132 : decode code 1132 = .ok (.iaload, 1) := by decide +kernel
theorem rL_1132 {L : Nat} {xs : Int → Int} {R : zP} {x0 x1 x2 x3 : Option zV} {st : List zV} {M : zM} {i : Int} {r : Nat} : uL L xs R 1132 [x0, x1, x2, x3] (.inl i :: .inr (.inr r) :: st) M ↔ zread (fL L xs) 0 r M i (fun v => uL L xs R 1133 [x0, x1, x2, x3] (.inl v :: st) M) := zU_step dL_1132 (Or.inl rfl)
theorem dL_1133 : decode code 1133 = .ok (.aload_n 0, 1) := by decide +kernel
theorem rL_1133 {L : Nat} {xs : Int → Int} {R : zP} {x1 x2 x3 : Option zV} {st : List zV} {M : zM} {a : Nat} : uL L xs R 1133 [some (.inr (.inr a)), x1, x2, x3] st M ↔ uL L xs R 1134 [some (.inr (.inr a)), x1, x2, x3] (.inr (.inr a) :: st) M := zU_step dL_1133 (Or.inl rfl)
theorem dL_1134 : decode code 1134 = .ok (.iload_n 3, 1) := by decide +kernel
theorem rL_1134 {L : Nat} {xs : Int → Int} {R : zP} {x0 x1 x2 : Option zV} {st : List zV} {M : zM} {a : Int} : uL L xs R 1134 [x0, x1, x2, some (.inl a)] st M ↔ uL L xs R 1135 [x0, x1, x2, some (.inl a)] (.inl a :: st) M := zU_step dL_1134 (Or.inl rfl)
theorem dL_1135 : decode code 1135 = .ok (.iconst 2, 1) := by decide +kernel
theorem rL_1135 {L : Nat} {xs : Int → Int} {R : zP} {x0 x1 x2 x3 : Option zV} {st : List zV} {M : zM} : uL L xs R 1135 [x0, x1, x2, x3] st M ↔ uL L xs R 1136 [x0, x1, x2, x3] (.inl (2) :: st) M := zU_step dL_1135 (Or.inl rfl)
theorem dL_1136 : decode code 1136 = .ok (.iadd, 1) := by decide +kernel
theorem rL_1136 {L : Nat} {xs : Int → Int} {R : zP} {x0 x1 x2 x3 : Option zV} {st : List zV} {M : zM} {a b : Int} : uL L xs R 1136 [x0, x1, x2, x3] (.inl b :: .inl a :: st) M ↔ uL L xs R 1137 [x0, x1, x2, x3] (.inl (a + b) :: st) M := zU_step dL_1136 (Or.inl rfl)
theorem dL_1137 : decode code 1137 = .ok (.iaload, 1) := by decide +kernel
theorem rL_1137 {L : Nat} {xs : Int → Int} {R : zP} {x0 x1 x2 x3 : Option zV} {st : List zV} {M : zM} {i : Int} {r : Nat} : uL L xs R 1137 [x0, x1, x2, x3] (.inl i :: .inr (.inr r) :: st) M ↔ zread (fL L xs) 0 r M i (fun v => uL L xs R 1138 [x0, x1, x2, x3] (.inl v :: st) M) := zU_step dL_1137 (Or.inl rfl)
theorem dL_1138 : decode code 1138 = .ok (.aload_n 0, 1) := by decide +kernel
theorem rL_1138 {L : Nat} {xs : Int → Int} {R : zP} {x1 x2 x3 : Option zV} {st : List zV} {M : zM} {a : Nat} : uL L xs R 1138 [some (.inr (.inr a)), x1, x2, x3] st M ↔ uL L xs R 1139 [some (.inr (.inr a)), x1, x2, x3] (.inr (.inr a) :: st) M := zU_step dL_1138 (Or.inl rfl)
theorem dL_1139 : decode code 1139 = .ok (.iload_n 3, 1) := by decide +kernel
theorem rL_1139 {L : Nat} {xs : Int → Int} {R : zP} {x0 x1 x2 : Option zV} {st : List zV} {M : zM} {a : Int} : uL L xs R 1139 [x0, x1, x2, some (.inl a)] st M ↔ uL L xs R 1140 [x0, x1, x2, some (.inl a)] (.inl a :: st) M := zU_step dL_1139 (Or.inl rfl)
theorem dL_1140 : decode code 1140 = .ok (.iconst 3, 1) := by decide +kernel
theorem rL_1140 {L : Nat} {xs : Int → Int} {R : zP} {x0 x1 x2 x3 : Option zV} {st : List zV} {M : zM} : uL L xs R 1140 [x0, x1, x2, x3] st M ↔ uL L xs R 1141 [x0, x1, x2, x3] (.inl (3) :: st) M := zU_step dL_1140 (Or.inl rfl)
theorem dL_1141 : decode code 1141 = .ok (.iadd, 1) := by decide +kernel
theorem rL_1141 {L : Nat} {xs : Int → Int} {R : zP} {x0 x1 x2 x3 : Option zV} {st : List zV} {M : zM} {a b : Int} : uL L xs R 1141 [x0, x1, x2, x3] (.inl b :: .inl a :: st) M ↔ uL L xs R 1142 [x0, x1, x2, x3] (.inl (a + b) :: st) M := zU_step dL_1141 (Or.inl rfl)
theorem dL_1142 : decode code 1142 = .ok (.iaload, 1) := by decide +kernel
theorem rL_1142 {L : Nat} {xs : Int → Int} {R : zP} {x0 x1 x2 x3 : Option zV} {st : List zV} {M : zM} {i : Int} {r : Nat} : uL L xs R 1142 [x0, x1, x2, x3] (.inl i :: .inr (.inr r) :: st) M ↔ zread (fL L xs) 0 r M i (fun v => uL L xs R 1143 [x0, x1, x2, x3] (.inl v :: st) M) := zU_step dL_1142 (Or.inl rfl)
theorem dL_1143 : decode code 1143 = .ok (.aload_n 0, 1) := by decide +kernel
theorem rL_1143 {L : Nat} {xs : Int → Int} {R : zP} {x1 x2 x3 : Option zV} {st : List zV} {M : zM} {a : Nat} : uL L xs R 1143 [some (.inr (.inr a)), x1, x2, x3] st M ↔ uL L xs R 1144 [some (.inr (.inr a)), x1, x2, x3] (.inr (.inr a) :: st) M := zU_step dL_1143 (Or.inl rfl)
theorem dL_1144 : decode code 1144 = .ok (.iload_n 3, 1) := by decide +kernel
theorem rL_1144 {L : Nat} {xs : Int → Int} {R : zP} {x0 x1 x2 : Option zV} {st : List zV} {M : zM} {a : Int} : uL L xs R 1144 [x0, x1, x2, some (.inl a)] st M ↔ uL L xs R 1145 [x0, x1, x2, some (.inl a)] (.inl a :: st) M := zU_step dL_1144 (Or.inl rfl)
theorem dL_1145 : decode code 1145 = .ok (.iconst 4, 1) := by decide +kernel
theorem rL_1145 {L : Nat} {xs : Int → Int} {R : zP} {x0 x1 x2 x3 : Option zV} {st : List zV} {M : zM} : uL L xs R 1145 [x0, x1, x2, x3] st M ↔ uL L xs R 1146 [x0, x1, x2, x3] (.inl (4) :: st) M := zU_step dL_1145 (Or.inl rfl)
theorem dL_1146 : decode code 1146 = .ok (.iadd, 1) := by decide +kernel
theorem rL_1146 {L : Nat} {xs : Int → Int} {R : zP} {x0 x1 x2 x3 : Option zV} {st : List zV} {M : zM} {a b : Int} : uL L xs R 1146 [x0, x1, x2, x3] (.inl b :: .inl a :: st) M ↔ uL L xs R 1147 [x0, x1, x2, x3] (.inl (a + b) :: st) M := zU_step dL_1146 (Or.inl rfl)
theorem dL_1147 : decode code 1147 = .ok (.iaload, 1) := by decide +kernel
theorem rL_1147 {L : Nat} {xs : Int → Int} {R : zP} {x0 x1 x2 x3 : Option zV} {st : List zV} {M : zM} {i : Int} {r : Nat} : uL L xs R 1147 [x0, x1, x2, x3] (.inl i :: .inr (.inr r) :: st) M ↔ zread (fL L xs) 0 r M i (fun v => uL L xs R 1148 [x0, x1, x2, x3] (.inl v :: st) M) := zU_step dL_1147 (Or.inl rfl)
theorem dL_1148 : decode code 1148 = .ok (.invokevirtual 136, 3) := by decide +kernel
theorem rL_1148 {L : Nat} {xs : Int → Int} {R : zP} {x0 x1 x2 x3 : Option zV} {st : List zV} {M : zM} {a0 a1 a2 a3 a4 : zV} : uL L xs R 1148 [x0, x1, x2, x3] (a4 :: a3 :: a2 :: a1 :: a0 :: st) M ↔ (st.length ≤ 4 ∧ zcv (zv 7 (znm tX7_put)) [a0, a1, a2, a3, a4] M (fun v M => uL L xs R 1151 [x0, x1, x2, x3] (v :: st) M)) := Iff.trans (zU_step dL_1148 (Or.inl rfl)) ⟨fun h => ⟨h.2.1, zcv_of h.2.2⟩, fun h => ⟨rfl, h.1, zcv_to h.2⟩⟩
theorem dL_1151 : decode code 1151 = .ok (.aload_n 2, 1) := by decide +kernel
theorem rL_1151 {L : Nat} {xs : Int → Int} {R : zP} {x0 x1 x3 : Option zV} {st : List zV} {M : zM} {a : Nat} : uL L xs R 1151 [x0, x1, some (.inr (.inr a)), x3] st M ↔ uL L xs R 1152 [x0, x1, some (.inr (.inr a)), x3] (.inr (.inr a) :: st) M := zU_step dL_1151 (Or.inl rfl)
theorem dL_1152 : decode code 1152 = .ok (.aload_n 0, 1) := by decide +kernel
theorem rL_1152 {L : Nat} {xs : Int → Int} {R : zP} {x1 x2 x3 : Option zV} {st : List zV} {M : zM} {a : Nat} : uL L xs R 1152 [some (.inr (.inr a)), x1, x2, x3] st M ↔ uL L xs R 1153 [some (.inr (.inr a)), x1, x2, x3] (.inr (.inr a) :: st) M := zU_step dL_1152 (Or.inl rfl)
theorem dL_1153 : decode code 1153 = .ok (.iload_n 3, 1) := by decide +kernel
theorem rL_1153 {L : Nat} {xs : Int → Int} {R : zP} {x0 x1 x2 : Option zV} {st : List zV} {M : zM} {a : Int} : uL L xs R 1153 [x0, x1, x2, some (.inl a)] st M ↔ uL L xs R 1154 [x0, x1, x2, some (.inl a)] (.inl a :: st) M := zU_step dL_1153 (Or.inl rfl)
theorem dL_1154 : decode code 1154 = .ok (.iconst 1, 1) := by decide +kernel
theorem rL_1154 {L : Nat} {xs : Int → Int} {R : zP} {x0 x1 x2 x3 : Option zV} {st : List zV} {M : zM} : uL L xs R 1154 [x0, x1, x2, x3] st M ↔ uL L xs R 1155 [x0, x1, x2, x3] (.inl (1) :: st) M := zU_step dL_1154 (Or.inl rfl)
theorem dL_1155 : decode code 1155 = .ok (.iadd, 1) := by decide +kernel
theorem rL_1155 {L : Nat} {xs : Int → Int} {R : zP} {x0 x1 x2 x3 : Option zV} {st : List zV} {M : zM} {a b : Int} : uL L xs R 1155 [x0, x1, x2, x3] (.inl b :: .inl a :: st) M ↔ uL L xs R 1156 [x0, x1, x2, x3] (.inl (a + b) :: st) M := zU_step dL_1155 (Or.inl rfl)
theorem dL_1156 : decode code 1156 = .ok (.iaload, 1) := by decide +kernel
theorem rL_1156 {L : Nat} {xs : Int → Int} {R : zP} {x0 x1 x2 x3 : Option zV} {st : List zV} {M : zM} {i : Int} {r : Nat} : uL L xs R 1156 [x0, x1, x2, x3] (.inl i :: .inr (.inr r) :: st) M ↔ zread (fL L xs) 0 r M i (fun v => uL L xs R 1157 [x0, x1, x2, x3] (.inl v :: st) M) := zU_step dL_1156 (Or.inl rfl)
theorem dL_1157 : decode code 1157 = .ok (.aload_n 0, 1) := by decide +kernel
theorem rL_1157 {L : Nat} {xs : Int → Int} {R : zP} {x1 x2 x3 : Option zV} {st : List zV} {M : zM} {a : Nat} : uL L xs R 1157 [some (.inr (.inr a)), x1, x2, x3] st M ↔ uL L xs R 1158 [some (.inr (.inr a)), x1, x2, x3] (.inr (.inr a) :: st) M := zU_step dL_1157 (Or.inl rfl)
theorem dL_1158 : decode code 1158 = .ok (.iload_n 3, 1) := by decide +kernel
theorem rL_1158 {L : Nat} {xs : Int → Int} {R : zP} {x0 x1 x2 : Option zV} {st : List zV} {M : zM} {a : Int} : uL L xs R 1158 [x0, x1, x2, some (.inl a)] st M ↔ uL L xs R 1159 [x0, x1, x2, some (.inl a)] (.inl a :: st) M := zU_step dL_1158 (Or.inl rfl)
theorem dL_1159 : decode code 1159 = .ok (.iconst 2, 1) := by decide +kernel
theorem rL_1159 {L : Nat} {xs : Int → Int} {R : zP} {x0 x1 x2 x3 : Option zV} {st : List zV} {M : zM} : uL L xs R 1159 [x0, x1, x2, x3] st M ↔ uL L xs R 1160 [x0, x1, x2, x3] (.inl (2) :: st) M := zU_step dL_1159 (Or.inl rfl)
theorem dL_1160 : decode code 1160 = .ok (.iadd, 1) := by decide +kernel
theorem rL_1160 {L : Nat} {xs : Int → Int} {R : zP} {x0 x1 x2 x3 : Option zV} {st : List zV} {M : zM} {a b : Int} : uL L xs R 1160 [x0, x1, x2, x3] (.inl b :: .inl a :: st) M ↔ uL L xs R 1161 [x0, x1, x2, x3] (.inl (a + b) :: st) M := zU_step dL_1160 (Or.inl rfl)
theorem dL_1161 : decode code 1161 = .ok (.iaload, 1) := by decide +kernel
theorem rL_1161 {L : Nat} {xs : Int → Int} {R : zP} {x0 x1 x2 x3 : Option zV} {st : List zV} {M : zM} {i : Int} {r : Nat} : uL L xs R 1161 [x0, x1, x2, x3] (.inl i :: .inr (.inr r) :: st) M ↔ zread (fL L xs) 0 r M i (fun v => uL L xs R 1162 [x0, x1, x2, x3] (.inl v :: st) M) := zU_step dL_1161 (Or.inl rfl)
theorem dL_1162 : decode code 1162 = .ok (.aload_n 0, 1) := by decide +kernel
theorem rL_1162 {L : Nat} {xs : Int → Int} {R : zP} {x1 x2 x3 : Option zV} {st : List zV} {M : zM} {a : Nat} : uL L xs R 1162 [some (.inr (.inr a)), x1, x2, x3] st M ↔ uL L xs R 1163 [some (.inr (.inr a)), x1, x2, x3] (.inr (.inr a) :: st) M := zU_step dL_1162 (Or.inl rfl)
theorem dL_1163 : decode code 1163 = .ok (.iload_n 3, 1) := by decide +kernel
theorem rL_1163 {L : Nat} {xs : Int → Int} {R : zP} {x0 x1 x2 : Option zV} {st : List zV} {M : zM} {a : Int} : uL L xs R 1163 [x0, x1, x2, some (.inl a)] st M ↔ uL L xs R 1164 [x0, x1, x2, some (.inl a)] (.inl a :: st) M := zU_step dL_1163 (Or.inl rfl)
theorem dL_1164 : decode code 1164 = .ok (.iconst 3, 1) := by decide +kernel
theorem rL_1164 {L : Nat} {xs : Int → Int} {R : zP} {x0 x1 x2 x3 : Option zV} {st : List zV} {M : zM} : uL L xs R 1164 [x0, x1, x2, x3] st M ↔ uL L xs R 1165 [x0, x1, x2, x3] (.inl (3) :: st) M := zU_step dL_1164 (Or.inl rfl)
theorem dL_1165 : decode code 1165 = .ok (.iadd, 1) := by decide +kernel
theorem rL_1165 {L : Nat} {xs : Int → Int} {R : zP} {x0 x1 x2 x3 : Option zV} {st : List zV} {M : zM} {a b : Int} : uL L xs R 1165 [x0, x1, x2, x3] (.inl b :: .inl a :: st) M ↔ uL L xs R 1166 [x0, x1, x2, x3] (.inl (a + b) :: st) M := zU_step dL_1165 (Or.inl rfl)
theorem dL_1166 : decode code 1166 = .ok (.iaload, 1) := by decide +kernel
theorem rL_1166 {L : Nat} {xs : Int → Int} {R : zP} {x0 x1 x2 x3 : Option zV} {st : List zV} {M : zM} {i : Int} {r : Nat} : uL L xs R 1166 [x0, x1, x2, x3] (.inl i :: .inr (.inr r) :: st) M ↔ zread (fL L xs) 0 r M i (fun v => uL L xs R 1167 [x0, x1, x2, x3] (.inl v :: st) M) := zU_step dL_1166 (Or.inl rfl)
theorem dL_1167 : decode code 1167 = .ok (.aload_n 0, 1) := by decide +kernel
theorem rL_1167 {L : Nat} {xs : Int → Int} {R : zP} {x1 x2 x3 : Option zV} {st : List zV} {M : zM} {a : Nat} : uL L xs R 1167 [some (.inr (.inr a)), x1, x2, x3] st M ↔ uL L xs R 1168 [some (.inr (.inr a)), x1, x2, x3] (.inr (.inr a) :: st) M := zU_step dL_1167 (Or.inl rfl)
theorem dL_1168 : decode code 1168 = .ok (.iload_n 3, 1) := by decide +kernel
theorem rL_1168 {L : Nat} {xs : Int → Int} {R : zP} {x0 x1 x2 : Option zV} {st : List zV} {M : zM} {a : Int} : uL L xs R 1168 [x0, x1, x2, some (.inl a)] st M ↔ uL L xs R 1169 [x0, x1, x2, some (.inl a)] (.inl a :: st) M := zU_step dL_1168 (Or.inl rfl)
theorem dL_1169 : decode code 1169 = .ok (.iconst 4, 1) := by decide +kernel
theorem rL_1169 {L : Nat} {xs : Int → Int} {R : zP} {x0 x1 x2 x3 : Option zV} {st : List zV} {M : zM} : uL L xs R 1169 [x0, x1, x2, x3] st M ↔ uL L xs R 1170 [x0, x1, x2, x3] (.inl (4) :: st) M := zU_step dL_1169 (Or.inl rfl)
theorem dL_1170 : decode code 1170 = .ok (.iadd, 1) := by decide +kernel
theorem rL_1170 {L : Nat} {xs : Int → Int} {R : zP} {x0 x1 x2 x3 : Option zV} {st : List zV} {M : zM} {a b : Int} : uL L xs R 1170 [x0, x1, x2, x3] (.inl b :: .inl a :: st) M ↔ uL L xs R 1171 [x0, x1, x2, x3] (.inl (a + b) :: st) M := zU_step dL_1170 (Or.inl rfl)
theorem dL_1171 : decode code 1171 = .ok (.iaload, 1) := by decide +kernel
theorem rL_1171 {L : Nat} {xs : Int → Int} {R : zP} {x0 x1 x2 x3 : Option zV} {st : List zV} {M : zM} {i : Int} {r : Nat} : uL L xs R 1171 [x0, x1, x2, x3] (.inl i :: .inr (.inr r) :: st) M ↔ zread (fL L xs) 0 r M i (fun v => uL L xs R 1172 [x0, x1, x2, x3] (.inl v :: st) M) := zU_step dL_1171 (Or.inl rfl)
theorem dL_1172 : decode code 1172 = .ok (.invokevirtual 139, 3) := by decide +kernel
theorem rL_1172 {L : Nat} {xs : Int → Int} {R : zP} {x0 x1 x2 x3 : Option zV} {st : List zV} {M : zM} {a0 a1 a2 a3 a4 : zV} : uL L xs R 1172 [x0, x1, x2, x3] (a4 :: a3 :: a2 :: a1 :: a0 :: st) M ↔ (st.length ≤ 4 ∧ zcv (zv 8 (znm tX8_put)) [a0, a1, a2, a3, a4] M (fun v M => uL L xs R 1175 [x0, x1, x2, x3] (v :: st) M)) := Iff.trans (zU_step dL_1172 (Or.inl rfl)) ⟨fun h => ⟨h.2.1, zcv_of h.2.2⟩, fun h => ⟨rfl, h.1, zcv_to h.2⟩⟩
theorem dL_1175 : decode code 1175 = .ok (.if_icmp .eq 191, 3) := by decide +kernel
theorem rL_1175 {L : Nat} {xs : Int → Int} {R : zP} {x0 x1 x2 x3 : Option zV} {st : List zV} {M : zM} {a b : Int} : uL L xs R 1175 [x0, x1, x2, x3] (.inl b :: .inl a :: st) M ↔ ((zIR a ∧ zIR b) ∧ if a = b then uL L xs R 1366 [x0, x1, x2, x3] st M else uL L xs R 1178 [x0, x1, x2, x3] st M) := Iff.trans (zU_step dL_1175 (Or.inl rfl)) ⟨fun h => ⟨⟨h.1.1, h.1.2.1⟩, (zite (c := a = b)).mpr h.2⟩, fun h => ⟨⟨h.1.1, h.1.2, by decide⟩, (zite (c := a = b)).mp h.2⟩⟩
theorem dL_1178 : decode code 1178 = .ok (.iconst 0, 1) := by decide +kernel
theorem rL_1178 {L : Nat} {xs : Int → Int} {R : zP} {x0 x1 x2 x3 : Option zV} {st : List zV} {M : zM} : uL L xs R 1178 [x0, x1, x2, x3] st M ↔ uL L xs R 1179 [x0, x1, x2, x3] (.inl (0) :: st) M := zU_step dL_1178 (Or.inl rfl)
theorem dL_1179 : decode code 1179 = .ok (.ireturn, 1) := by decide +kernel
theorem rL_1179 {L : Nat} {xs : Int → Int} {R : zP} {x0 x1 x2 x3 : Option zV} {M : zM} {a : Int} : uL L xs R 1179 [x0, x1, x2, x3] [.inl a] M ↔ ((a = 0 ∨ a = 1) ∧ R (some (.inl a)) M) := Iff.trans (zU_step dL_1179 (Or.inl rfl)) ⟨fun h => ⟨zret2 rfl h.2.1, h.2.2⟩, fun h => ⟨rfl, Or.inr (Or.inl ⟨rfl, h.1⟩), h.2⟩⟩
theorem dL_1180 : decode code 1180 = .ok (.aload_n 1, 1) := by decide +kernel
theorem rL_1180 {L : Nat} {xs : Int → Int} {R : zP} {x0 x2 x3 : Option zV} {st : List zV} {M : zM} {a : Nat} : uL L xs R 1180 [x0, some (.inr (.inr a)), x2, x3] st M ↔ uL L xs R 1181 [x0, some (.inr (.inr a)), x2, x3] (.inr (.inr a) :: st) M := zU_step dL_1180 (Or.inl rfl)
theorem dL_1181 : decode code 1181 = .ok (.aload_n 0, 1) := by decide +kernel
theorem rL_1181 {L : Nat} {xs : Int → Int} {R : zP} {x1 x2 x3 : Option zV} {st : List zV} {M : zM} {a : Nat} : uL L xs R 1181 [some (.inr (.inr a)), x1, x2, x3] st M ↔ uL L xs R 1182 [some (.inr (.inr a)), x1, x2, x3] (.inr (.inr a) :: st) M := zU_step dL_1181 (Or.inl rfl)
theorem dL_1182 : decode code 1182 = .ok (.iload_n 3, 1) := by decide +kernel
theorem rL_1182 {L : Nat} {xs : Int → Int} {R : zP} {x0 x1 x2 : Option zV} {st : List zV} {M : zM} {a : Int} : uL L xs R 1182 [x0, x1, x2, some (.inl a)] st M ↔ uL L xs R 1183 [x0, x1, x2, some (.inl a)] (.inl a :: st) M := zU_step dL_1182 (Or.inl rfl)
theorem dL_1183 : decode code 1183 = .ok (.iconst 1, 1) := by decide +kernel
theorem rL_1183 {L : Nat} {xs : Int → Int} {R : zP} {x0 x1 x2 x3 : Option zV} {st : List zV} {M : zM} : uL L xs R 1183 [x0, x1, x2, x3] st M ↔ uL L xs R 1184 [x0, x1, x2, x3] (.inl (1) :: st) M := zU_step dL_1183 (Or.inl rfl)
theorem dL_1184 : decode code 1184 = .ok (.iadd, 1) := by decide +kernel
theorem rL_1184 {L : Nat} {xs : Int → Int} {R : zP} {x0 x1 x2 x3 : Option zV} {st : List zV} {M : zM} {a b : Int} : uL L xs R 1184 [x0, x1, x2, x3] (.inl b :: .inl a :: st) M ↔ uL L xs R 1185 [x0, x1, x2, x3] (.inl (a + b) :: st) M := zU_step dL_1184 (Or.inl rfl)
theorem dL_1185 : decode code 1185 = .ok (.iaload, 1) := by decide +kernel
theorem rL_1185 {L : Nat} {xs : Int → Int} {R : zP} {x0 x1 x2 x3 : Option zV} {st : List zV} {M : zM} {i : Int} {r : Nat} : uL L xs R 1185 [x0, x1, x2, x3] (.inl i :: .inr (.inr r) :: st) M ↔ zread (fL L xs) 0 r M i (fun v => uL L xs R 1186 [x0, x1, x2, x3] (.inl v :: st) M) := zU_step dL_1185 (Or.inl rfl)
theorem dL_1186 : decode code 1186 = .ok (.aload_n 0, 1) := by decide +kernel
theorem rL_1186 {L : Nat} {xs : Int → Int} {R : zP} {x1 x2 x3 : Option zV} {st : List zV} {M : zM} {a : Nat} : uL L xs R 1186 [some (.inr (.inr a)), x1, x2, x3] st M ↔ uL L xs R 1187 [some (.inr (.inr a)), x1, x2, x3] (.inr (.inr a) :: st) M := zU_step dL_1186 (Or.inl rfl)
theorem dL_1187 : decode code 1187 = .ok (.iload_n 3, 1) := by decide +kernel
theorem rL_1187 {L : Nat} {xs : Int → Int} {R : zP} {x0 x1 x2 : Option zV} {st : List zV} {M : zM} {a : Int} : uL L xs R 1187 [x0, x1, x2, some (.inl a)] st M ↔ uL L xs R 1188 [x0, x1, x2, some (.inl a)] (.inl a :: st) M := zU_step dL_1187 (Or.inl rfl)
theorem dL_1188 : decode code 1188 = .ok (.iconst 2, 1) := by decide +kernel
theorem rL_1188 {L : Nat} {xs : Int → Int} {R : zP} {x0 x1 x2 x3 : Option zV} {st : List zV} {M : zM} : uL L xs R 1188 [x0, x1, x2, x3] st M ↔ uL L xs R 1189 [x0, x1, x2, x3] (.inl (2) :: st) M := zU_step dL_1188 (Or.inl rfl)
theorem dL_1189 : decode code 1189 = .ok (.iadd, 1) := by decide +kernel
theorem rL_1189 {L : Nat} {xs : Int → Int} {R : zP} {x0 x1 x2 x3 : Option zV} {st : List zV} {M : zM} {a b : Int} : uL L xs R 1189 [x0, x1, x2, x3] (.inl b :: .inl a :: st) M ↔ uL L xs R 1190 [x0, x1, x2, x3] (.inl (a + b) :: st) M := zU_step dL_1189 (Or.inl rfl)
theorem dL_1190 : decode code 1190 = .ok (.iaload, 1) := by decide +kernel
theorem rL_1190 {L : Nat} {xs : Int → Int} {R : zP} {x0 x1 x2 x3 : Option zV} {st : List zV} {M : zM} {i : Int} {r : Nat} : uL L xs R 1190 [x0, x1, x2, x3] (.inl i :: .inr (.inr r) :: st) M ↔ zread (fL L xs) 0 r M i (fun v => uL L xs R 1191 [x0, x1, x2, x3] (.inl v :: st) M) := zU_step dL_1190 (Or.inl rfl)
theorem dL_1191 : decode code 1191 = .ok (.aload_n 0, 1) := by decide +kernel
theorem rL_1191 {L : Nat} {xs : Int → Int} {R : zP} {x1 x2 x3 : Option zV} {st : List zV} {M : zM} {a : Nat} : uL L xs R 1191 [some (.inr (.inr a)), x1, x2, x3] st M ↔ uL L xs R 1192 [some (.inr (.inr a)), x1, x2, x3] (.inr (.inr a) :: st) M := zU_step dL_1191 (Or.inl rfl)
theorem dL_1192 : decode code 1192 = .ok (.iload_n 3, 1) := by decide +kernel
theorem rL_1192 {L : Nat} {xs : Int → Int} {R : zP} {x0 x1 x2 : Option zV} {st : List zV} {M : zM} {a : Int} : uL L xs R 1192 [x0, x1, x2, some (.inl a)] st M ↔ uL L xs R 1193 [x0, x1, x2, some (.inl a)] (.inl a :: st) M := zU_step dL_1192 (Or.inl rfl)
theorem dL_1193 : decode code 1193 = .ok (.iconst 3, 1) := by decide +kernel
theorem rL_1193 {L : Nat} {xs : Int → Int} {R : zP} {x0 x1 x2 x3 : Option zV} {st : List zV} {M : zM} : uL L xs R 1193 [x0, x1, x2, x3] st M ↔ uL L xs R 1194 [x0, x1, x2, x3] (.inl (3) :: st) M := zU_step dL_1193 (Or.inl rfl)
theorem dL_1194 : decode code 1194 = .ok (.iadd, 1) := by decide +kernel
theorem rL_1194 {L : Nat} {xs : Int → Int} {R : zP} {x0 x1 x2 x3 : Option zV} {st : List zV} {M : zM} {a b : Int} : uL L xs R 1194 [x0, x1, x2, x3] (.inl b :: .inl a :: st) M ↔ uL L xs R 1195 [x0, x1, x2, x3] (.inl (a + b) :: st) M := zU_step dL_1194 (Or.inl rfl)
theorem dL_1195 : decode code 1195 = .ok (.iaload, 1) := by decide +kernel
theorem rL_1195 {L : Nat} {xs : Int → Int} {R : zP} {x0 x1 x2 x3 : Option zV} {st : List zV} {M : zM} {i : Int} {r : Nat} : uL L xs R 1195 [x0, x1, x2, x3] (.inl i :: .inr (.inr r) :: st) M ↔ zread (fL L xs) 0 r M i (fun v => uL L xs R 1196 [x0, x1, x2, x3] (.inl v :: st) M) := zU_step dL_1195 (Or.inl rfl)
theorem dL_1196 : decode code 1196 = .ok (.invokevirtual 140, 3) := by decide +kernel
theorem rL_1196 {L : Nat} {xs : Int → Int} {R : zP} {x0 x1 x2 x3 : Option zV} {st : List zV} {M : zM} {a0 a1 a2 a3 : zV} : uL L xs R 1196 [x0, x1, x2, x3] (a3 :: a2 :: a1 :: a0 :: st) M ↔ (st.length ≤ 4 ∧ zcv (zv 7 (znm tX7_get)) [a0, a1, a2, a3] M (fun v M => uL L xs R 1199 [x0, x1, x2, x3] (v :: st) M)) := Iff.trans (zU_step dL_1196 (Or.inl rfl)) ⟨fun h => ⟨h.2.1, zcv_of h.2.2⟩, fun h => ⟨rfl, h.1, zcv_to h.2⟩⟩
theorem dL_1199 : decode code 1199 = .ok (.aload_n 2, 1) := by decide +kernel
theorem rL_1199 {L : Nat} {xs : Int → Int} {R : zP} {x0 x1 x3 : Option zV} {st : List zV} {M : zM} {a : Nat} : uL L xs R 1199 [x0, x1, some (.inr (.inr a)), x3] st M ↔ uL L xs R 1200 [x0, x1, some (.inr (.inr a)), x3] (.inr (.inr a) :: st) M := zU_step dL_1199 (Or.inl rfl)
theorem dL_1200 : decode code 1200 = .ok (.aload_n 0, 1) := by decide +kernel
theorem rL_1200 {L : Nat} {xs : Int → Int} {R : zP} {x1 x2 x3 : Option zV} {st : List zV} {M : zM} {a : Nat} : uL L xs R 1200 [some (.inr (.inr a)), x1, x2, x3] st M ↔ uL L xs R 1201 [some (.inr (.inr a)), x1, x2, x3] (.inr (.inr a) :: st) M := zU_step dL_1200 (Or.inl rfl)
theorem dL_1201 : decode code 1201 = .ok (.iload_n 3, 1) := by decide +kernel
theorem rL_1201 {L : Nat} {xs : Int → Int} {R : zP} {x0 x1 x2 : Option zV} {st : List zV} {M : zM} {a : Int} : uL L xs R 1201 [x0, x1, x2, some (.inl a)] st M ↔ uL L xs R 1202 [x0, x1, x2, some (.inl a)] (.inl a :: st) M := zU_step dL_1201 (Or.inl rfl)
theorem dL_1202 : decode code 1202 = .ok (.iconst 1, 1) := by decide +kernel
theorem rL_1202 {L : Nat} {xs : Int → Int} {R : zP} {x0 x1 x2 x3 : Option zV} {st : List zV} {M : zM} : uL L xs R 1202 [x0, x1, x2, x3] st M ↔ uL L xs R 1203 [x0, x1, x2, x3] (.inl (1) :: st) M := zU_step dL_1202 (Or.inl rfl)
theorem dL_1203 : decode code 1203 = .ok (.iadd, 1) := by decide +kernel
theorem rL_1203 {L : Nat} {xs : Int → Int} {R : zP} {x0 x1 x2 x3 : Option zV} {st : List zV} {M : zM} {a b : Int} : uL L xs R 1203 [x0, x1, x2, x3] (.inl b :: .inl a :: st) M ↔ uL L xs R 1204 [x0, x1, x2, x3] (.inl (a + b) :: st) M := zU_step dL_1203 (Or.inl rfl)
theorem dL_1204 : decode code 1204 = .ok (.iaload, 1) := by decide +kernel
theorem rL_1204 {L : Nat} {xs : Int → Int} {R : zP} {x0 x1 x2 x3 : Option zV} {st : List zV} {M : zM} {i : Int} {r : Nat} : uL L xs R 1204 [x0, x1, x2, x3] (.inl i :: .inr (.inr r) :: st) M ↔ zread (fL L xs) 0 r M i (fun v => uL L xs R 1205 [x0, x1, x2, x3] (.inl v :: st) M) := zU_step dL_1204 (Or.inl rfl)
theorem dL_1205 : decode code 1205 = .ok (.aload_n 0, 1) := by decide +kernel
theorem rL_1205 {L : Nat} {xs : Int → Int} {R : zP} {x1 x2 x3 : Option zV} {st : List zV} {M : zM} {a : Nat} : uL L xs R 1205 [some (.inr (.inr a)), x1, x2, x3] st M ↔ uL L xs R 1206 [some (.inr (.inr a)), x1, x2, x3] (.inr (.inr a) :: st) M := zU_step dL_1205 (Or.inl rfl)
theorem dL_1206 : decode code 1206 = .ok (.iload_n 3, 1) := by decide +kernel
theorem rL_1206 {L : Nat} {xs : Int → Int} {R : zP} {x0 x1 x2 : Option zV} {st : List zV} {M : zM} {a : Int} : uL L xs R 1206 [x0, x1, x2, some (.inl a)] st M ↔ uL L xs R 1207 [x0, x1, x2, some (.inl a)] (.inl a :: st) M := zU_step dL_1206 (Or.inl rfl)
theorem dL_1207 : decode code 1207 = .ok (.iconst 2, 1) := by decide +kernel
theorem rL_1207 {L : Nat} {xs : Int → Int} {R : zP} {x0 x1 x2 x3 : Option zV} {st : List zV} {M : zM} : uL L xs R 1207 [x0, x1, x2, x3] st M ↔ uL L xs R 1208 [x0, x1, x2, x3] (.inl (2) :: st) M := zU_step dL_1207 (Or.inl rfl)
theorem dL_1208 : decode code 1208 = .ok (.iadd, 1) := by decide +kernel
theorem rL_1208 {L : Nat} {xs : Int → Int} {R : zP} {x0 x1 x2 x3 : Option zV} {st : List zV} {M : zM} {a b : Int} : uL L xs R 1208 [x0, x1, x2, x3] (.inl b :: .inl a :: st) M ↔ uL L xs R 1209 [x0, x1, x2, x3] (.inl (a + b) :: st) M := zU_step dL_1208 (Or.inl rfl)
theorem dL_1209 : decode code 1209 = .ok (.iaload, 1) := by decide +kernel
theorem rL_1209 {L : Nat} {xs : Int → Int} {R : zP} {x0 x1 x2 x3 : Option zV} {st : List zV} {M : zM} {i : Int} {r : Nat} : uL L xs R 1209 [x0, x1, x2, x3] (.inl i :: .inr (.inr r) :: st) M ↔ zread (fL L xs) 0 r M i (fun v => uL L xs R 1210 [x0, x1, x2, x3] (.inl v :: st) M) := zU_step dL_1209 (Or.inl rfl)
theorem dL_1210 : decode code 1210 = .ok (.aload_n 0, 1) := by decide +kernel
theorem rL_1210 {L : Nat} {xs : Int → Int} {R : zP} {x1 x2 x3 : Option zV} {st : List zV} {M : zM} {a : Nat} : uL L xs R 1210 [some (.inr (.inr a)), x1, x2, x3] st M ↔ uL L xs R 1211 [some (.inr (.inr a)), x1, x2, x3] (.inr (.inr a) :: st) M := zU_step dL_1210 (Or.inl rfl)
theorem dL_1211 : decode code 1211 = .ok (.iload_n 3, 1) := by decide +kernel
theorem rL_1211 {L : Nat} {xs : Int → Int} {R : zP} {x0 x1 x2 : Option zV} {st : List zV} {M : zM} {a : Int} : uL L xs R 1211 [x0, x1, x2, some (.inl a)] st M ↔ uL L xs R 1212 [x0, x1, x2, some (.inl a)] (.inl a :: st) M := zU_step dL_1211 (Or.inl rfl)
theorem dL_1212 : decode code 1212 = .ok (.iconst 3, 1) := by decide +kernel
theorem rL_1212 {L : Nat} {xs : Int → Int} {R : zP} {x0 x1 x2 x3 : Option zV} {st : List zV} {M : zM} : uL L xs R 1212 [x0, x1, x2, x3] st M ↔ uL L xs R 1213 [x0, x1, x2, x3] (.inl (3) :: st) M := zU_step dL_1212 (Or.inl rfl)
theorem dL_1213 : decode code 1213 = .ok (.iadd, 1) := by decide +kernel
theorem rL_1213 {L : Nat} {xs : Int → Int} {R : zP} {x0 x1 x2 x3 : Option zV} {st : List zV} {M : zM} {a b : Int} : uL L xs R 1213 [x0, x1, x2, x3] (.inl b :: .inl a :: st) M ↔ uL L xs R 1214 [x0, x1, x2, x3] (.inl (a + b) :: st) M := zU_step dL_1213 (Or.inl rfl)
theorem dL_1214 : decode code 1214 = .ok (.iaload, 1) := by decide +kernel
theorem rL_1214 {L : Nat} {xs : Int → Int} {R : zP} {x0 x1 x2 x3 : Option zV} {st : List zV} {M : zM} {i : Int} {r : Nat} : uL L xs R 1214 [x0, x1, x2, x3] (.inl i :: .inr (.inr r) :: st) M ↔ zread (fL L xs) 0 r M i (fun v => uL L xs R 1215 [x0, x1, x2, x3] (.inl v :: st) M) := zU_step dL_1214 (Or.inl rfl)
theorem dL_1215 : decode code 1215 = .ok (.invokevirtual 143, 3) := by decide +kernel
theorem rL_1215 {L : Nat} {xs : Int → Int} {R : zP} {x0 x1 x2 x3 : Option zV} {st : List zV} {M : zM} {a0 a1 a2 a3 : zV} : uL L xs R 1215 [x0, x1, x2, x3] (a3 :: a2 :: a1 :: a0 :: st) M ↔ (st.length ≤ 4 ∧ zcv (zv 8 (znm tX8_get)) [a0, a1, a2, a3] M (fun v M => uL L xs R 1218 [x0, x1, x2, x3] (v :: st) M)) := Iff.trans (zU_step dL_1215 (Or.inl rfl)) ⟨fun h => ⟨h.2.1, zcv_of h.2.2⟩, fun h => ⟨rfl, h.1, zcv_to h.2⟩⟩
theorem dL_1218 : decode code 1218 = .ok (.if_icmp .eq 148, 3) := by decide +kernel
theorem rL_1218 {L : Nat} {xs : Int → Int} {R : zP} {x0 x1 x2 x3 : Option zV} {st : List zV} {M : zM} {a b : Int} : uL L xs R 1218 [x0, x1, x2, x3] (.inl b :: .inl a :: st) M ↔ ((zIR a ∧ zIR b) ∧ if a = b then uL L xs R 1366 [x0, x1, x2, x3] st M else uL L xs R 1221 [x0, x1, x2, x3] st M) := Iff.trans (zU_step dL_1218 (Or.inl rfl)) ⟨fun h => ⟨⟨h.1.1, h.1.2.1⟩, (zite (c := a = b)).mpr h.2⟩, fun h => ⟨⟨h.1.1, h.1.2, by decide⟩, (zite (c := a = b)).mp h.2⟩⟩
theorem dL_1221 : decode code 1221 = .ok (.iconst 0, 1) := by decide +kernel
theorem rL_1221 {L : Nat} {xs : Int → Int} {R : zP} {x0 x1 x2 x3 : Option zV} {st : List zV} {M : zM} : uL L xs R 1221 [x0, x1, x2, x3] st M ↔ uL L xs R 1222 [x0, x1, x2, x3] (.inl (0) :: st) M := zU_step dL_1221 (Or.inl rfl)
theorem dL_1222 : decode code 1222 = .ok (.ireturn, 1) := by decide +kernel
theorem rL_1222 {L : Nat} {xs : Int → Int} {R : zP} {x0 x1 x2 x3 : Option zV} {M : zM} {a : Int} : uL L xs R 1222 [x0, x1, x2, x3] [.inl a] M ↔ ((a = 0 ∨ a = 1) ∧ R (some (.inl a)) M) := Iff.trans (zU_step dL_1222 (Or.inl rfl)) ⟨fun h => ⟨zret2 rfl h.2.1, h.2.2⟩, fun h => ⟨rfl, Or.inr (Or.inl ⟨rfl, h.1⟩), h.2⟩⟩
theorem dL_1223 : decode code 1223 = .ok (.aload_n 1, 1) := by decide +kernel
theorem rL_1223 {L : Nat} {xs : Int → Int} {R : zP} {x0 x2 x3 : Option zV} {st : List zV} {M : zM} {a : Nat} : uL L xs R 1223 [x0, some (.inr (.inr a)), x2, x3] st M ↔ uL L xs R 1224 [x0, some (.inr (.inr a)), x2, x3] (.inr (.inr a) :: st) M := zU_step dL_1223 (Or.inl rfl)
theorem dL_1224 : decode code 1224 = .ok (.aload_n 0, 1) := by decide +kernel
theorem rL_1224 {L : Nat} {xs : Int → Int} {R : zP} {x1 x2 x3 : Option zV} {st : List zV} {M : zM} {a : Nat} : uL L xs R 1224 [some (.inr (.inr a)), x1, x2, x3] st M ↔ uL L xs R 1225 [some (.inr (.inr a)), x1, x2, x3] (.inr (.inr a) :: st) M := zU_step dL_1224 (Or.inl rfl)
theorem dL_1225 : decode code 1225 = .ok (.iload_n 3, 1) := by decide +kernel
theorem rL_1225 {L : Nat} {xs : Int → Int} {R : zP} {x0 x1 x2 : Option zV} {st : List zV} {M : zM} {a : Int} : uL L xs R 1225 [x0, x1, x2, some (.inl a)] st M ↔ uL L xs R 1226 [x0, x1, x2, some (.inl a)] (.inl a :: st) M := zU_step dL_1225 (Or.inl rfl)
theorem dL_1226 : decode code 1226 = .ok (.iconst 1, 1) := by decide +kernel
theorem rL_1226 {L : Nat} {xs : Int → Int} {R : zP} {x0 x1 x2 x3 : Option zV} {st : List zV} {M : zM} : uL L xs R 1226 [x0, x1, x2, x3] st M ↔ uL L xs R 1227 [x0, x1, x2, x3] (.inl (1) :: st) M := zU_step dL_1226 (Or.inl rfl)
theorem dL_1227 : decode code 1227 = .ok (.iadd, 1) := by decide +kernel
theorem rL_1227 {L : Nat} {xs : Int → Int} {R : zP} {x0 x1 x2 x3 : Option zV} {st : List zV} {M : zM} {a b : Int} : uL L xs R 1227 [x0, x1, x2, x3] (.inl b :: .inl a :: st) M ↔ uL L xs R 1228 [x0, x1, x2, x3] (.inl (a + b) :: st) M := zU_step dL_1227 (Or.inl rfl)
theorem dL_1228 : decode code 1228 = .ok (.iaload, 1) := by decide +kernel
theorem rL_1228 {L : Nat} {xs : Int → Int} {R : zP} {x0 x1 x2 x3 : Option zV} {st : List zV} {M : zM} {i : Int} {r : Nat} : uL L xs R 1228 [x0, x1, x2, x3] (.inl i :: .inr (.inr r) :: st) M ↔ zread (fL L xs) 0 r M i (fun v => uL L xs R 1229 [x0, x1, x2, x3] (.inl v :: st) M) := zU_step dL_1228 (Or.inl rfl)
theorem dL_1229 : decode code 1229 = .ok (.aload_n 0, 1) := by decide +kernel
theorem rL_1229 {L : Nat} {xs : Int → Int} {R : zP} {x1 x2 x3 : Option zV} {st : List zV} {M : zM} {a : Nat} : uL L xs R 1229 [some (.inr (.inr a)), x1, x2, x3] st M ↔ uL L xs R 1230 [some (.inr (.inr a)), x1, x2, x3] (.inr (.inr a) :: st) M := zU_step dL_1229 (Or.inl rfl)
theorem dL_1230 : decode code 1230 = .ok (.iload_n 3, 1) := by decide +kernel
theorem rL_1230 {L : Nat} {xs : Int → Int} {R : zP} {x0 x1 x2 : Option zV} {st : List zV} {M : zM} {a : Int} : uL L xs R 1230 [x0, x1, x2, some (.inl a)] st M ↔ uL L xs R 1231 [x0, x1, x2, some (.inl a)] (.inl a :: st) M := zU_step dL_1230 (Or.inl rfl)
theorem dL_1231 : decode code 1231 = .ok (.iconst 2, 1) := by decide +kernel
theorem rL_1231 {L : Nat} {xs : Int → Int} {R : zP} {x0 x1 x2 x3 : Option zV} {st : List zV} {M : zM} : uL L xs R 1231 [x0, x1, x2, x3] st M ↔ uL L xs R 1232 [x0, x1, x2, x3] (.inl (2) :: st) M := zU_step dL_1231 (Or.inl rfl)
theorem dL_1232 : decode code 1232 = .ok (.iadd, 1) := by decide +kernel
theorem rL_1232 {L : Nat} {xs : Int → Int} {R : zP} {x0 x1 x2 x3 : Option zV} {st : List zV} {M : zM} {a b : Int} : uL L xs R 1232 [x0, x1, x2, x3] (.inl b :: .inl a :: st) M ↔ uL L xs R 1233 [x0, x1, x2, x3] (.inl (a + b) :: st) M := zU_step dL_1232 (Or.inl rfl)
theorem dL_1233 : decode code 1233 = .ok (.iaload, 1) := by decide +kernel
theorem rL_1233 {L : Nat} {xs : Int → Int} {R : zP} {x0 x1 x2 x3 : Option zV} {st : List zV} {M : zM} {i : Int} {r : Nat} : uL L xs R 1233 [x0, x1, x2, x3] (.inl i :: .inr (.inr r) :: st) M ↔ zread (fL L xs) 0 r M i (fun v => uL L xs R 1234 [x0, x1, x2, x3] (.inl v :: st) M) := zU_step dL_1233 (Or.inl rfl)
theorem dL_1234 : decode code 1234 = .ok (.aload_n 0, 1) := by decide +kernel
theorem rL_1234 {L : Nat} {xs : Int → Int} {R : zP} {x1 x2 x3 : Option zV} {st : List zV} {M : zM} {a : Nat} : uL L xs R 1234 [some (.inr (.inr a)), x1, x2, x3] st M ↔ uL L xs R 1235 [some (.inr (.inr a)), x1, x2, x3] (.inr (.inr a) :: st) M := zU_step dL_1234 (Or.inl rfl)
theorem dL_1235 : decode code 1235 = .ok (.iload_n 3, 1) := by decide +kernel
theorem rL_1235 {L : Nat} {xs : Int → Int} {R : zP} {x0 x1 x2 : Option zV} {st : List zV} {M : zM} {a : Int} : uL L xs R 1235 [x0, x1, x2, some (.inl a)] st M ↔ uL L xs R 1236 [x0, x1, x2, some (.inl a)] (.inl a :: st) M := zU_step dL_1235 (Or.inl rfl)
theorem dL_1236 : decode code 1236 = .ok (.iconst 3, 1) := by decide +kernel
theorem rL_1236 {L : Nat} {xs : Int → Int} {R : zP} {x0 x1 x2 x3 : Option zV} {st : List zV} {M : zM} : uL L xs R 1236 [x0, x1, x2, x3] st M ↔ uL L xs R 1237 [x0, x1, x2, x3] (.inl (3) :: st) M := zU_step dL_1236 (Or.inl rfl)
theorem dL_1237 : decode code 1237 = .ok (.iadd, 1) := by decide +kernel
theorem rL_1237 {L : Nat} {xs : Int → Int} {R : zP} {x0 x1 x2 x3 : Option zV} {st : List zV} {M : zM} {a b : Int} : uL L xs R 1237 [x0, x1, x2, x3] (.inl b :: .inl a :: st) M ↔ uL L xs R 1238 [x0, x1, x2, x3] (.inl (a + b) :: st) M := zU_step dL_1237 (Or.inl rfl)
theorem dL_1238 : decode code 1238 = .ok (.iaload, 1) := by decide +kernel
theorem rL_1238 {L : Nat} {xs : Int → Int} {R : zP} {x0 x1 x2 x3 : Option zV} {st : List zV} {M : zM} {i : Int} {r : Nat} : uL L xs R 1238 [x0, x1, x2, x3] (.inl i :: .inr (.inr r) :: st) M ↔ zread (fL L xs) 0 r M i (fun v => uL L xs R 1239 [x0, x1, x2, x3] (.inl v :: st) M) := zU_step dL_1238 (Or.inl rfl)
theorem dL_1239 : decode code 1239 = .ok (.aload_n 0, 1) := by decide +kernel
theorem rL_1239 {L : Nat} {xs : Int → Int} {R : zP} {x1 x2 x3 : Option zV} {st : List zV} {M : zM} {a : Nat} : uL L xs R 1239 [some (.inr (.inr a)), x1, x2, x3] st M ↔ uL L xs R 1240 [some (.inr (.inr a)), x1, x2, x3] (.inr (.inr a) :: st) M := zU_step dL_1239 (Or.inl rfl)
theorem dL_1240 : decode code 1240 = .ok (.iload_n 3, 1) := by decide +kernel
theorem rL_1240 {L : Nat} {xs : Int → Int} {R : zP} {x0 x1 x2 : Option zV} {st : List zV} {M : zM} {a : Int} : uL L xs R 1240 [x0, x1, x2, some (.inl a)] st M ↔ uL L xs R 1241 [x0, x1, x2, some (.inl a)] (.inl a :: st) M := zU_step dL_1240 (Or.inl rfl)
theorem dL_1241 : decode code 1241 = .ok (.iconst 4, 1) := by decide +kernel
theorem rL_1241 {L : Nat} {xs : Int → Int} {R : zP} {x0 x1 x2 x3 : Option zV} {st : List zV} {M : zM} : uL L xs R 1241 [x0, x1, x2, x3] st M ↔ uL L xs R 1242 [x0, x1, x2, x3] (.inl (4) :: st) M := zU_step dL_1241 (Or.inl rfl)
theorem dL_1242 : decode code 1242 = .ok (.iadd, 1) := by decide +kernel
theorem rL_1242 {L : Nat} {xs : Int → Int} {R : zP} {x0 x1 x2 x3 : Option zV} {st : List zV} {M : zM} {a b : Int} : uL L xs R 1242 [x0, x1, x2, x3] (.inl b :: .inl a :: st) M ↔ uL L xs R 1243 [x0, x1, x2, x3] (.inl (a + b) :: st) M := zU_step dL_1242 (Or.inl rfl)
theorem dL_1243 : decode code 1243 = .ok (.iaload, 1) := by decide +kernel
theorem rL_1243 {L : Nat} {xs : Int → Int} {R : zP} {x0 x1 x2 x3 : Option zV} {st : List zV} {M : zM} {i : Int} {r : Nat} : uL L xs R 1243 [x0, x1, x2, x3] (.inl i :: .inr (.inr r) :: st) M ↔ zread (fL L xs) 0 r M i (fun v => uL L xs R 1244 [x0, x1, x2, x3] (.inl v :: st) M) := zU_step dL_1243 (Or.inl rfl)
theorem dL_1244 : decode code 1244 = .ok (.aload_n 0, 1) := by decide +kernel
theorem rL_1244 {L : Nat} {xs : Int → Int} {R : zP} {x1 x2 x3 : Option zV} {st : List zV} {M : zM} {a : Nat} : uL L xs R 1244 [some (.inr (.inr a)), x1, x2, x3] st M ↔ uL L xs R 1245 [some (.inr (.inr a)), x1, x2, x3] (.inr (.inr a) :: st) M := zU_step dL_1244 (Or.inl rfl)
theorem dL_1245 : decode code 1245 = .ok (.iload_n 3, 1) := by decide +kernel
theorem rL_1245 {L : Nat} {xs : Int → Int} {R : zP} {x0 x1 x2 : Option zV} {st : List zV} {M : zM} {a : Int} : uL L xs R 1245 [x0, x1, x2, some (.inl a)] st M ↔ uL L xs R 1246 [x0, x1, x2, some (.inl a)] (.inl a :: st) M := zU_step dL_1245 (Or.inl rfl)
theorem dL_1246 : decode code 1246 = .ok (.iconst 5, 1) := by decide +kernel
theorem rL_1246 {L : Nat} {xs : Int → Int} {R : zP} {x0 x1 x2 x3 : Option zV} {st : List zV} {M : zM} : uL L xs R 1246 [x0, x1, x2, x3] st M ↔ uL L xs R 1247 [x0, x1, x2, x3] (.inl (5) :: st) M := zU_step dL_1246 (Or.inl rfl)
theorem dL_1247 : decode code 1247 = .ok (.iadd, 1) := by decide +kernel
theorem rL_1247 {L : Nat} {xs : Int → Int} {R : zP} {x0 x1 x2 x3 : Option zV} {st : List zV} {M : zM} {a b : Int} : uL L xs R 1247 [x0, x1, x2, x3] (.inl b :: .inl a :: st) M ↔ uL L xs R 1248 [x0, x1, x2, x3] (.inl (a + b) :: st) M := zU_step dL_1247 (Or.inl rfl)
theorem dL_1248 : decode code 1248 = .ok (.iaload, 1) := by decide +kernel
theorem rL_1248 {L : Nat} {xs : Int → Int} {R : zP} {x0 x1 x2 x3 : Option zV} {st : List zV} {M : zM} {i : Int} {r : Nat} : uL L xs R 1248 [x0, x1, x2, x3] (.inl i :: .inr (.inr r) :: st) M ↔ zread (fL L xs) 0 r M i (fun v => uL L xs R 1249 [x0, x1, x2, x3] (.inl v :: st) M) := zU_step dL_1248 (Or.inl rfl)
theorem dL_1249 : decode code 1249 = .ok (.invokevirtual 144, 3) := by decide +kernel
theorem rL_1249 {L : Nat} {xs : Int → Int} {R : zP} {x0 x1 x2 x3 : Option zV} {st : List zV} {M : zM} {a0 a1 a2 a3 a4 a5 : zV} : uL L xs R 1249 [x0, x1, x2, x3] (a5 :: a4 :: a3 :: a2 :: a1 :: a0 :: st) M ↔ (st.length ≤ 4 ∧ zcv (zv 7 (znm tX7_copy)) [a0, a1, a2, a3, a4, a5] M (fun v M => uL L xs R 1252 [x0, x1, x2, x3] (v :: st) M)) := Iff.trans (zU_step dL_1249 (Or.inl rfl)) ⟨fun h => ⟨h.2.1, zcv_of h.2.2⟩, fun h => ⟨rfl, h.1, zcv_to h.2⟩⟩
theorem dL_1252 : decode code 1252 = .ok (.aload_n 2, 1) := by decide +kernel
theorem rL_1252 {L : Nat} {xs : Int → Int} {R : zP} {x0 x1 x3 : Option zV} {st : List zV} {M : zM} {a : Nat} : uL L xs R 1252 [x0, x1, some (.inr (.inr a)), x3] st M ↔ uL L xs R 1253 [x0, x1, some (.inr (.inr a)), x3] (.inr (.inr a) :: st) M := zU_step dL_1252 (Or.inl rfl)
theorem dL_1253 : decode code 1253 = .ok (.aload_n 0, 1) := by decide +kernel
theorem rL_1253 {L : Nat} {xs : Int → Int} {R : zP} {x1 x2 x3 : Option zV} {st : List zV} {M : zM} {a : Nat} : uL L xs R 1253 [some (.inr (.inr a)), x1, x2, x3] st M ↔ uL L xs R 1254 [some (.inr (.inr a)), x1, x2, x3] (.inr (.inr a) :: st) M := zU_step dL_1253 (Or.inl rfl)
theorem dL_1254 : decode code 1254 = .ok (.iload_n 3, 1) := by decide +kernel
theorem rL_1254 {L : Nat} {xs : Int → Int} {R : zP} {x0 x1 x2 : Option zV} {st : List zV} {M : zM} {a : Int} : uL L xs R 1254 [x0, x1, x2, some (.inl a)] st M ↔ uL L xs R 1255 [x0, x1, x2, some (.inl a)] (.inl a :: st) M := zU_step dL_1254 (Or.inl rfl)
theorem dL_1255 : decode code 1255 = .ok (.iconst 1, 1) := by decide +kernel
theorem rL_1255 {L : Nat} {xs : Int → Int} {R : zP} {x0 x1 x2 x3 : Option zV} {st : List zV} {M : zM} : uL L xs R 1255 [x0, x1, x2, x3] st M ↔ uL L xs R 1256 [x0, x1, x2, x3] (.inl (1) :: st) M := zU_step dL_1255 (Or.inl rfl)
theorem dL_1256 : decode code 1256 = .ok (.iadd, 1) := by decide +kernel
theorem rL_1256 {L : Nat} {xs : Int → Int} {R : zP} {x0 x1 x2 x3 : Option zV} {st : List zV} {M : zM} {a b : Int} : uL L xs R 1256 [x0, x1, x2, x3] (.inl b :: .inl a :: st) M ↔ uL L xs R 1257 [x0, x1, x2, x3] (.inl (a + b) :: st) M := zU_step dL_1256 (Or.inl rfl)
theorem dL_1257 : decode code 1257 = .ok (.iaload, 1) := by decide +kernel
theorem rL_1257 {L : Nat} {xs : Int → Int} {R : zP} {x0 x1 x2 x3 : Option zV} {st : List zV} {M : zM} {i : Int} {r : Nat} : uL L xs R 1257 [x0, x1, x2, x3] (.inl i :: .inr (.inr r) :: st) M ↔ zread (fL L xs) 0 r M i (fun v => uL L xs R 1258 [x0, x1, x2, x3] (.inl v :: st) M) := zU_step dL_1257 (Or.inl rfl)
theorem dL_1258 : decode code 1258 = .ok (.aload_n 0, 1) := by decide +kernel
theorem rL_1258 {L : Nat} {xs : Int → Int} {R : zP} {x1 x2 x3 : Option zV} {st : List zV} {M : zM} {a : Nat} : uL L xs R 1258 [some (.inr (.inr a)), x1, x2, x3] st M ↔ uL L xs R 1259 [some (.inr (.inr a)), x1, x2, x3] (.inr (.inr a) :: st) M := zU_step dL_1258 (Or.inl rfl)
theorem dL_1259 : decode code 1259 = .ok (.iload_n 3, 1) := by decide +kernel
theorem rL_1259 {L : Nat} {xs : Int → Int} {R : zP} {x0 x1 x2 : Option zV} {st : List zV} {M : zM} {a : Int} : uL L xs R 1259 [x0, x1, x2, some (.inl a)] st M ↔ uL L xs R 1260 [x0, x1, x2, some (.inl a)] (.inl a :: st) M := zU_step dL_1259 (Or.inl rfl)
theorem dL_1260 : decode code 1260 = .ok (.iconst 2, 1) := by decide +kernel
theorem rL_1260 {L : Nat} {xs : Int → Int} {R : zP} {x0 x1 x2 x3 : Option zV} {st : List zV} {M : zM} : uL L xs R 1260 [x0, x1, x2, x3] st M ↔ uL L xs R 1261 [x0, x1, x2, x3] (.inl (2) :: st) M := zU_step dL_1260 (Or.inl rfl)
theorem dL_1261 : decode code 1261 = .ok (.iadd, 1) := by decide +kernel
theorem rL_1261 {L : Nat} {xs : Int → Int} {R : zP} {x0 x1 x2 x3 : Option zV} {st : List zV} {M : zM} {a b : Int} : uL L xs R 1261 [x0, x1, x2, x3] (.inl b :: .inl a :: st) M ↔ uL L xs R 1262 [x0, x1, x2, x3] (.inl (a + b) :: st) M := zU_step dL_1261 (Or.inl rfl)
theorem dL_1262 : decode code 1262 = .ok (.iaload, 1) := by decide +kernel
theorem rL_1262 {L : Nat} {xs : Int → Int} {R : zP} {x0 x1 x2 x3 : Option zV} {st : List zV} {M : zM} {i : Int} {r : Nat} : uL L xs R 1262 [x0, x1, x2, x3] (.inl i :: .inr (.inr r) :: st) M ↔ zread (fL L xs) 0 r M i (fun v => uL L xs R 1263 [x0, x1, x2, x3] (.inl v :: st) M) := zU_step dL_1262 (Or.inl rfl)
theorem dL_1263 : decode code 1263 = .ok (.aload_n 0, 1) := by decide +kernel
theorem rL_1263 {L : Nat} {xs : Int → Int} {R : zP} {x1 x2 x3 : Option zV} {st : List zV} {M : zM} {a : Nat} : uL L xs R 1263 [some (.inr (.inr a)), x1, x2, x3] st M ↔ uL L xs R 1264 [some (.inr (.inr a)), x1, x2, x3] (.inr (.inr a) :: st) M := zU_step dL_1263 (Or.inl rfl)
theorem dL_1264 : decode code 1264 = .ok (.iload_n 3, 1) := by decide +kernel
theorem rL_1264 {L : Nat} {xs : Int → Int} {R : zP} {x0 x1 x2 : Option zV} {st : List zV} {M : zM} {a : Int} : uL L xs R 1264 [x0, x1, x2, some (.inl a)] st M ↔ uL L xs R 1265 [x0, x1, x2, some (.inl a)] (.inl a :: st) M := zU_step dL_1264 (Or.inl rfl)
theorem dL_1265 : decode code 1265 = .ok (.iconst 3, 1) := by decide +kernel
theorem rL_1265 {L : Nat} {xs : Int → Int} {R : zP} {x0 x1 x2 x3 : Option zV} {st : List zV} {M : zM} : uL L xs R 1265 [x0, x1, x2, x3] st M ↔ uL L xs R 1266 [x0, x1, x2, x3] (.inl (3) :: st) M := zU_step dL_1265 (Or.inl rfl)
theorem dL_1266 : decode code 1266 = .ok (.iadd, 1) := by decide +kernel
theorem rL_1266 {L : Nat} {xs : Int → Int} {R : zP} {x0 x1 x2 x3 : Option zV} {st : List zV} {M : zM} {a b : Int} : uL L xs R 1266 [x0, x1, x2, x3] (.inl b :: .inl a :: st) M ↔ uL L xs R 1267 [x0, x1, x2, x3] (.inl (a + b) :: st) M := zU_step dL_1266 (Or.inl rfl)
theorem dL_1267 : decode code 1267 = .ok (.iaload, 1) := by decide +kernel
theorem rL_1267 {L : Nat} {xs : Int → Int} {R : zP} {x0 x1 x2 x3 : Option zV} {st : List zV} {M : zM} {i : Int} {r : Nat} : uL L xs R 1267 [x0, x1, x2, x3] (.inl i :: .inr (.inr r) :: st) M ↔ zread (fL L xs) 0 r M i (fun v => uL L xs R 1268 [x0, x1, x2, x3] (.inl v :: st) M) := zU_step dL_1267 (Or.inl rfl)
theorem dL_1268 : decode code 1268 = .ok (.aload_n 0, 1) := by decide +kernel
theorem rL_1268 {L : Nat} {xs : Int → Int} {R : zP} {x1 x2 x3 : Option zV} {st : List zV} {M : zM} {a : Nat} : uL L xs R 1268 [some (.inr (.inr a)), x1, x2, x3] st M ↔ uL L xs R 1269 [some (.inr (.inr a)), x1, x2, x3] (.inr (.inr a) :: st) M := zU_step dL_1268 (Or.inl rfl)
theorem dL_1269 : decode code 1269 = .ok (.iload_n 3, 1) := by decide +kernel
theorem rL_1269 {L : Nat} {xs : Int → Int} {R : zP} {x0 x1 x2 : Option zV} {st : List zV} {M : zM} {a : Int} : uL L xs R 1269 [x0, x1, x2, some (.inl a)] st M ↔ uL L xs R 1270 [x0, x1, x2, some (.inl a)] (.inl a :: st) M := zU_step dL_1269 (Or.inl rfl)
theorem dL_1270 : decode code 1270 = .ok (.iconst 4, 1) := by decide +kernel
theorem rL_1270 {L : Nat} {xs : Int → Int} {R : zP} {x0 x1 x2 x3 : Option zV} {st : List zV} {M : zM} : uL L xs R 1270 [x0, x1, x2, x3] st M ↔ uL L xs R 1271 [x0, x1, x2, x3] (.inl (4) :: st) M := zU_step dL_1270 (Or.inl rfl)
theorem dL_1271 : decode code 1271 = .ok (.iadd, 1) := by decide +kernel
theorem rL_1271 {L : Nat} {xs : Int → Int} {R : zP} {x0 x1 x2 x3 : Option zV} {st : List zV} {M : zM} {a b : Int} : uL L xs R 1271 [x0, x1, x2, x3] (.inl b :: .inl a :: st) M ↔ uL L xs R 1272 [x0, x1, x2, x3] (.inl (a + b) :: st) M := zU_step dL_1271 (Or.inl rfl)
theorem dL_1272 : decode code 1272 = .ok (.iaload, 1) := by decide +kernel
theorem rL_1272 {L : Nat} {xs : Int → Int} {R : zP} {x0 x1 x2 x3 : Option zV} {st : List zV} {M : zM} {i : Int} {r : Nat} : uL L xs R 1272 [x0, x1, x2, x3] (.inl i :: .inr (.inr r) :: st) M ↔ zread (fL L xs) 0 r M i (fun v => uL L xs R 1273 [x0, x1, x2, x3] (.inl v :: st) M) := zU_step dL_1272 (Or.inl rfl)
theorem dL_1273 : decode code 1273 = .ok (.aload_n 0, 1) := by decide +kernel
theorem rL_1273 {L : Nat} {xs : Int → Int} {R : zP} {x1 x2 x3 : Option zV} {st : List zV} {M : zM} {a : Nat} : uL L xs R 1273 [some (.inr (.inr a)), x1, x2, x3] st M ↔ uL L xs R 1274 [some (.inr (.inr a)), x1, x2, x3] (.inr (.inr a) :: st) M := zU_step dL_1273 (Or.inl rfl)
theorem dL_1274 : decode code 1274 = .ok (.iload_n 3, 1) := by decide +kernel
theorem rL_1274 {L : Nat} {xs : Int → Int} {R : zP} {x0 x1 x2 : Option zV} {st : List zV} {M : zM} {a : Int} : uL L xs R 1274 [x0, x1, x2, some (.inl a)] st M ↔ uL L xs R 1275 [x0, x1, x2, some (.inl a)] (.inl a :: st) M := zU_step dL_1274 (Or.inl rfl)
theorem dL_1275 : decode code 1275 = .ok (.iconst 5, 1) := by decide +kernel
theorem rL_1275 {L : Nat} {xs : Int → Int} {R : zP} {x0 x1 x2 x3 : Option zV} {st : List zV} {M : zM} : uL L xs R 1275 [x0, x1, x2, x3] st M ↔ uL L xs R 1276 [x0, x1, x2, x3] (.inl (5) :: st) M := zU_step dL_1275 (Or.inl rfl)
theorem dL_1276 : decode code 1276 = .ok (.iadd, 1) := by decide +kernel
theorem rL_1276 {L : Nat} {xs : Int → Int} {R : zP} {x0 x1 x2 x3 : Option zV} {st : List zV} {M : zM} {a b : Int} : uL L xs R 1276 [x0, x1, x2, x3] (.inl b :: .inl a :: st) M ↔ uL L xs R 1277 [x0, x1, x2, x3] (.inl (a + b) :: st) M := zU_step dL_1276 (Or.inl rfl)
theorem dL_1277 : decode code 1277 = .ok (.iaload, 1) := by decide +kernel
theorem rL_1277 {L : Nat} {xs : Int → Int} {R : zP} {x0 x1 x2 x3 : Option zV} {st : List zV} {M : zM} {i : Int} {r : Nat} : uL L xs R 1277 [x0, x1, x2, x3] (.inl i :: .inr (.inr r) :: st) M ↔ zread (fL L xs) 0 r M i (fun v => uL L xs R 1278 [x0, x1, x2, x3] (.inl v :: st) M) := zU_step dL_1277 (Or.inl rfl)
theorem dL_1278 : decode code 1278 = .ok (.invokevirtual 148, 3) := by decide +kernel
theorem rL_1278 {L : Nat} {xs : Int → Int} {R : zP} {x0 x1 x2 x3 : Option zV} {st : List zV} {M : zM} {a0 a1 a2 a3 a4 a5 : zV} : uL L xs R 1278 [x0, x1, x2, x3] (a5 :: a4 :: a3 :: a2 :: a1 :: a0 :: st) M ↔ (st.length ≤ 4 ∧ zcv (zv 8 (znm tX8_copy)) [a0, a1, a2, a3, a4, a5] M (fun v M => uL L xs R 1281 [x0, x1, x2, x3] (v :: st) M)) := Iff.trans (zU_step dL_1278 (Or.inl rfl)) ⟨fun h => ⟨h.2.1, zcv_of h.2.2⟩, fun h => ⟨rfl, h.1, zcv_to h.2⟩⟩
theorem dL_1281 : decode code 1281 = .ok (.if_icmp .eq 85, 3) := by decide +kernel
theorem rL_1281 {L : Nat} {xs : Int → Int} {R : zP} {x0 x1 x2 x3 : Option zV} {st : List zV} {M : zM} {a b : Int} : uL L xs R 1281 [x0, x1, x2, x3] (.inl b :: .inl a :: st) M ↔ ((zIR a ∧ zIR b) ∧ if a = b then uL L xs R 1366 [x0, x1, x2, x3] st M else uL L xs R 1284 [x0, x1, x2, x3] st M) := Iff.trans (zU_step dL_1281 (Or.inl rfl)) ⟨fun h => ⟨⟨h.1.1, h.1.2.1⟩, (zite (c := a = b)).mpr h.2⟩, fun h => ⟨⟨h.1.1, h.1.2, by decide⟩, (zite (c := a = b)).mp h.2⟩⟩
theorem dL_1284 : decode code 1284 = .ok (.iconst 0, 1) := by decide +kernel
theorem rL_1284 {L : Nat} {xs : Int → Int} {R : zP} {x0 x1 x2 x3 : Option zV} {st : List zV} {M : zM} : uL L xs R 1284 [x0, x1, x2, x3] st M ↔ uL L xs R 1285 [x0, x1, x2, x3] (.inl (0) :: st) M := zU_step dL_1284 (Or.inl rfl)
theorem dL_1285 : decode code 1285 = .ok (.ireturn, 1) := by decide +kernel
theorem rL_1285 {L : Nat} {xs : Int → Int} {R : zP} {x0 x1 x2 x3 : Option zV} {M : zM} {a : Int} : uL L xs R 1285 [x0, x1, x2, x3] [.inl a] M ↔ ((a = 0 ∨ a = 1) ∧ R (some (.inl a)) M) := Iff.trans (zU_step dL_1285 (Or.inl rfl)) ⟨fun h => ⟨zret2 rfl h.2.1, h.2.2⟩, fun h => ⟨rfl, Or.inr (Or.inl ⟨rfl, h.1⟩), h.2⟩⟩
theorem dL_1286 : decode code 1286 = .ok (.aload_n 1, 1) := by decide +kernel
theorem rL_1286 {L : Nat} {xs : Int → Int} {R : zP} {x0 x2 x3 : Option zV} {st : List zV} {M : zM} {a : Nat} : uL L xs R 1286 [x0, some (.inr (.inr a)), x2, x3] st M ↔ uL L xs R 1287 [x0, some (.inr (.inr a)), x2, x3] (.inr (.inr a) :: st) M := zU_step dL_1286 (Or.inl rfl)
theorem dL_1287 : decode code 1287 = .ok (.aload_n 0, 1) := by decide +kernel
theorem rL_1287 {L : Nat} {xs : Int → Int} {R : zP} {x1 x2 x3 : Option zV} {st : List zV} {M : zM} {a : Nat} : uL L xs R 1287 [some (.inr (.inr a)), x1, x2, x3] st M ↔ uL L xs R 1288 [some (.inr (.inr a)), x1, x2, x3] (.inr (.inr a) :: st) M := zU_step dL_1287 (Or.inl rfl)
theorem dL_1288 : decode code 1288 = .ok (.iload_n 3, 1) := by decide +kernel
theorem rL_1288 {L : Nat} {xs : Int → Int} {R : zP} {x0 x1 x2 : Option zV} {st : List zV} {M : zM} {a : Int} : uL L xs R 1288 [x0, x1, x2, some (.inl a)] st M ↔ uL L xs R 1289 [x0, x1, x2, some (.inl a)] (.inl a :: st) M := zU_step dL_1288 (Or.inl rfl)
theorem dL_1289 : decode code 1289 = .ok (.iconst 1, 1) := by decide +kernel
theorem rL_1289 {L : Nat} {xs : Int → Int} {R : zP} {x0 x1 x2 x3 : Option zV} {st : List zV} {M : zM} : uL L xs R 1289 [x0, x1, x2, x3] st M ↔ uL L xs R 1290 [x0, x1, x2, x3] (.inl (1) :: st) M := zU_step dL_1289 (Or.inl rfl)
theorem dL_1290 : decode code 1290 = .ok (.iadd, 1) := by decide +kernel
theorem rL_1290 {L : Nat} {xs : Int → Int} {R : zP} {x0 x1 x2 x3 : Option zV} {st : List zV} {M : zM} {a b : Int} : uL L xs R 1290 [x0, x1, x2, x3] (.inl b :: .inl a :: st) M ↔ uL L xs R 1291 [x0, x1, x2, x3] (.inl (a + b) :: st) M := zU_step dL_1290 (Or.inl rfl)
theorem dL_1291 : decode code 1291 = .ok (.iaload, 1) := by decide +kernel
theorem rL_1291 {L : Nat} {xs : Int → Int} {R : zP} {x0 x1 x2 x3 : Option zV} {st : List zV} {M : zM} {i : Int} {r : Nat} : uL L xs R 1291 [x0, x1, x2, x3] (.inl i :: .inr (.inr r) :: st) M ↔ zread (fL L xs) 0 r M i (fun v => uL L xs R 1292 [x0, x1, x2, x3] (.inl v :: st) M) := zU_step dL_1291 (Or.inl rfl)
theorem dL_1292 : decode code 1292 = .ok (.aload_n 0, 1) := by decide +kernel
theorem rL_1292 {L : Nat} {xs : Int → Int} {R : zP} {x1 x2 x3 : Option zV} {st : List zV} {M : zM} {a : Nat} : uL L xs R 1292 [some (.inr (.inr a)), x1, x2, x3] st M ↔ uL L xs R 1293 [some (.inr (.inr a)), x1, x2, x3] (.inr (.inr a) :: st) M := zU_step dL_1292 (Or.inl rfl)
theorem dL_1293 : decode code 1293 = .ok (.iload_n 3, 1) := by decide +kernel
theorem rL_1293 {L : Nat} {xs : Int → Int} {R : zP} {x0 x1 x2 : Option zV} {st : List zV} {M : zM} {a : Int} : uL L xs R 1293 [x0, x1, x2, some (.inl a)] st M ↔ uL L xs R 1294 [x0, x1, x2, some (.inl a)] (.inl a :: st) M := zU_step dL_1293 (Or.inl rfl)
theorem dL_1294 : decode code 1294 = .ok (.iconst 2, 1) := by decide +kernel
theorem rL_1294 {L : Nat} {xs : Int → Int} {R : zP} {x0 x1 x2 x3 : Option zV} {st : List zV} {M : zM} : uL L xs R 1294 [x0, x1, x2, x3] st M ↔ uL L xs R 1295 [x0, x1, x2, x3] (.inl (2) :: st) M := zU_step dL_1294 (Or.inl rfl)
theorem dL_1295 : decode code 1295 = .ok (.iadd, 1) := by decide +kernel
theorem rL_1295 {L : Nat} {xs : Int → Int} {R : zP} {x0 x1 x2 x3 : Option zV} {st : List zV} {M : zM} {a b : Int} : uL L xs R 1295 [x0, x1, x2, x3] (.inl b :: .inl a :: st) M ↔ uL L xs R 1296 [x0, x1, x2, x3] (.inl (a + b) :: st) M := zU_step dL_1295 (Or.inl rfl)
theorem dL_1296 : decode code 1296 = .ok (.iaload, 1) := by decide +kernel
theorem rL_1296 {L : Nat} {xs : Int → Int} {R : zP} {x0 x1 x2 x3 : Option zV} {st : List zV} {M : zM} {i : Int} {r : Nat} : uL L xs R 1296 [x0, x1, x2, x3] (.inl i :: .inr (.inr r) :: st) M ↔ zread (fL L xs) 0 r M i (fun v => uL L xs R 1297 [x0, x1, x2, x3] (.inl v :: st) M) := zU_step dL_1296 (Or.inl rfl)
theorem dL_1297 : decode code 1297 = .ok (.aload_n 0, 1) := by decide +kernel
theorem rL_1297 {L : Nat} {xs : Int → Int} {R : zP} {x1 x2 x3 : Option zV} {st : List zV} {M : zM} {a : Nat} : uL L xs R 1297 [some (.inr (.inr a)), x1, x2, x3] st M ↔ uL L xs R 1298 [some (.inr (.inr a)), x1, x2, x3] (.inr (.inr a) :: st) M := zU_step dL_1297 (Or.inl rfl)
theorem dL_1298 : decode code 1298 = .ok (.iload_n 3, 1) := by decide +kernel
theorem rL_1298 {L : Nat} {xs : Int → Int} {R : zP} {x0 x1 x2 : Option zV} {st : List zV} {M : zM} {a : Int} : uL L xs R 1298 [x0, x1, x2, some (.inl a)] st M ↔ uL L xs R 1299 [x0, x1, x2, some (.inl a)] (.inl a :: st) M := zU_step dL_1298 (Or.inl rfl)
theorem dL_1299 : decode code 1299 = .ok (.iconst 3, 1) := by decide +kernel
theorem rL_1299 {L : Nat} {xs : Int → Int} {R : zP} {x0 x1 x2 x3 : Option zV} {st : List zV} {M : zM} : uL L xs R 1299 [x0, x1, x2, x3] st M ↔ uL L xs R 1300 [x0, x1, x2, x3] (.inl (3) :: st) M := zU_step dL_1299 (Or.inl rfl)
theorem dL_1300 : decode code 1300 = .ok (.iadd, 1) := by decide +kernel
theorem rL_1300 {L : Nat} {xs : Int → Int} {R : zP} {x0 x1 x2 x3 : Option zV} {st : List zV} {M : zM} {a b : Int} : uL L xs R 1300 [x0, x1, x2, x3] (.inl b :: .inl a :: st) M ↔ uL L xs R 1301 [x0, x1, x2, x3] (.inl (a + b) :: st) M := zU_step dL_1300 (Or.inl rfl)
theorem dL_1301 : decode code 1301 = .ok (.iaload, 1) := by decide +kernel
theorem rL_1301 {L : Nat} {xs : Int → Int} {R : zP} {x0 x1 x2 x3 : Option zV} {st : List zV} {M : zM} {i : Int} {r : Nat} : uL L xs R 1301 [x0, x1, x2, x3] (.inl i :: .inr (.inr r) :: st) M ↔ zread (fL L xs) 0 r M i (fun v => uL L xs R 1302 [x0, x1, x2, x3] (.inl v :: st) M) := zU_step dL_1301 (Or.inl rfl)
theorem dL_1302 : decode code 1302 = .ok (.invokevirtual 149, 3) := by decide +kernel
theorem rL_1302 {L : Nat} {xs : Int → Int} {R : zP} {x0 x1 x2 x3 : Option zV} {st : List zV} {M : zM} {a0 a1 a2 a3 : zV} : uL L xs R 1302 [x0, x1, x2, x3] (a3 :: a2 :: a1 :: a0 :: st) M ↔ (st.length ≤ 4 ∧ zcv (zv 7 (znm tX7_write)) [a0, a1, a2, a3] M (fun v M => uL L xs R 1305 [x0, x1, x2, x3] (v :: st) M)) := Iff.trans (zU_step dL_1302 (Or.inl rfl)) ⟨fun h => ⟨h.2.1, zcv_of h.2.2⟩, fun h => ⟨rfl, h.1, zcv_to h.2⟩⟩
theorem dL_1305 : decode code 1305 = .ok (.aload_n 2, 1) := by decide +kernel
theorem rL_1305 {L : Nat} {xs : Int → Int} {R : zP} {x0 x1 x3 : Option zV} {st : List zV} {M : zM} {a : Nat} : uL L xs R 1305 [x0, x1, some (.inr (.inr a)), x3] st M ↔ uL L xs R 1306 [x0, x1, some (.inr (.inr a)), x3] (.inr (.inr a) :: st) M := zU_step dL_1305 (Or.inl rfl)
theorem dL_1306 : decode code 1306 = .ok (.aload_n 0, 1) := by decide +kernel
theorem rL_1306 {L : Nat} {xs : Int → Int} {R : zP} {x1 x2 x3 : Option zV} {st : List zV} {M : zM} {a : Nat} : uL L xs R 1306 [some (.inr (.inr a)), x1, x2, x3] st M ↔ uL L xs R 1307 [some (.inr (.inr a)), x1, x2, x3] (.inr (.inr a) :: st) M := zU_step dL_1306 (Or.inl rfl)
theorem dL_1307 : decode code 1307 = .ok (.iload_n 3, 1) := by decide +kernel
theorem rL_1307 {L : Nat} {xs : Int → Int} {R : zP} {x0 x1 x2 : Option zV} {st : List zV} {M : zM} {a : Int} : uL L xs R 1307 [x0, x1, x2, some (.inl a)] st M ↔ uL L xs R 1308 [x0, x1, x2, some (.inl a)] (.inl a :: st) M := zU_step dL_1307 (Or.inl rfl)
theorem dL_1308 : decode code 1308 = .ok (.iconst 1, 1) := by decide +kernel
theorem rL_1308 {L : Nat} {xs : Int → Int} {R : zP} {x0 x1 x2 x3 : Option zV} {st : List zV} {M : zM} : uL L xs R 1308 [x0, x1, x2, x3] st M ↔ uL L xs R 1309 [x0, x1, x2, x3] (.inl (1) :: st) M := zU_step dL_1308 (Or.inl rfl)
theorem dL_1309 : decode code 1309 = .ok (.iadd, 1) := by decide +kernel
theorem rL_1309 {L : Nat} {xs : Int → Int} {R : zP} {x0 x1 x2 x3 : Option zV} {st : List zV} {M : zM} {a b : Int} : uL L xs R 1309 [x0, x1, x2, x3] (.inl b :: .inl a :: st) M ↔ uL L xs R 1310 [x0, x1, x2, x3] (.inl (a + b) :: st) M := zU_step dL_1309 (Or.inl rfl)
theorem dL_1310 : decode code 1310 = .ok (.iaload, 1) := by decide +kernel
theorem rL_1310 {L : Nat} {xs : Int → Int} {R : zP} {x0 x1 x2 x3 : Option zV} {st : List zV} {M : zM} {i : Int} {r : Nat} : uL L xs R 1310 [x0, x1, x2, x3] (.inl i :: .inr (.inr r) :: st) M ↔ zread (fL L xs) 0 r M i (fun v => uL L xs R 1311 [x0, x1, x2, x3] (.inl v :: st) M) := zU_step dL_1310 (Or.inl rfl)
theorem dL_1311 : decode code 1311 = .ok (.aload_n 0, 1) := by decide +kernel
theorem rL_1311 {L : Nat} {xs : Int → Int} {R : zP} {x1 x2 x3 : Option zV} {st : List zV} {M : zM} {a : Nat} : uL L xs R 1311 [some (.inr (.inr a)), x1, x2, x3] st M ↔ uL L xs R 1312 [some (.inr (.inr a)), x1, x2, x3] (.inr (.inr a) :: st) M := zU_step dL_1311 (Or.inl rfl)
theorem dL_1312 : decode code 1312 = .ok (.iload_n 3, 1) := by decide +kernel
theorem rL_1312 {L : Nat} {xs : Int → Int} {R : zP} {x0 x1 x2 : Option zV} {st : List zV} {M : zM} {a : Int} : uL L xs R 1312 [x0, x1, x2, some (.inl a)] st M ↔ uL L xs R 1313 [x0, x1, x2, some (.inl a)] (.inl a :: st) M := zU_step dL_1312 (Or.inl rfl)
theorem dL_1313 : decode code 1313 = .ok (.iconst 2, 1) := by decide +kernel
theorem rL_1313 {L : Nat} {xs : Int → Int} {R : zP} {x0 x1 x2 x3 : Option zV} {st : List zV} {M : zM} : uL L xs R 1313 [x0, x1, x2, x3] st M ↔ uL L xs R 1314 [x0, x1, x2, x3] (.inl (2) :: st) M := zU_step dL_1313 (Or.inl rfl)
theorem dL_1314 : decode code 1314 = .ok (.iadd, 1) := by decide +kernel
theorem rL_1314 {L : Nat} {xs : Int → Int} {R : zP} {x0 x1 x2 x3 : Option zV} {st : List zV} {M : zM} {a b : Int} : uL L xs R 1314 [x0, x1, x2, x3] (.inl b :: .inl a :: st) M ↔ uL L xs R 1315 [x0, x1, x2, x3] (.inl (a + b) :: st) M := zU_step dL_1314 (Or.inl rfl)
theorem dL_1315 : decode code 1315 = .ok (.iaload, 1) := by decide +kernel
theorem rL_1315 {L : Nat} {xs : Int → Int} {R : zP} {x0 x1 x2 x3 : Option zV} {st : List zV} {M : zM} {i : Int} {r : Nat} : uL L xs R 1315 [x0, x1, x2, x3] (.inl i :: .inr (.inr r) :: st) M ↔ zread (fL L xs) 0 r M i (fun v => uL L xs R 1316 [x0, x1, x2, x3] (.inl v :: st) M) := zU_step dL_1315 (Or.inl rfl)
theorem dL_1316 : decode code 1316 = .ok (.aload_n 0, 1) := by decide +kernel
theorem rL_1316 {L : Nat} {xs : Int → Int} {R : zP} {x1 x2 x3 : Option zV} {st : List zV} {M : zM} {a : Nat} : uL L xs R 1316 [some (.inr (.inr a)), x1, x2, x3] st M ↔ uL L xs R 1317 [some (.inr (.inr a)), x1, x2, x3] (.inr (.inr a) :: st) M := zU_step dL_1316 (Or.inl rfl)
theorem dL_1317 : decode code 1317 = .ok (.iload_n 3, 1) := by decide +kernel
theorem rL_1317 {L : Nat} {xs : Int → Int} {R : zP} {x0 x1 x2 : Option zV} {st : List zV} {M : zM} {a : Int} : uL L xs R 1317 [x0, x1, x2, some (.inl a)] st M ↔ uL L xs R 1318 [x0, x1, x2, some (.inl a)] (.inl a :: st) M := zU_step dL_1317 (Or.inl rfl)
theorem dL_1318 : decode code 1318 = .ok (.iconst 3, 1) := by decide +kernel
theorem rL_1318 {L : Nat} {xs : Int → Int} {R : zP} {x0 x1 x2 x3 : Option zV} {st : List zV} {M : zM} : uL L xs R 1318 [x0, x1, x2, x3] st M ↔ uL L xs R 1319 [x0, x1, x2, x3] (.inl (3) :: st) M := zU_step dL_1318 (Or.inl rfl)
theorem dL_1319 : decode code 1319 = .ok (.iadd, 1) := by decide +kernel
theorem rL_1319 {L : Nat} {xs : Int → Int} {R : zP} {x0 x1 x2 x3 : Option zV} {st : List zV} {M : zM} {a b : Int} : uL L xs R 1319 [x0, x1, x2, x3] (.inl b :: .inl a :: st) M ↔ uL L xs R 1320 [x0, x1, x2, x3] (.inl (a + b) :: st) M := zU_step dL_1319 (Or.inl rfl)
theorem dL_1320 : decode code 1320 = .ok (.iaload, 1) := by decide +kernel
theorem rL_1320 {L : Nat} {xs : Int → Int} {R : zP} {x0 x1 x2 x3 : Option zV} {st : List zV} {M : zM} {i : Int} {r : Nat} : uL L xs R 1320 [x0, x1, x2, x3] (.inl i :: .inr (.inr r) :: st) M ↔ zread (fL L xs) 0 r M i (fun v => uL L xs R 1321 [x0, x1, x2, x3] (.inl v :: st) M) := zU_step dL_1320 (Or.inl rfl)
theorem dL_1321 : decode code 1321 = .ok (.invokevirtual 152, 3) := by decide +kernel
theorem rL_1321 {L : Nat} {xs : Int → Int} {R : zP} {x0 x1 x2 x3 : Option zV} {st : List zV} {M : zM} {a0 a1 a2 a3 : zV} : uL L xs R 1321 [x0, x1, x2, x3] (a3 :: a2 :: a1 :: a0 :: st) M ↔ (st.length ≤ 4 ∧ zcv (zv 8 (znm tX8_write)) [a0, a1, a2, a3] M (fun v M => uL L xs R 1324 [x0, x1, x2, x3] (v :: st) M)) := Iff.trans (zU_step dL_1321 (Or.inl rfl)) ⟨fun h => ⟨h.2.1, zcv_of h.2.2⟩, fun h => ⟨rfl, h.1, zcv_to h.2⟩⟩
theorem dL_1324 : decode code 1324 = .ok (.if_icmp .eq 42, 3) := by decide +kernel
theorem rL_1324 {L : Nat} {xs : Int → Int} {R : zP} {x0 x1 x2 x3 : Option zV} {st : List zV} {M : zM} {a b : Int} : uL L xs R 1324 [x0, x1, x2, x3] (.inl b :: .inl a :: st) M ↔ ((zIR a ∧ zIR b) ∧ if a = b then uL L xs R 1366 [x0, x1, x2, x3] st M else uL L xs R 1327 [x0, x1, x2, x3] st M) := Iff.trans (zU_step dL_1324 (Or.inl rfl)) ⟨fun h => ⟨⟨h.1.1, h.1.2.1⟩, (zite (c := a = b)).mpr h.2⟩, fun h => ⟨⟨h.1.1, h.1.2, by decide⟩, (zite (c := a = b)).mp h.2⟩⟩
theorem dL_1327 : decode code 1327 = .ok (.iconst 0, 1) := by decide +kernel
theorem rL_1327 {L : Nat} {xs : Int → Int} {R : zP} {x0 x1 x2 x3 : Option zV} {st : List zV} {M : zM} : uL L xs R 1327 [x0, x1, x2, x3] st M ↔ uL L xs R 1328 [x0, x1, x2, x3] (.inl (0) :: st) M := zU_step dL_1327 (Or.inl rfl)
theorem dL_1328 : decode code 1328 = .ok (.ireturn, 1) := by decide +kernel
theorem rL_1328 {L : Nat} {xs : Int → Int} {R : zP} {x0 x1 x2 x3 : Option zV} {M : zM} {a : Int} : uL L xs R 1328 [x0, x1, x2, x3] [.inl a] M ↔ ((a = 0 ∨ a = 1) ∧ R (some (.inl a)) M) := Iff.trans (zU_step dL_1328 (Or.inl rfl)) ⟨fun h => ⟨zret2 rfl h.2.1, h.2.2⟩, fun h => ⟨rfl, Or.inr (Or.inl ⟨rfl, h.1⟩), h.2⟩⟩
theorem dL_1329 : decode code 1329 = .ok (.aload_n 1, 1) := by decide +kernel
theorem rL_1329 {L : Nat} {xs : Int → Int} {R : zP} {x0 x2 x3 : Option zV} {st : List zV} {M : zM} {a : Nat} : uL L xs R 1329 [x0, some (.inr (.inr a)), x2, x3] st M ↔ uL L xs R 1330 [x0, some (.inr (.inr a)), x2, x3] (.inr (.inr a) :: st) M := zU_step dL_1329 (Or.inl rfl)
theorem dL_1330 : decode code 1330 = .ok (.aload_n 0, 1) := by decide +kernel
theorem rL_1330 {L : Nat} {xs : Int → Int} {R : zP} {x1 x2 x3 : Option zV} {st : List zV} {M : zM} {a : Nat} : uL L xs R 1330 [some (.inr (.inr a)), x1, x2, x3] st M ↔ uL L xs R 1331 [some (.inr (.inr a)), x1, x2, x3] (.inr (.inr a) :: st) M := zU_step dL_1330 (Or.inl rfl)
theorem dL_1331 : decode code 1331 = .ok (.iload_n 3, 1) := by decide +kernel
theorem rL_1331 {L : Nat} {xs : Int → Int} {R : zP} {x0 x1 x2 : Option zV} {st : List zV} {M : zM} {a : Int} : uL L xs R 1331 [x0, x1, x2, some (.inl a)] st M ↔ uL L xs R 1332 [x0, x1, x2, some (.inl a)] (.inl a :: st) M := zU_step dL_1331 (Or.inl rfl)
theorem dL_1332 : decode code 1332 = .ok (.iconst 1, 1) := by decide +kernel
theorem rL_1332 {L : Nat} {xs : Int → Int} {R : zP} {x0 x1 x2 x3 : Option zV} {st : List zV} {M : zM} : uL L xs R 1332 [x0, x1, x2, x3] st M ↔ uL L xs R 1333 [x0, x1, x2, x3] (.inl (1) :: st) M := zU_step dL_1332 (Or.inl rfl)
theorem dL_1333 : decode code 1333 = .ok (.iadd, 1) := by decide +kernel
theorem rL_1333 {L : Nat} {xs : Int → Int} {R : zP} {x0 x1 x2 x3 : Option zV} {st : List zV} {M : zM} {a b : Int} : uL L xs R 1333 [x0, x1, x2, x3] (.inl b :: .inl a :: st) M ↔ uL L xs R 1334 [x0, x1, x2, x3] (.inl (a + b) :: st) M := zU_step dL_1333 (Or.inl rfl)
theorem dL_1334 : decode code 1334 = .ok (.iaload, 1) := by decide +kernel
theorem rL_1334 {L : Nat} {xs : Int → Int} {R : zP} {x0 x1 x2 x3 : Option zV} {st : List zV} {M : zM} {i : Int} {r : Nat} : uL L xs R 1334 [x0, x1, x2, x3] (.inl i :: .inr (.inr r) :: st) M ↔ zread (fL L xs) 0 r M i (fun v => uL L xs R 1335 [x0, x1, x2, x3] (.inl v :: st) M) := zU_step dL_1334 (Or.inl rfl)
theorem dL_1335 : decode code 1335 = .ok (.invokevirtual 153, 3) := by decide +kernel
theorem rL_1335 {L : Nat} {xs : Int → Int} {R : zP} {x0 x1 x2 x3 : Option zV} {st : List zV} {M : zM} {a0 a1 : zV} : uL L xs R 1335 [x0, x1, x2, x3] (a1 :: a0 :: st) M ↔ (st.length ≤ 4 ∧ zcv (zv 7 (znm tX7_count)) [a0, a1] M (fun v M => uL L xs R 1338 [x0, x1, x2, x3] (v :: st) M)) := Iff.trans (zU_step dL_1335 (Or.inl rfl)) ⟨fun h => ⟨h.2.1, zcv_of h.2.2⟩, fun h => ⟨rfl, h.1, zcv_to h.2⟩⟩
theorem dL_1338 : decode code 1338 = .ok (.aload_n 2, 1) := by decide +kernel
theorem rL_1338 {L : Nat} {xs : Int → Int} {R : zP} {x0 x1 x3 : Option zV} {st : List zV} {M : zM} {a : Nat} : uL L xs R 1338 [x0, x1, some (.inr (.inr a)), x3] st M ↔ uL L xs R 1339 [x0, x1, some (.inr (.inr a)), x3] (.inr (.inr a) :: st) M := zU_step dL_1338 (Or.inl rfl)
theorem dL_1339 : decode code 1339 = .ok (.aload_n 0, 1) := by decide +kernel
theorem rL_1339 {L : Nat} {xs : Int → Int} {R : zP} {x1 x2 x3 : Option zV} {st : List zV} {M : zM} {a : Nat} : uL L xs R 1339 [some (.inr (.inr a)), x1, x2, x3] st M ↔ uL L xs R 1340 [some (.inr (.inr a)), x1, x2, x3] (.inr (.inr a) :: st) M := zU_step dL_1339 (Or.inl rfl)
theorem dL_1340 : decode code 1340 = .ok (.iload_n 3, 1) := by decide +kernel
theorem rL_1340 {L : Nat} {xs : Int → Int} {R : zP} {x0 x1 x2 : Option zV} {st : List zV} {M : zM} {a : Int} : uL L xs R 1340 [x0, x1, x2, some (.inl a)] st M ↔ uL L xs R 1341 [x0, x1, x2, some (.inl a)] (.inl a :: st) M := zU_step dL_1340 (Or.inl rfl)
theorem dL_1341 : decode code 1341 = .ok (.iconst 1, 1) := by decide +kernel
theorem rL_1341 {L : Nat} {xs : Int → Int} {R : zP} {x0 x1 x2 x3 : Option zV} {st : List zV} {M : zM} : uL L xs R 1341 [x0, x1, x2, x3] st M ↔ uL L xs R 1342 [x0, x1, x2, x3] (.inl (1) :: st) M := zU_step dL_1341 (Or.inl rfl)
theorem dL_1342 : decode code 1342 = .ok (.iadd, 1) := by decide +kernel
theorem rL_1342 {L : Nat} {xs : Int → Int} {R : zP} {x0 x1 x2 x3 : Option zV} {st : List zV} {M : zM} {a b : Int} : uL L xs R 1342 [x0, x1, x2, x3] (.inl b :: .inl a :: st) M ↔ uL L xs R 1343 [x0, x1, x2, x3] (.inl (a + b) :: st) M := zU_step dL_1342 (Or.inl rfl)
theorem dL_1343 : decode code 1343 = .ok (.iaload, 1) := by decide +kernel
theorem rL_1343 {L : Nat} {xs : Int → Int} {R : zP} {x0 x1 x2 x3 : Option zV} {st : List zV} {M : zM} {i : Int} {r : Nat} : uL L xs R 1343 [x0, x1, x2, x3] (.inl i :: .inr (.inr r) :: st) M ↔ zread (fL L xs) 0 r M i (fun v => uL L xs R 1344 [x0, x1, x2, x3] (.inl v :: st) M) := zU_step dL_1343 (Or.inl rfl)
theorem dL_1344 : decode code 1344 = .ok (.invokevirtual 156, 3) := by decide +kernel
theorem rL_1344 {L : Nat} {xs : Int → Int} {R : zP} {x0 x1 x2 x3 : Option zV} {st : List zV} {M : zM} {a0 a1 : zV} : uL L xs R 1344 [x0, x1, x2, x3] (a1 :: a0 :: st) M ↔ (st.length ≤ 4 ∧ zcv (zv 8 (znm tX8_count)) [a0, a1] M (fun v M => uL L xs R 1347 [x0, x1, x2, x3] (v :: st) M)) := Iff.trans (zU_step dL_1344 (Or.inl rfl)) ⟨fun h => ⟨h.2.1, zcv_of h.2.2⟩, fun h => ⟨rfl, h.1, zcv_to h.2⟩⟩
theorem dL_1347 : decode code 1347 = .ok (.if_icmp .eq 19, 3) := by decide +kernel
theorem rL_1347 {L : Nat} {xs : Int → Int} {R : zP} {x0 x1 x2 x3 : Option zV} {st : List zV} {M : zM} {a b : Int} : uL L xs R 1347 [x0, x1, x2, x3] (.inl b :: .inl a :: st) M ↔ ((zIR a ∧ zIR b) ∧ if a = b then uL L xs R 1366 [x0, x1, x2, x3] st M else uL L xs R 1350 [x0, x1, x2, x3] st M) := Iff.trans (zU_step dL_1347 (Or.inl rfl)) ⟨fun h => ⟨⟨h.1.1, h.1.2.1⟩, (zite (c := a = b)).mpr h.2⟩, fun h => ⟨⟨h.1.1, h.1.2, by decide⟩, (zite (c := a = b)).mp h.2⟩⟩
theorem dL_1350 : decode code 1350 = .ok (.iconst 0, 1) := by decide +kernel
theorem rL_1350 {L : Nat} {xs : Int → Int} {R : zP} {x0 x1 x2 x3 : Option zV} {st : List zV} {M : zM} : uL L xs R 1350 [x0, x1, x2, x3] st M ↔ uL L xs R 1351 [x0, x1, x2, x3] (.inl (0) :: st) M := zU_step dL_1350 (Or.inl rfl)
theorem dL_1351 : decode code 1351 = .ok (.ireturn, 1) := by decide +kernel
theorem rL_1351 {L : Nat} {xs : Int → Int} {R : zP} {x0 x1 x2 x3 : Option zV} {M : zM} {a : Int} : uL L xs R 1351 [x0, x1, x2, x3] [.inl a] M ↔ ((a = 0 ∨ a = 1) ∧ R (some (.inl a)) M) := Iff.trans (zU_step dL_1351 (Or.inl rfl)) ⟨fun h => ⟨zret2 rfl h.2.1, h.2.2⟩, fun h => ⟨rfl, Or.inr (Or.inl ⟨rfl, h.1⟩), h.2⟩⟩
theorem dL_1352 : decode code 1352 = .ok (.aload_n 1, 1) := by decide +kernel
theorem rL_1352 {L : Nat} {xs : Int → Int} {R : zP} {x0 x2 x3 : Option zV} {st : List zV} {M : zM} {a : Nat} : uL L xs R 1352 [x0, some (.inr (.inr a)), x2, x3] st M ↔ uL L xs R 1353 [x0, some (.inr (.inr a)), x2, x3] (.inr (.inr a) :: st) M := zU_step dL_1352 (Or.inl rfl)
theorem dL_1353 : decode code 1353 = .ok (.invokevirtual 157, 3) := by decide +kernel
theorem rL_1353 {L : Nat} {xs : Int → Int} {R : zP} {x0 x1 x2 x3 : Option zV} {st : List zV} {M : zM} {a0 : zV} : uL L xs R 1353 [x0, x1, x2, x3] (a0 :: st) M ↔ (st.length ≤ 4 ∧ zcv (zv 7 (znm tX7_digest)) [a0] M (fun v M => uL L xs R 1356 [x0, x1, x2, x3] (v :: st) M)) := Iff.trans (zU_step dL_1353 (Or.inl rfl)) ⟨fun h => ⟨h.2.1, zcv_of h.2.2⟩, fun h => ⟨rfl, h.1, zcv_to h.2⟩⟩
theorem dL_1356 : decode code 1356 = .ok (.aload_n 2, 1) := by decide +kernel
theorem rL_1356 {L : Nat} {xs : Int → Int} {R : zP} {x0 x1 x3 : Option zV} {st : List zV} {M : zM} {a : Nat} : uL L xs R 1356 [x0, x1, some (.inr (.inr a)), x3] st M ↔ uL L xs R 1357 [x0, x1, some (.inr (.inr a)), x3] (.inr (.inr a) :: st) M := zU_step dL_1356 (Or.inl rfl)
theorem dL_1357 : decode code 1357 = .ok (.invokevirtual 161, 3) := by decide +kernel
theorem rL_1357 {L : Nat} {xs : Int → Int} {R : zP} {x0 x1 x2 x3 : Option zV} {st : List zV} {M : zM} {a0 : zV} : uL L xs R 1357 [x0, x1, x2, x3] (a0 :: st) M ↔ (st.length ≤ 4 ∧ zcv (zv 8 (znm tX8_digest)) [a0] M (fun v M => uL L xs R 1360 [x0, x1, x2, x3] (v :: st) M)) := Iff.trans (zU_step dL_1357 (Or.inl rfl)) ⟨fun h => ⟨h.2.1, zcv_of h.2.2⟩, fun h => ⟨rfl, h.1, zcv_to h.2⟩⟩
theorem dL_1360 : decode code 1360 = .ok (.lcmp, 1) := by decide +kernel
theorem rL_1360 {L : Nat} {xs : Int → Int} {R : zP} {x0 x1 x2 x3 : Option zV} {st : List zV} {M : zM} {a b : Int} : uL L xs R 1360 [x0, x1, x2, x3] (.inr (.inl b) :: .inr (.inl a) :: st) M ↔ ((zLR a ∧ zLR b) ∧ uL L xs R 1361 [x0, x1, x2, x3] (.inl (zcmp a b) :: st) M) := zU_step dL_1360 (Or.inl rfl)
theorem dL_1361 : decode code 1361 = .ok (.ifCond .eq 5, 3) := by decide +kernel
theorem rL_1361 {L : Nat} {xs : Int → Int} {R : zP} {x0 x1 x2 x3 : Option zV} {st : List zV} {M : zM} {a : Int} : uL L xs R 1361 [x0, x1, x2, x3] (.inl a :: st) M ↔ (zIR a ∧ if a = 0 then uL L xs R 1366 [x0, x1, x2, x3] st M else uL L xs R 1364 [x0, x1, x2, x3] st M) := Iff.trans (zU_step dL_1361 (Or.inl rfl)) ⟨fun h => ⟨h.1.1, (zite (c := a = 0)).mpr h.2⟩, fun h => ⟨⟨h.1, by decide⟩, (zite (c := a = 0)).mp h.2⟩⟩
theorem dL_1364 : decode code 1364 = .ok (.iconst 0, 1) := by decide +kernel
theorem rL_1364 {L : Nat} {xs : Int → Int} {R : zP} {x0 x1 x2 x3 : Option zV} {st : List zV} {M : zM} : uL L xs R 1364 [x0, x1, x2, x3] st M ↔ uL L xs R 1365 [x0, x1, x2, x3] (.inl (0) :: st) M := zU_step dL_1364 (Or.inl rfl)
theorem dL_1365 : decode code 1365 = .ok (.ireturn, 1) := by decide +kernel
theorem rL_1365 {L : Nat} {xs : Int → Int} {R : zP} {x0 x1 x2 x3 : Option zV} {M : zM} {a : Int} : uL L xs R 1365 [x0, x1, x2, x3] [.inl a] M ↔ ((a = 0 ∨ a = 1) ∧ R (some (.inl a)) M) := Iff.trans (zU_step dL_1365 (Or.inl rfl)) ⟨fun h => ⟨zret2 rfl h.2.1, h.2.2⟩, fun h => ⟨rfl, Or.inr (Or.inl ⟨rfl, h.1⟩), h.2⟩⟩
theorem dL_1366 : decode code 1366 = .ok (.iinc 3 6, 3) := by decide +kernel
theorem rL_1366 {L : Nat} {xs : Int → Int} {R : zP} {x0 x1 : Option zV} {st : List zV} {M : zM} {a : Int} {y : Nat} : uL L xs R 1366 [x0, x1, some (.inr (.inr y)), some (.inl a)] st M ↔ uL L xs R 1369 [x0, x1, some (.inr (.inr y)), some (.inl (a + (6)))] st M := Iff.trans (zU_step dL_1366 (Or.inl rfl)) ⟨fun h => h.2, fun h => ⟨show 3 < 4 by decide, h⟩⟩
theorem dL_1369 : decode code 1369 = .ok (.goto (-1351), 3) := by decide +kernel
theorem rL_1369 {L : Nat} {xs : Int → Int} {R : zP} {x0 x1 x2 x3 : Option zV} {st : List zV} {M : zM} : uL L xs R 1369 [x0, x1, x2, x3] st M ↔ uL L xs R 18 [x0, x1, x2, x3] st M := Iff.trans (zU_step dL_1369 (Or.inl rfl)) ⟨fun h => h.2, fun h => ⟨by decide, h⟩⟩
theorem dL_1372 : decode code 1372 = .ok (.iconst 1, 1) := by decide +kernel
theorem rL_1372 {L : Nat} {xs : Int → Int} {R : zP} {x0 x1 x2 x3 : Option zV} {st : List zV} {M : zM} : uL L xs R 1372 [x0, x1, x2, x3] st M ↔ uL L xs R 1373 [x0, x1, x2, x3] (.inl (1) :: st) M := zU_step dL_1372 (Or.inl rfl)
theorem dL_1373 : decode code 1373 = .ok (.ireturn, 1) := by decide +kernel
theorem rL_1373 {L : Nat} {xs : Int → Int} {R : zP} {x0 x1 x2 x3 : Option zV} {M : zM} {a : Int} : uL L xs R 1373 [x0, x1, x2, x3] [.inl a] M ↔ ((a = 0 ∨ a = 1) ∧ R (some (.inl a)) M) := Iff.trans (zU_step dL_1373 (Or.inl rfl)) ⟨fun h => ⟨zret2 rfl h.2.1, h.2.2⟩, fun h => ⟨rfl, Or.inr (Or.inl ⟨rfl, h.1⟩), h.2⟩⟩
