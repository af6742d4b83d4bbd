def qseg (n : Nat) (ft : Int → Int) (a k : Nat) : List Nat := (List.range' a k).flatMap (fun t : Nat => (List.range n).filter (fun f : Nat => decide (ft f = (t : Int))))
def qord (n : Nat) (ft : Int → Int) : List Nat := qseg n ft 0 20
theorem qseg_add (n : Nat) (ft : Int → Int) (a k l : Nat) : qseg n ft a (k + l) = qseg n ft a k ++ qseg n ft (a + k) l := by
  unfold qseg
  rw [← List.flatMap_append]
  congr 1
  have := List.range'_append (s := a) (m := k) (n := l) (step := 1)
  rw [Nat.one_mul] at this
  exact this.symm
theorem qseg_mem {n : Nat} {ft : Int → Int} {a k f : Nat} : f ∈ qseg n ft a k ↔ (f < n ∧ (a : Int) ≤ ft f ∧ ft f < (a + k : Nat)) := by
  unfold qseg
  simp only [List.mem_flatMap, List.mem_range', List.mem_filter, List.mem_range, decide_eq_true_eq]
  constructor
  · rintro ⟨t, ⟨i, h1, h2⟩, h3, h4⟩
    refine ⟨h3, ?_, ?_⟩ <;> omega
  · rintro ⟨h1, h2, h3⟩
    exact ⟨(ft f).toNat, ⟨(ft f).toNat - a, by omega, by omega⟩, h1, by omega⟩
theorem qseg_one (n : Nat) (ft : Int → Int) (a : Nat) : qseg n ft a 1 = (List.range n).filter (fun f : Nat => decide (ft f = (a : Int))) := by
  simp [qseg]
theorem qseg_zero (n : Nat) (ft : Int → Int) (a : Nat) : qseg n ft a 0 = [] := by simp [qseg]
theorem qseg_succ (n : Nat) (ft : Int → Int) (a k : Nat) : qseg n ft a (k + 1) = qseg n ft a k ++ (List.range n).filter (fun f : Nat => decide (ft f = ((a + k : Nat) : Int))) := by
  rw [qseg_add, qseg_one]
theorem qseg_grow {n : Nat} {ft ft' : Int → Int} (h : ∀ f : Nat, f < n → ft' f = ft f) (a k : Nat) : qseg (n + 1) ft' a k = (List.range' a k).flatMap (fun t : Nat => (List.range n).filter (fun f : Nat => decide (ft f = (t : Int))) ++ (if ft' n = t then [n] else [])) := by
  unfold qseg
  congr 1
  funext t
  rw [List.range_succ, List.filter_append]
  congr 1
  · apply List.filter_congr
    intro f hf
    rw [h f (List.mem_range.mp hf)]
  · by_cases e : ft' n = t <;> simp [e]
theorem qseg_grow_out {n : Nat} {ft ft' : Int → Int} (h : ∀ f : Nat, f < n → ft' f = ft f) (a : Nat) : ∀ k, (ft' n < a ∨ (a + k : Nat) ≤ ft' n) → qseg (n + 1) ft' a k = qseg n ft a k
  | 0, _ => by rw [qseg_zero, qseg_zero]
  | k + 1, hk => by
    rw [qseg_succ, qseg_succ, qseg_grow_out h a k (by omega)]
    congr 1
    rw [List.range_succ, List.filter_append]
    rw [show List.filter (fun f : Nat => decide (ft' f = (a + k : Nat))) [n] = [] by
      simp only [List.filter_cons, List.filter_nil]
      rw [if_neg]
      simp only [decide_eq_true_eq]
      omega]
    rw [List.append_nil]
    apply List.filter_congr
    intro f hf
    rw [h f (List.mem_range.mp hf)]
theorem qord_add {n : Nat} {ft ft' : Int → Int} (h : ∀ f : Nat, f < n → ft' f = ft f) {t : Nat} (ht : t < 20) (hn : ft' n = t) : qord n ft = qseg n ft 0 (t + 1) ++ qseg n ft (t + 1) (19 - t) ∧ qord (n + 1) ft' = qseg n ft 0 (t + 1) ++ n :: qseg n ft (t + 1) (19 - t) := by
  unfold qord
  have e1 : (20 : Nat) = (t + 1) + (19 - t) := by omega
  constructor
  · rw [e1, qseg_add, Nat.zero_add]
  · have : qseg (n + 1) ft' 0 20 = qseg (n + 1) ft' 0 (t + 1) ++ qseg (n + 1) ft' (t + 1) (19 - t) := by
      rw [e1, qseg_add, Nat.zero_add]
    rw [this, qseg_grow_out h (t + 1) (19 - t) (by omega)]
    rw [qseg_succ (n + 1), qseg_succ n, qseg_grow_out h 0 t (by omega), List.range_succ, List.filter_append]
    rw [show List.filter (fun f : Nat => decide (ft' f = (0 + t : Nat))) [n] = [n] by
      simp only [List.filter_cons, List.filter_nil]
      rw [if_pos]
      simp only [decide_eq_true_eq]
      omega]
    rw [show List.filter (fun f : Nat => decide (ft' f = (0 + t : Nat))) (List.range n) = List.filter (fun f : Nat => decide (ft f = (0 + t : Nat))) (List.range n) by
      apply List.filter_congr
      intro f hf
      rw [h f (List.mem_range.mp hf)]]
    simp
theorem qseg_drop (n : Nat) (ft : Int → Int) (a : Nat) : ∀ k, (qseg (n + 1) ft a k).filter (fun f => decide (f ≠ n)) = qseg n ft a k
  | 0 => by rw [qseg_zero, qseg_zero]; rfl
  | k + 1 => by
    rw [qseg_succ, qseg_succ, List.filter_append, qseg_drop n ft a k]
    congr 1
    rw [List.range_succ, List.filter_append, List.filter_append, List.filter_filter]
    have e : List.filter (fun f => decide (f ≠ n)) (List.filter (fun f : Nat => decide (ft f = (a + k : Nat))) [n]) = [] := by
      rw [List.filter_eq_nil_iff]
      intro x hx
      have := (List.mem_filter.mp hx).1
      simp at this
      simp [this]
    rw [e, List.append_nil]
    apply List.filter_congr
    intro f hf
    have := List.mem_range.mp hf
    have h2 : f ≠ n := by omega
    simp [h2]
theorem qseg_len {n : Nat} {ft : Int → Int} : ∀ (m : Nat), (∀ f : Nat, f < m → 0 ≤ ft f ∧ ft f < 20) → (qord m ft).length = m
  | 0, _ => by
    unfold qord
    have : ∀ k, qseg 0 ft 0 k = [] := by
      intro k
      induction k with
      | zero => exact qseg_zero _ _ _
      | succ k ih => rw [qseg_succ, ih]; rfl
    rw [this]
    rfl
  | m + 1, h => by
    have h1 := qseg_len (n := n) m (fun f hf => h f (by omega))
    have h2 := h m (by omega)
    obtain ⟨e1, e2⟩ := qord_add (n := m) (ft := ft) (ft' := ft) (fun _ _ => rfl) (t := (ft m).toNat) (by omega) (by omega)
    rw [e2]
    rw [e1] at h1
    simp only [List.length_append, List.length_cons] at h1 ⊢
    omega
theorem wterm_fold (S g : zM) (kp : Int → Bool) (by_ m t : Int) (v : Int → Int) : ∀ n : Nat, wterm S g kp by_ m t n v = ((List.range n).filter (fun f : Nat => decide (g 1 f = t))).foldl (fun v (f : Nat) => wfeed S g kp by_ m f v) v
  | 0 => by simp [wterm]
  | n + 1 => by
    rw [List.range_succ, List.filter_append, List.foldl_append, ← wterm_fold S g kp by_ m t v n]
    unfold wterm
    by_cases e : g 1 n = t
    · simp [e]
      cases n <;> rfl
    · simp [e]
      cases n <;> rfl
theorem wseg_fold (S g : zM) (n : Nat) (kp : Int → Bool) (by_ m : Int) (a : Nat) (v : Int → Int) : ∀ k : Nat, wseg S g n kp by_ m a k v = (qseg n (g 1) a k).foldl (fun v (f : Nat) => wfeed S g kp by_ m f v) v
  | 0 => by simp [wseg, qseg_zero]
  | k + 1 => by
    rw [qseg_succ, List.foldl_append, ← wseg_fold S g n kp by_ m a v k]
    show wterm S g kp by_ m ((a : Int) + k) n _ = _
    rw [wterm_fold]
    congr 2
theorem wseg_add (S g : zM) (n : Nat) (kp : Int → Bool) (by_ m : Int) (a k l : Nat) (v : Int → Int) : wseg S g n kp by_ m a (k + l) v = wseg S g n kp by_ m (a + k : Nat) l (wseg S g n kp by_ m a k v) := by
  rw [wseg_fold, wseg_fold, wseg_fold, qseg_add, List.foldl_append]
def LA (M : zM) (c : Nat) (l : List Nat) : Prop := ∀ (p x : Nat), l[p]? = some x → M c p = x
def vokb (b : Int) (v : Int → Int) : Prop := (∀ j, 0 ≤ j → j < 12 → 0 ≤ v j ∧ v j ≤ 9) ∧ 0 ≤ v 12 ∧ v 12 ≤ 9 ∧ 0 ≤ v 13 ∧ v 13 ≤ b
theorem vokb_ok {b : Int} {v : Int → Int} (h : vokb b v) (hb : b ≤ 1000) : vok v := ⟨h.1, h.2.1, h.2.2.1, h.2.2.2.1, by have := h.2.2.2.2; omega⟩
theorem vokb_start {so : Int} {fi : Int → Int} (h : ∀ q, 0 ≤ q → q < 4 → 0 ≤ fi q ∧ fi q ≤ 9) : vokb 0 (wstart so fi) := by
  refine ⟨fun j h1 h2 => ?_, ?_, ?_, ?_, ?_⟩
  · unfold wstart
    split
    · exact h j (by omega) (by omega)
    · split
      · exact h (j - 4) (by omega) (by omega)
      · rw [if_pos (by omega)]
        exact h (j - 8) (by omega) (by omega)
  · simp only [wstart, wstom]
    simp
    split <;> (try split) <;> omega
  · simp only [wstart, wstom]
    simp
    split <;> (try split) <;> omega
  · simp [wstart]
  · simp [wstart]
theorem vokb_drink {b by_ wa : Int} {mi v : Int → Int} (hv : vokb b v) (hb : 0 ≤ by_) (hm : ∀ q, 0 ≤ q → q < 4 → 0 ≤ mi q ∧ mi q ≤ 9) : vokb (b + 4) (wdrink by_ wa mi v) := by
  obtain ⟨h1, h2, h3, h4, h5⟩ := hv
  have hw := wbad_le wa mi v 4
  refine ⟨fun j j0 j1 => ?_, ?_, ?_, ?_, ?_⟩
  · have hj := h1 j j0 j1
    by_cases c1 : j < 4
    · have := hm j j0 c1
      unfold wdrink
      rw [if_pos ⟨j0, c1⟩]
      split
      · exact hj
      · unfold wgo
        split
        · omega
        · split <;> omega
    · by_cases c2 : j < 8
      · have := hm (j - 4) (by omega) (by omega)
        unfold wdrink
        rw [if_neg (by omega), if_pos (by omega)]
        split
        · exact hj
        · split <;> omega
      · have := hm (j - 8) (by omega) (by omega)
        unfold wdrink
        rw [if_neg (by omega), if_neg (by omega), if_pos (by omega)]
        split
        · exact hj
        · split <;> omega
  · show 0 ≤ (if wbad wa mi v 4 = 0 ∧ v 12 < 9 then v 12 + 1 else v 12)
    split <;> omega
  · show (if wbad wa mi v 4 = 0 ∧ v 12 < 9 then v 12 + 1 else v 12) ≤ 9
    split <;> omega
  · show 0 ≤ v 13 + wbad wa mi v 4
    omega
  · show v 13 + wbad wa mi v 4 ≤ b + 4
    omega
