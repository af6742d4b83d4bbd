theorem q_cg {S S' : zM} {k : Nat} (h0 : S' 0 k = S 0 k) (h1 : S' (1 + k) = S (1 + k)) : qflaw S' k = qflaw S k ∧ qn S' k = qn S k ∧ ∀ i j, qfact S' k i j = qfact S k i j := by
  have e1 : qend S' k = qend S k := by
    unfold qend
    rw [h0, h1]
  have e2 : qflaw S' k = qflaw S k := by
    unfold qflaw
    rw [h0, e1]
  refine ⟨e2, ?_, fun i j => ?_⟩
  · unfold qn
    rw [h0, e2]
  · unfold qfact
    rw [h1]
theorem SR_S {S S' M : zM} (h : SR S M) (hS : ∀ k i, 7 ≤ k → k ≤ 11 → S' k i = S k i) : SR S' M := by
  have e7 := hS 7 0 (by decide) (by decide)
  refine ⟨by rw [e7]; exact h.1, by rw [e7]; exact h.2.1, fun i a b => ?_⟩
  rw [e7] at b
  rw [hS 8 _ (by decide) (by decide), hS 9 _ (by decide) (by decide), hS 10 _ (by decide) (by decide), hS 11 _ (by decide) (by decide)]
  exact h.2.2 i a b
theorem LR_S {S S' M : zM} (h : LR S M) (hS : ∀ k i, 12 ≤ k → k ≤ 18 → S' k i = S k i) : LR S' M := by
  intro s hs
  rw [hS 12 _ (by decide) (by decide), hS 13 _ (by decide) (by decide), hS 14 _ (by decide) (by decide)]
  have := h s hs
  refine ⟨this.1, this.2.1, this.2.2.1, fun i a b => ?_⟩
  rw [hS (15 + s) _ (by omega) (by omega)]
  exact this.2.2.2 i a b
theorem LR_fr {S M M' : zM} (h : LR S M) (hf : ∀ k i, 38 ≤ k → k ≤ 45 → M' k i = M k i) : LR S M' := by
  intro s hs
  have := h s hs
  rw [hf (38 + 2 * s) 1 (by omega) (by omega), hf (38 + 2 * s) 2 (by omega) (by omega)]
  refine ⟨this.1, this.2.1, this.2.2.1, fun i a b => ?_⟩
  rw [hf (39 + 2 * s) i (by omega) (by omega)]
  exact this.2.2.2 i a b
theorem gt_S {S S' : zM} (hS : ∀ k i, 3 ≤ k → k ≤ 6 → S' k i = S k i) : nf S' = nf S ∧ ∀ k, k ≤ 3 → gt S' k = gt S k := by
  refine ⟨by unfold nf; rw [hS 3 0 (by decide) (by decide)], fun k hk => ?_⟩
  funext i
  exact hS (3 + k) i (by omega) (by omega)
theorem FR_S {c n n' : Nat} {g g' M : zM} (h : FR c n g M) (hn : n' = n) (hg : ∀ k, k ≤ 3 → g' k = g k) : FR c n' g' M := by
  subst hn
  obtain ⟨h1, h2, h3, h4⟩ := h
  refine ⟨h1, h2, by rw [hg 1 (by decide)]; exact h3, fun f hf => ?_⟩
  rw [hg 1 (by decide), hg 2 (by decide), hg 3 (by decide)]
  exact h4 f hf
theorem RX_text0 {S S' M M' : zM} (h : RX S M) (hS : ∀ k i, 3 ≤ k → S' k i = S k i) (hS1 : S' 0 1 = S 0 1) (hS2 : ∀ i, S' 2 i = S 2 i) (hV : VT S') (e3 : M' 1 3 = S' 0 0) (hb : ∀ i, 0 ≤ i → i < S' 0 0 → M' 2 i = S' 1 i) (e4 : M' 1 4 = qflaw S' 0) (e5 : M' 1 5 = qn S' 0) (fx : FX S' 0 3 M') (hM : ∀ k i, k ≠ 1 → k ≠ 2 → k ≠ 3 → M' k i = M k i) : RX S' M' := by
  obtain ⟨h1, h2, h3, h4, h5, h6, h7, h8⟩ := h
  have hq := q_cg (S := S) (S' := S') (k := 1) hS1 (funext hS2)
  obtain ⟨ng, gg⟩ := gt_S (fun k i a _ => hS k i a)
  have to : TX S' 1 4 M' := by
    have ho : TX S 1 4 M := by assumption
    refine ⟨?_, fun i a b => ?_, ?_⟩
    · rw [hM _ _ (by decide) (by decide) (by decide)]
      exact ho.1.trans hS1.symm
    · rw [hM _ _ (by decide) (by decide) (by decide)]
      exact (ho.2.1 i a (by rw [show S' 0 ((1 : Nat) : Int) = S 0 ((1 : Nat) : Int) from hS1] at b; exact b)).trans (hS2 i).symm
    · rw [hM _ _ (by decide) (by decide) (by decide), hq.1]
      exact ho.2.2
  have tk : TX S' 0 1 M' := ⟨e3, hb, e4⟩
  have io : M' 4 5 = qn S' 1 := by
    rw [hM _ _ (by decide) (by decide) (by decide), hq.2.1]
    first | exact h4.2.1 | exact h4.2.2.1
  have fo : FX S' 1 6 M' := by
    intro i j a b c d
    rw [hM _ _ (by decide) (by decide) (by decide), hq.2.2]
    rw [hq.2.1] at b
    first | exact h4.2.2.2.1 i j a b c d | exact h4.2.2.2.2 i j a b c d
  refine ⟨hV, by assumption, by assumption, ⟨VT_QR hV, by assumption, by assumption, by assumption, by assumption⟩, ⟨by rw [hS 3 0 (by decide)]; exact h5.1, FR_S (FR_fr h5.2 (fun k i a b => hM k i (by omega) (by omega) (by omega))) ng gg⟩, SR_S (SR_fr h6 (fun k i a b => hM k i (by omega) (by omega) (by omega))) (fun k i a _ => hS k i (by omega)), LR_S (LR_fr h7 (fun k i a b => hM k i (by omega) (by omega) (by omega))) (fun k i a _ => hS k i (by omega)), ?_, ?_⟩
  · rw [hM _ _ (by decide) (by decide) (by decide), hS 19 0 (by decide)]
    exact h8.1
  · rw [hS 19 0 (by decide)]
    exact h8.2
theorem RX_text1 {S S' M M' : zM} (h : RX S M) (hS : ∀ k i, 3 ≤ k → S' k i = S k i) (hS1 : S' 0 0 = S 0 0) (hS2 : ∀ i, S' 1 i = S 1 i) (hV : VT S') (e3 : M' 4 3 = S' 0 1) (hb : ∀ i, 0 ≤ i → i < S' 0 1 → M' 5 i = S' 2 i) (e4 : M' 4 4 = qflaw S' 1) (e5 : M' 4 5 = qn S' 1) (fx : FX S' 1 6 M') (hM : ∀ k i, k ≠ 4 → k ≠ 5 → k ≠ 6 → M' k i = M k i) : RX S' M' := by
  obtain ⟨h1, h2, h3, h4, h5, h6, h7, h8⟩ := h
  have hq := q_cg (S := S) (S' := S') (k := 0) hS1 (funext hS2)
  obtain ⟨ng, gg⟩ := gt_S (fun k i a _ => hS k i a)
  have to : TX S' 0 1 M' := by
    have ho : TX S 0 1 M := by assumption
    refine ⟨?_, fun i a b => ?_, ?_⟩
    · rw [hM _ _ (by decide) (by decide) (by decide)]
      exact ho.1.trans hS1.symm
    · rw [hM _ _ (by decide) (by decide) (by decide)]
      exact (ho.2.1 i a (by rw [show S' 0 ((0 : Nat) : Int) = S 0 ((0 : Nat) : Int) from hS1] at b; exact b)).trans (hS2 i).symm
    · rw [hM _ _ (by decide) (by decide) (by decide), hq.1]
      exact ho.2.2
  have tk : TX S' 1 4 M' := ⟨e3, hb, e4⟩
  have io : M' 1 5 = qn S' 0 := by
    rw [hM _ _ (by decide) (by decide) (by decide), hq.2.1]
    first | exact h4.2.1 | exact h4.2.2.1
  have fo : FX S' 0 3 M' := by
    intro i j a b c d
    rw [hM _ _ (by decide) (by decide) (by decide), hq.2.2]
    rw [hq.2.1] at b
    first | exact h4.2.2.2.1 i j a b c d | exact h4.2.2.2.2 i j a b c d
  refine ⟨hV, by assumption, by assumption, ⟨VT_QR hV, by assumption, by assumption, by assumption, by assumption⟩, ⟨by rw [hS 3 0 (by decide)]; exact h5.1, FR_S (FR_fr h5.2 (fun k i a b => hM k i (by omega) (by omega) (by omega))) ng gg⟩, SR_S (SR_fr h6 (fun k i a b => hM k i (by omega) (by omega) (by omega))) (fun k i a _ => hS k i (by omega)), LR_S (LR_fr h7 (fun k i a b => hM k i (by omega) (by omega) (by omega))) (fun k i a _ => hS k i (by omega)), ?_, ?_⟩
  · rw [hM _ _ (by decide) (by decide) (by decide), hS 19 0 (by decide)]
    exact h8.1
  · rw [hS 19 0 (by decide)]
    exact h8.2
def nType (S : zM) (t b : Int) : zM := zup (zup S (1 + t.toNat) (S 0 t) b) 0 t (S 0 t + 1)
def nLen (S : zM) (t n : Int) : zM := zup S 0 t n
theorem VT_type0 {S : zM} {b : Int} (h : VT S) (hb : 0 ≤ b ∧ b < 256) (hn : S 0 0 < 47) : VT (nType S 0 b) := by
  have e0 : nType S 0 b = zup (zup S 1 (S 0 0) b) 0 0 (S 0 0 + 1) := rfl
  have hk := h 0 (by decide)
  have ho := h 1 (by decide)
  intro j hj
  rw [e0]
  have ej : j = 0 ∨ j = 1 := by omega
  rcases ej with rfl | rfl
  · have hk : (0 ≤ S 0 0 ∧ S 0 0 ≤ 47) ∧ ∀ i, 0 ≤ i → i < S 0 0 → 0 ≤ S 1 i ∧ S 1 i ≤ 255 := hk
    show (0 ≤ zup (zup S 1 (S 0 0) b) 0 0 (S 0 0 + 1) 0 0 ∧ zup (zup S 1 (S 0 0) b) 0 0 (S 0 0 + 1) 0 0 ≤ 47) ∧ ∀ i, 0 ≤ i → i < zup (zup S 1 (S 0 0) b) 0 0 (S 0 0 + 1) 0 0 → 0 ≤ zup (zup S 1 (S 0 0) b) 0 0 (S 0 0 + 1) 1 i ∧ zup (zup S 1 (S 0 0) b) 0 0 (S 0 0 + 1) 1 i ≤ 255
    rw [zup_in, if_pos rfl]
    refine ⟨by omega, fun i i0 i1 => ?_⟩
    rw [zup_ne (by decide), zup_in]
    split
    · omega
    · exact hk.2 i i0 (by omega)
  · have ho : (0 ≤ S 0 1 ∧ S 0 1 ≤ 47) ∧ ∀ i, 0 ≤ i → i < S 0 1 → 0 ≤ S 2 i ∧ S 2 i ≤ 255 := ho
    show (0 ≤ zup (zup S 1 (S 0 0) b) 0 0 (S 0 0 + 1) 0 1 ∧ zup (zup S 1 (S 0 0) b) 0 0 (S 0 0 + 1) 0 1 ≤ 47) ∧ ∀ i, 0 ≤ i → i < zup (zup S 1 (S 0 0) b) 0 0 (S 0 0 + 1) 0 1 → 0 ≤ zup (zup S 1 (S 0 0) b) 0 0 (S 0 0 + 1) 2 i ∧ zup (zup S 1 (S 0 0) b) 0 0 (S 0 0 + 1) 2 i ≤ 255
    rw [zup_in, if_neg (by decide), zup_ne (by decide)]
    simp only [zup_ne (show 2 ≠ 0 by decide), zup_ne (show 2 ≠ 1 by decide)]
    exact ho
theorem VT_len0 {S : zM} {n : Int} (h : VT S) (hn : 0 ≤ n ∧ n ≤ S 0 0) : VT (nLen S 0 n) := by
  have hk := h 0 (by decide)
  have ho := h 1 (by decide)
  intro j hj
  unfold nLen
  have ej : j = 0 ∨ j = 1 := by omega
  rcases ej with rfl | rfl
  · have hk : (0 ≤ S 0 0 ∧ S 0 0 ≤ 47) ∧ ∀ i, 0 ≤ i → i < S 0 0 → 0 ≤ S 1 i ∧ S 1 i ≤ 255 := hk
    show (0 ≤ zup S 0 0 n 0 0 ∧ zup S 0 0 n 0 0 ≤ 47) ∧ ∀ i, 0 ≤ i → i < zup S 0 0 n 0 0 → 0 ≤ zup S 0 0 n 1 i ∧ zup S 0 0 n 1 i ≤ 255
    rw [zup_in, if_pos rfl]
    refine ⟨by omega, fun i i0 i1 => ?_⟩
    rw [zup_ne (by decide)]
    exact hk.2 i i0 (by omega)
  · have ho : (0 ≤ S 0 1 ∧ S 0 1 ≤ 47) ∧ ∀ i, 0 ≤ i → i < S 0 1 → 0 ≤ S 2 i ∧ S 2 i ≤ 255 := ho
    show (0 ≤ zup S 0 0 n 0 1 ∧ zup S 0 0 n 0 1 ≤ 47) ∧ ∀ i, 0 ≤ i → i < zup S 0 0 n 0 1 → 0 ≤ zup S 0 0 n 2 i ∧ zup S 0 0 n 2 i ≤ 255
    rw [zup_in, if_neg (by decide)]
    simp only [zup_ne (show 2 ≠ 0 by decide)]
    exact ho
theorem VT_type1 {S : zM} {b : Int} (h : VT S) (hb : 0 ≤ b ∧ b < 256) (hn : S 0 1 < 47) : VT (nType S 1 b) := by
  have e0 : nType S 1 b = zup (zup S 2 (S 0 1) b) 0 1 (S 0 1 + 1) := rfl
  have hk := h 1 (by decide)
  have ho := h 0 (by decide)
  intro j hj
  rw [e0]
  have ej : j = 1 ∨ j = 0 := by omega
  rcases ej with rfl | rfl
  · have hk : (0 ≤ S 0 1 ∧ S 0 1 ≤ 47) ∧ ∀ i, 0 ≤ i → i < S 0 1 → 0 ≤ S 2 i ∧ S 2 i ≤ 255 := hk
    show (0 ≤ zup (zup S 2 (S 0 1) b) 0 1 (S 0 1 + 1) 0 1 ∧ zup (zup S 2 (S 0 1) b) 0 1 (S 0 1 + 1) 0 1 ≤ 47) ∧ ∀ i, 0 ≤ i → i < zup (zup S 2 (S 0 1) b) 0 1 (S 0 1 + 1) 0 1 → 0 ≤ zup (zup S 2 (S 0 1) b) 0 1 (S 0 1 + 1) 2 i ∧ zup (zup S 2 (S 0 1) b) 0 1 (S 0 1 + 1) 2 i ≤ 255
    rw [zup_in, if_pos rfl]
    refine ⟨by omega, fun i i0 i1 => ?_⟩
    rw [zup_ne (by decide), zup_in]
    split
    · omega
    · exact hk.2 i i0 (by omega)
  · have ho : (0 ≤ S 0 0 ∧ S 0 0 ≤ 47) ∧ ∀ i, 0 ≤ i → i < S 0 0 → 0 ≤ S 1 i ∧ S 1 i ≤ 255 := ho
    show (0 ≤ zup (zup S 2 (S 0 1) b) 0 1 (S 0 1 + 1) 0 0 ∧ zup (zup S 2 (S 0 1) b) 0 1 (S 0 1 + 1) 0 0 ≤ 47) ∧ ∀ i, 0 ≤ i → i < zup (zup S 2 (S 0 1) b) 0 1 (S 0 1 + 1) 0 0 → 0 ≤ zup (zup S 2 (S 0 1) b) 0 1 (S 0 1 + 1) 1 i ∧ zup (zup S 2 (S 0 1) b) 0 1 (S 0 1 + 1) 1 i ≤ 255
    rw [zup_in, if_neg (by decide), zup_ne (by decide)]
    simp only [zup_ne (show 1 ≠ 0 by decide), zup_ne (show 1 ≠ 2 by decide)]
    exact ho
theorem VT_len1 {S : zM} {n : Int} (h : VT S) (hn : 0 ≤ n ∧ n ≤ S 0 1) : VT (nLen S 1 n) := by
  have hk := h 1 (by decide)
  have ho := h 0 (by decide)
  intro j hj
  unfold nLen
  have ej : j = 1 ∨ j = 0 := by omega
  rcases ej with rfl | rfl
  · have hk : (0 ≤ S 0 1 ∧ S 0 1 ≤ 47) ∧ ∀ i, 0 ≤ i → i < S 0 1 → 0 ≤ S 2 i ∧ S 2 i ≤ 255 := hk
    show (0 ≤ zup S 0 1 n 0 1 ∧ zup S 0 1 n 0 1 ≤ 47) ∧ ∀ i, 0 ≤ i → i < zup S 0 1 n 0 1 → 0 ≤ zup S 0 1 n 2 i ∧ zup S 0 1 n 2 i ≤ 255
    rw [zup_in, if_pos rfl]
    refine ⟨by omega, fun i i0 i1 => ?_⟩
    rw [zup_ne (by decide)]
    exact hk.2 i i0 (by omega)
  · have ho : (0 ≤ S 0 0 ∧ S 0 0 ≤ 47) ∧ ∀ i, 0 ≤ i → i < S 0 0 → 0 ≤ S 1 i ∧ S 1 i ≤ 255 := ho
    show (0 ≤ zup S 0 1 n 0 0 ∧ zup S 0 1 n 0 0 ≤ 47) ∧ ∀ i, 0 ≤ i → i < zup S 0 1 n 0 0 → 0 ≤ zup S 0 1 n 1 i ∧ zup S 0 1 n 1 i ≤ 255
    rw [zup_in, if_neg (by decide)]
    simp only [zup_ne (show 1 ≠ 0 by decide)]
    exact ho
