theorem zsm {a : Int} (h : -100000 ≤ a ∧ a ≤ 100000) : zIR a := ⟨by omega, by omega⟩
theorem wlst_R (p : Nat → Bool) : ∀ k : Nat, -1 ≤ wlst p k ∧ wlst p k < k
  | 0 => by simp [wlst]
  | k + 1 => by
    have := wlst_R p k
    unfold wlst
    (repeat' split) <;> omega
theorem pl_R (p0 : Bool) (p1 : Nat → Bool) (p2 : Nat → Nat → Bool) (K : Nat) : (-1 ≤ plN p0 p1 p2 K ∧ plN p0 p1 p2 K ≤ 2) ∧ (-1 ≤ plA p0 p1 p2 K ∧ plA p0 p1 p2 K ≤ K) ∧ (-1 ≤ plB p0 p1 p2 K ∧ plB p0 p1 p2 K ≤ K) := by
  have h1 := wlst_R p1 K
  have h2 : -1 ≤ plAny p2 K ∧ plAny p2 K < K := wlst_R _ K
  have h3 := wlst_R (p2 (plAny p2 K).toNat) K
  unfold plN plA plB
  refine ⟨?_, ?_, ?_⟩ <;> (repeat' split) <;> omega
theorem wsum_R {f : Nat → Int} {B : Int} : ∀ k : Nat, (∀ j : Nat, j < k → 0 ≤ f j ∧ f j ≤ B) → 0 ≤ wsum f k ∧ wsum f k ≤ B * k
  | 0, _ => by simp [wsum]
  | k + 1, h => by
    have ih := wsum_R k (fun j hj => h j (by omega))
    have := h k (by omega)
    have e : B * ((k + 1 : Nat) : Int) = B * k + B := by rw [Int.natCast_add, Int.mul_add]; simp
    unfold wsum
    rw [e]
    omega
theorem RX_qk {S M : zM} (h : RX S M) : (qk S : Int) = qn S 0 ∧ qk S ≤ 8 ∧ (ck S : Int) = qn S 1 ∧ ck S ≤ 8 ∧ (nf S : Int) = S 3 0 ∧ nf S ≤ 8 := by
  have h0 := (h.2.2.2.1.1 0 (by decide)).1
  have h1 := (h.2.2.2.1.1 1 (by decide)).1
  have h2 := h.2.2.2.2.1.1
  unfold qk ck nf
  omega
theorem r_flaw {S M : zM} (h : RX S M) (k : Nat) (hk : k < 2) : -1 ≤ qflaw S k ∧ qflaw S k ≤ 47 := by
  have hl := (h.1 k hk).1
  have lo : 0 ≤ qend S k := qfirst_lo _ _
  unfold qflaw
  (repeat' split) <;> omega
theorem r_fault {S M : zM} (h : RX S M) (t : Int) : zIR (aFault S t) := by
  unfold aFault
  split
  · have := r_flaw h t.toNat (by omega)
    exact zsm (by omega)
  · exact zsm (by decide)
theorem r_member {S M : zM} (h : RX S M) (m w : Int) : zIR (aMember S m w) := by
  unfold aMember
  split
  · rename_i q
    have := (h.2.2.2.1.1 0 (by decide)).2 m q.1.1 q.1.2
    by_cases e : w = 0
    · rw [e]; exact zsm (by omega)
    · have := this.2.2 w (by omega) (by omega)
      exact zsm (by omega)
  · exact zsm (by decide)
theorem r_cow {S M : zM} (h : RX S M) (m w : Int) : zIR (aCow S m w) := by
  unfold aCow
  split
  · rename_i q
    have := (h.2.2.2.1.1 1 (by decide)).2 m q.1.1 q.1.2
    by_cases e : w = 0
    · rw [e]; exact zsm (by omega)
    · have := this.2.2 w (by omega) (by omega)
      exact zsm (by omega)
  · exact zsm (by decide)
theorem r_able {S M : zM} (h : RX S M) (te me wh : Int) : zIR (aAble S te me wh) := by
  unfold aAble
  split
  · rename_i q
    have hv := RX_V h q.2.1.1 q.2.1.2 (T := te.toNat) (by omega)
    obtain ⟨v1, v2, v3, v4, v5⟩ := hv
    (repeat' split) <;> exact zsm (by omega)
  · exact zsm (by decide)
theorem r_at {S M : zM} (h : RX S M) (te me qu wh : Int) : zIR (aAt S te me qu wh) := by
  unfold aAt
  split
  · rename_i q
    have hv := RX_V h q.2.1.1 q.2.1.2 (T := te.toNat) (by omega)
    have v1 := hv.1 qu (by omega) (by omega)
    have v2 := hv.1 (4 + qu) (by omega) (by omega)
    have v3 := hv.1 (8 + qu) (by omega) (by omega)
    (repeat' split) <;> exact zsm (by omega)
  · exact zsm (by decide)
theorem r_rear {S M : zM} (h : RX S M) (me qu s i : Int) : zIR (aRear S me qu s i) := by
  have := pl_R (re0 S me qu s) (re1 S me qu s) (re2 S me qu s) (ck S)
  have := RX_qk h
  unfold aRear
  (repeat' split) <;> exact zsm (by omega)
theorem r_spare {S M : zM} (h : RX S M) (i : Int) : zIR (aSpare S i) := by
  have := pl_R (sp0 S kall) (fun a => sp0 S (kbut a)) (sp2 S) (nf S)
  have := RX_qk h
  unfold aSpare
  (repeat' split) <;> exact zsm (by omega)
theorem r_first {S M : zM} (h : RX S M) (me qu : Int) : zIR (aFirst S me qu) := by
  have := wbs_R (pfst S me qu) 10
  unfold aFirst
  (repeat' split) <;> exact zsm (by omega)
theorem wmni_R (f : Nat → Int) : ∀ k : Nat, -1 ≤ wmni f k ∧ wmni f k ≤ k
  | 0 => by simp [wmni]
  | k + 1 => by
    have := wmni_R f k
    unfold wmni
    split <;> omega
theorem r_ask {S M : zM} (h : RX S M) (me qu : Int) : zIR (aAsk S me qu) := by
  have := wmni_R (akf S me qu) 20
  unfold aAsk
  (repeat' split) <;> exact zsm (by omega)
theorem r_sort {S M : zM} (h : RX S M) (me : Int) : zIR (aSort S me) := by
  have := wbs_R (fun v => wsee S (wX S kall (fup (so0 S) me v) (fst S))) 3
  unfold aSort
  (repeat' split) <;> exact zsm (by omega)
theorem r_house {S M : zM} (h : RX S M) (te qu wh : Int) : zIR (aHouse S te qu wh) := by
  have h8 := RX_qk h
  have h1 := wct_R (pay S te.toNat qu) (qk S)
  have h2 := wbs_8 (whin (pay S te.toNat qu) (qn S 0) (qk S)) h8.2.1
  unfold aHouse
  (repeat' split) <;> exact zsm (by omega)
theorem r_says {S M : zM} (h : RX S M) (qu : Int) : zIR (aSays S qu) := by
  have h8 := RX_qk h
  have h1 := wlst_R (fun m => !pay S 19 qu m) (qk S)
  unfold aSays
  (repeat' split) <;> exact zsm (by omega)
theorem wmxi_R (f : Nat → Int) : ∀ k : Nat, -1 ≤ wmxi f k ∧ wmxi f k ≤ k
  | 0 => by simp [wmxi]
  | k + 1 => by
    have := wmxi_R f k
    unfold wmxi
    split <;> omega
theorem wmxv_R2 {f : Nat → Int} {B : Int} (h : ∀ n, f n ≤ B) (hB : 0 ≤ B) : ∀ n, -1 ≤ wmxv f n ∧ wmxv f n ≤ B
  | 0 => by simp [wmxv]; omega
  | n + 1 => by
    have := wmxv_R2 h hB n
    have := h n
    unfold wmxv
    split <;> omega
theorem r_carry {S M : zM} (h : RX S M) (te qu wh : Int) : zIR (aCarry S te qu wh) := by
  have h8 := RX_qk h
  have hp : qk S * ck S ≤ 8 * 8 := Nat.mul_le_mul h8.2.1 h8.2.2.2.1
  have h1 := wmxi_R (wcf S te.toNat qu) (qk S * ck S)
  have h2 := wmxv_R2 (f := wcf S te.toNat qu) (B := 100) (fun n => by
    have := wct_R (pay S 19 qu) (qk S)
    unfold wcf wcs
    (repeat' split) <;> omega) (by decide) (qk S * ck S)
  have h3 : -1 ≤ wcw S te.toNat qu (qk S * ck S) ∧ wcw S te.toNat qu (qk S * ck S) ≤ 64 := by
    unfold wcw
    split
    · omega
    · have a1 := Int.ediv_nonneg (a := wmxi (wcf S te.toNat qu) (qk S * ck S)) (b := ck S) (by omega) (by omega)
      have a2 := Int.ediv_le_self (a := wmxi (wcf S te.toNat qu) (qk S * ck S)) (ck S) (by omega)
      omega
  have h4 : -1 ≤ wcx S te.toNat qu (qk S * ck S) ∧ wcx S te.toNat qu (qk S * ck S) ≤ 64 := by
    unfold wcx
    split
    · omega
    · rcases Nat.eq_zero_or_pos (ck S) with e | e
      · generalize wmxi (wcf S te.toNat qu) (qk S * ck S) = w at *
        rw [e, Int.natCast_zero, Int.emod_zero]
        omega
      · have a1 := Int.emod_nonneg (wmxi (wcf S te.toNat qu) (qk S * ck S)) (b := (ck S : Int)) (by omega)
        have a2 := Int.emod_lt_of_pos (wmxi (wcf S te.toNat qu) (qk S * ck S)) (b := (ck S : Int)) (by omega)
        omega
  unfold aCarry
  (repeat' split) <;> exact zsm (by omega)
theorem r_pusey {S M : zM} (h : RX S M) (wh : Int) : zIR (aPusey S wh) := by
  have h8 := RX_qk h
  have h1 : -1 ≤ pT S ∧ pT S < (20 : Nat) := wlst_R _ 20
  have h2 : -1 ≤ pM S ∧ pM S < qk S := wlst_R _ (qk S)
  have h3 : ∀ v, -1 ≤ pQ v ∧ pQ v ≤ 3 := fun v => by unfold pQ; (repeat' split) <;> omega
  have h4 := h3 (wV S (pM S) (pT S).toNat)
  unfold aPusey
  (repeat' split) <;> exact zsm (by omega)
theorem r_weaned {S M : zM} (h : RX S M) : zIR (aWeaned S) := by
  have h8 := RX_qk h
  have := wbs_8 (fun m => !wknb (wV S m 19) (fst S m)) h8.2.1
  exact zsm (by unfold aWeaned; omega)
theorem r_never {S M : zM} (h : RX S M) : zIR (aNever S) := by
  have h8 := RX_qk h
  have := wbs_8 (fun f => wsee S (wX S (kbut f) (so0 S) (fst S))) h8.2.2.2.2.2
  exact zsm (by unfold aNever; omega)
theorem r_count {S M : zM} (h : RX S M) (w : Int) : zIR (aCount S w) := by
  have h8 := RX_qk h
  have t0 := (h.1 0 (by decide)).1
  have t1 := (h.1 1 (by decide)).1
  have t0 : 0 ≤ S 0 0 ∧ S 0 0 ≤ 47 := t0
  have t1 : 0 ≤ S 0 1 ∧ S 0 1 ≤ 47 := t1
  have h3 := h.2.2.2.2.1.1
  have h7 := h.2.2.2.2.2.1.2.1
  have h19 := h.2.2.2.2.2.2.2.2
  have hw := wct_R (unk S kall) (qk S)
  have hs := wsum_R (f := fun m => wV S m 19 13) (B := 32) (qk S) (fun j hj => by
    have := RX_V h (m := j) (by omega) (by omega) (T := 19) (by decide)
    exact ⟨this.2.2.2.1, this.2.2.2.2⟩)
  unfold aCount
  (repeat' split) <;> exact zsm (by omega)
theorem gD_R {S M : zM} (h : RX S M) (s n : Int) (hn : 0 ≤ n ∧ n < 9) : yk S n ≤ 8 ∧ ∀ f : Nat, f < yk S n → (0 ≤ gD S s 1 f ∧ gD S s 1 f < 20) ∧ (0 ≤ gD S s 2 f ∧ gD S s 2 f < qn S 0) ∧ (0 ≤ gD S s 3 f ∧ gD S s 3 f < qn S 1) := by
  have h8 := RX_qk h
  unfold yk
  split
  · exact ⟨by decide, fun f hf => by omega⟩
  · rename_i q
    refine ⟨by omega, fun f hf => ?_⟩
    refine ⟨?_, ?_, ?_⟩
    · unfold gD; rw [if_pos rfl]; exact lot_R (by decide)
    · unfold gD; rw [if_neg (by decide), if_pos rfl]; exact lot_R (by omega)
    · unfold gD; rw [if_neg (by decide), if_neg (by decide)]; exact lot_R (by omega)
theorem r_years {S M : zM} (h : RX S M) (s n wh : Int) : zIR (aYears S s n wh) := by
  have h8 := RX_qk h
  unfold aYears
  split
  · rename_i q
    obtain ⟨y8, hg⟩ := gD_R h s n q.1
    have hw := wct_R (fun m => !wknb (wvec S (gD S s) (yk S n) kall m 19) (fst S m)) (qk S)
    have hs := wsum_R (f := fun m => wvec S (gD S s) (yk S n) kall m 19 13) (B := 32) (qk S) (fun j hj => by
      have := vokb_vec (S := S) (g := gD S s) (n := yk S n) (kp := kall) (m := (j : Int)) (T := 19) h.2.2.2.1.1 (by omega) (by omega) (fun f hf => ⟨(hg f hf).1, (hg f hf).2.2.1⟩) y8 (by decide)
      exact ⟨this.2.2.2.1, this.2.2.2.2⟩)
    split <;> exact zsm (by omega)
  · exact zsm (by decide)
