def olt (S : zM) (te m : Nat) : zQ := fun f => decide (f < nf S ∧ 0 ≤ gt S 2 f ∧ gt S 2 f < m ∧ gt S 1 f ≤ te)
theorem olt_s (S : zM) (te m k : Nat) : olt S te (m + 1) k = (olt S te m k || ow S te m k) ∧ (olt S te m k && ow S te m k) = false := by
  unfold olt ow
  constructor
  · rw [← Bool.decide_or]
    apply decide_eq_decide.mpr
    omega
  · rw [← Bool.decide_and, decide_eq_false_iff_not]
    omega
theorem cO_olt (S : zM) (te m : Nat) : ∀ k : Nat, cO (olt S te (m + 1)) k = cO (olt S te m) k + cO (ow S te m) k
  | 0 => rfl
  | k + 1 => by
    have ih := cO_olt S te m k
    have h := olt_s S te m k
    unfold cO
    rw [ih, h.1]
    cases h1 : olt S te m k <;> cases h2 : ow S te m k <;> simp [h1, h2] at h ⊢ <;> omega
theorem cO_olt0 (S : zM) (te : Nat) : ∀ k : Nat, cO (olt S te 0) k = 0
  | 0 => rfl
  | k + 1 => by
    have ih := cO_olt0 S te k
    have : olt S te 0 k = false := by unfold olt; rw [decide_eq_false_iff_not]; omega
    unfold cO
    rw [ih, this]
    rfl
def fW (S : zM) (te : Nat) (qu : Int) (m : Nat) (j : Int) : zQ → Int := fun s => if wct (pcr S te qu s) m = j then 1 else 0
def aW (S : zM) (c : Int) (te : Nat) (qu : Int) (m : Nat) (j : Int) : Int := eE c 8 (fW S te qu m j)
theorem wct_cg {p p' : Nat → Bool} : ∀ k : Nat, (∀ j : Nat, j < k → p j = p' j) → wct p k = wct p' k
  | 0, _ => rfl
  | k + 1, h => by
    unfold wct
    rw [wct_cg k (fun j hj => h j (by omega)), h k (by omega)]
theorem free_pcr {S : zM} {te m k : Nat} {qu : Int} (h : ow S te m k = false) (s : zQ) (b b' : Bool) : pcr S te qu (qset s k b) m = pcr S te qu (qset s k b') m := by
  have := free_fcr (qu := qu) h s b b'
  unfold fcr at this
  cases h1 : pcr S te qu (qset s k b) m <;> cases h2 : pcr S te qu (qset s k b') m <;> simp [h1, h2] at this ⊢
theorem ow_olt {S : zM} {te m m' k : Nat} (h : olt S te m k = false) (hm : m' < m) : ow S te m' k = false := by
  unfold olt at h
  unfold ow
  rw [decide_eq_false_iff_not] at h ⊢
  omega
theorem wct_free {S : zM} {te m k : Nat} {qu : Int} (h : olt S te m k = false) (s : zQ) (b b' : Bool) : wct (pcr S te qu (qset s k b)) m = wct (pcr S te qu (qset s k b')) m := wct_cg m (fun j hj => free_pcr (ow_olt h hj) s b b')
theorem free_fW {S : zM} {te m k : Nat} {qu j : Int} (h : olt S te m k = false) : free (fW S te qu m j) k := by
  intro s b b'
  unfold fW
  rw [wct_free h]
theorem aW_s (S : zM) (c : Int) (te : Nat) (qu : Int) (m : Nat) (j : Int) : aW S c te qu (m + 1) j * 16 ^ 8 = aW S c te qu m j * (16 ^ 8 - eE c 8 (fcr S te qu m)) + aW S c te qu m (j - 1) * eE c 8 (fcr S te qu m) := by
  have hd : ∀ k, k < 8 → olt S te m k = false ∨ ow S te m k = false := fun k _ => by
    have := (olt_s S te m k).2
    cases h1 : olt S te m k <;> cases h2 : ow S te m k <;> simp [h1, h2] at this ⊢
  have e1 := eE_mul (c := c) 8 (fW S te qu m j) (fun s => 1 - fcr S te qu m s) (fun k hk => (hd k hk).imp (fun q => free_fW q) (fun q => by
    intro s b b'
    show 1 - _ = 1 - _
    rw [free_fcr q s b b']))
  have e2 := eE_mul (c := c) 8 (fW S te qu m (j - 1)) (fcr S te qu m) (fun k hk => (hd k hk).imp (fun q => free_fW q) (fun q => free_fcr q))
  rw [eE_sub, eE_one] at e1
  unfold aW
  rw [← e1, ← e2, ← Int.add_mul, ← eE_add]
  congr 1
  refine eE_congr 8 (fun s => ?_)
  unfold fW fcr
  have hw : wct (pcr S te qu s) (m + 1) = wct (pcr S te qu s) m + if pcr S te qu s m = true then 1 else 0 := rfl
  rw [hw]
  cases hp : pcr S te qu s m with
  | true =>
    simp only [if_true]
    by_cases e : wct (pcr S te qu s) m = j - 1
    · rw [if_pos (by omega), if_pos e]
      simp
    · rw [if_neg (by omega), if_neg e]
      simp
  | false =>
    simp only [Bool.false_eq_true, if_false, Int.add_zero]
    simp
theorem aW_0 (S : zM) (c : Int) (te : Nat) (qu : Int) (j : Int) : aW S c te qu 0 j = if j = 0 then 16 ^ 8 else 0 := by
  unfold aW fW
  by_cases h : j = 0
  · rw [if_pos h, ← eE_one (c := c)]
    exact eE_congr 8 (fun s => by rw [h]; rfl)
  · rw [if_neg h]
    have : ∀ s : zQ, (if wct (pcr S te qu s) 0 = j then (1 : Int) else 0) = (1 : Int) - 1 := fun s => by
      rw [show wct (pcr S te qu s) 0 = 0 from rfl, if_neg (fun q : (0 : Int) = j => h q.symm)]
      rfl
    rw [eE_congr 8 this, eE_sub]
    omega
theorem eE_zero {c : Int} (n : Nat) : eE c n (fun _ => 0) = 0 := by
  have : eE c n (fun _ => (1 : Int) - 1) = 0 := by rw [eE_sub]; omega
  exact this
theorem aW_hi (S : zM) (c : Int) (te : Nat) (qu : Int) (m : Nat) {j : Int} (h : (m : Int) < j ∨ j < 0) : aW S c te qu m j = 0 := by
  unfold aW
  rw [← eE_zero (c := c) 8]
  refine eE_congr 8 (fun s => ?_)
  unfold fW
  have := wct_R (pcr S te qu s) m
  rw [if_neg (by omega)]
theorem aW_step {S : zM} {c : Int} {te : Nat} {qu : Int} {m : Nat} {w : Nat → Int} {ay : Int} (hay : ay = eO c (ow S te m) 8 (fcr S te qu m)) (hw : ∀ j : Nat, j ≤ 8 → aW S c te qu m j = w j * 16 ^ (8 - cO (olt S te m) 8)) (j : Nat) (hj : j ≤ 8) : aW S c te qu (m + 1) j = (w j * (16 ^ (cO (ow S te m) 8) - ay) + (if j = 0 then 0 else w (j - 1) * ay)) * 16 ^ (8 - cO (olt S te (m + 1)) 8) := by
  have h1 := aW_s S c te qu m j
  have h2 := eE_eO (c := c) (own := ow S te m) 8 (fcr S te qu m) (fun k _ ho => free_fcr ho)
  have h3 := cO_olt S te m 8
  have l1 := cO_le (olt S te (m + 1)) 8
  rw [← hay] at h2
  have hj1 : aW S c te qu m ((j : Int) - 1) = (if j = 0 then 0 else w (j - 1)) * 16 ^ (8 - cO (olt S te m) 8) := by
    by_cases e : j = 0
    · subst e
      rw [aW_hi S c te qu m (by omega), if_pos rfl, Int.zero_mul]
    · have := hw (j - 1) (by omega)
      rw [if_neg e, ← this]
      congr 1
      omega
  rw [h2, hw j hj, hj1] at h1
  rw [h3] at l1
  rw [h3]
  clear h2 h3 hw hj1 hay
  generalize cO (olt S te m) 8 = a at *
  generalize cO (ow S te m) 8 = b at *
  have p1 : (16 : Int) ^ 8 = 16 ^ (8 - b) * 16 ^ b := by rw [← Int.pow_add]; congr 1; omega
  have p2 : (16 : Int) ^ (8 - a) * 16 ^ (8 - b) = 16 ^ (8 - (a + b)) * 16 ^ 8 := by rw [← Int.pow_add, ← Int.pow_add]; congr 1; omega
  have e0 : (if j = 0 then (0 : Int) else w (j - 1) * ay) = (if j = 0 then 0 else w (j - 1)) * ay := by split <;> simp
  rw [e0]
  generalize (if j = 0 then (0 : Int) else w (j - 1)) = z at *
  have p3 : (16 : Int) ^ 8 - 16 ^ (8 - b) * ay = 16 ^ (8 - b) * (16 ^ b - ay) := by rw [Int.mul_sub, ← p1]
  rw [p3] at h1
  have q1 : w j * 16 ^ (8 - a) * (16 ^ (8 - b) * (16 ^ b - ay)) = (w j * (16 ^ b - ay)) * ((16 : Int) ^ (8 - a) * 16 ^ (8 - b)) := by
    simp only [Int.mul_assoc, Int.mul_comm, Int.mul_left_comm]
  have q2 : z * 16 ^ (8 - a) * (16 ^ (8 - b) * ay) = (z * ay) * ((16 : Int) ^ (8 - a) * 16 ^ (8 - b)) := by
    simp only [Int.mul_assoc, Int.mul_comm, Int.mul_left_comm]
  rw [q1, q2, ← Int.add_mul, p2, ← Int.mul_assoc] at h1
  exact Int.eq_of_mul_eq_mul_right (by decide) h1
def fcry (S : zM) (te : Nat) (qu : Int) : zQ → Int := fun s => if qn S 0 < 2 * wct (pcr S te qu s) (qk S) then 1 else 0
def crX (S : zM) (c : Int) (te : Nat) (qu : Int) : Int := eE c 8 (fcry S te qu)
def ccs (nm : Int) (w : Nat → Int) : Nat → Int
  | 0 => 0
  | k + 1 => ccs nm w k + if nm < 2 * (k : Int) then w k else 0
theorem ccs_eE {S : zM} {c : Int} {te : Nat} {qu : Int} {w : Nat → Int} {P : Int} (hw : ∀ j : Nat, j ≤ 8 → aW S c te qu (qk S) j = w j * P) : ∀ k : Nat, k ≤ 9 → ccs (qn S 0) w k * P = eE c 8 (fun s => if qn S 0 < 2 * wct (pcr S te qu s) (qk S) ∧ wct (pcr S te qu s) (qk S) < k then 1 else 0)
  | 0, _ => by
    show 0 * P = _
    rw [Int.zero_mul]
    refine Eq.trans (eE_zero (c := c) 8).symm (eE_congr 8 (fun s => ?_))
    have := wct_R (pcr S te qu s) (qk S)
    rw [if_neg (by omega)]
  | k + 1, hk => by
    have ih := ccs_eE hw k (by omega)
    unfold ccs
    rw [Int.add_mul, ih]
    by_cases e : qn S 0 < 2 * (k : Int)
    · rw [if_pos e, ← hw k (by omega)]
      unfold aW
      rw [← eE_add]
      refine eE_congr 8 (fun s => ?_)
      unfold fW
      by_cases e2 : wct (pcr S te qu s) (qk S) = k
      · rw [if_pos e2, if_neg (by omega), if_pos (by omega)]
        rfl
      · rw [if_neg e2, Int.add_zero]
        by_cases e3 : qn S 0 < 2 * wct (pcr S te qu s) (qk S) ∧ wct (pcr S te qu s) (qk S) < k
        · rw [if_pos e3, if_pos (by omega)]
        · rw [if_neg e3, if_neg (by omega)]
    · rw [if_neg e, Int.zero_mul, Int.add_zero]
      refine eE_congr 8 (fun s => ?_)
      by_cases e3 : qn S 0 < 2 * wct (pcr S te qu s) (qk S) ∧ wct (pcr S te qu s) (qk S) < k
      · rw [if_pos e3, if_pos (by omega)]
      · rw [if_neg e3, if_neg (by omega)]
theorem eE_R {c : Int} (hc : 0 ≤ c ∧ c ≤ 16) : ∀ (n : Nat) (F : zQ → Int), (∀ s, 0 ≤ F s ∧ F s ≤ 1) → 0 ≤ eE c n F ∧ eE c n F ≤ 16 ^ n
  | 0, F, h => by
    show 0 ≤ F _ ∧ F _ ≤ 16 ^ 0
    have := h (fun _ => false)
    simp
    exact this
  | n + 1, F, h => by
    have i1 := eE_R hc n (fun s => F (qset s n true)) (fun s => h _)
    have i2 := eE_R hc n (fun s => F (qset s n false)) (fun s => h _)
    show 0 ≤ c * eE c n (fun s => F (qset s n true)) + (16 - c) * eE c n (fun s => F (qset s n false)) ∧ c * eE c n (fun s => F (qset s n true)) + (16 - c) * eE c n (fun s => F (qset s n false)) ≤ _
    have a1 := Int.mul_nonneg hc.1 i1.1
    have a2 := Int.mul_nonneg (show 0 ≤ 16 - c by omega) i2.1
    have b1 := Int.mul_le_mul_of_nonneg_left i1.2 hc.1
    have b2 := Int.mul_le_mul_of_nonneg_left i2.2 (show 0 ≤ 16 - c by omega)
    have e : (16 : Int) ^ (n + 1) = c * 16 ^ n + (16 - c) * 16 ^ n := by
      rw [← Int.add_mul, Int.pow_succ, Int.mul_comm]
      congr 1
      omega
    rw [e]
    omega
theorem crX_R {S : zM} {c : Int} {te : Nat} {qu : Int} (hc : 0 ≤ c ∧ c ≤ 16) : 0 ≤ crX S c te qu ∧ crX S c te qu ≤ 4294967296 := by
  have := eE_R hc 8 (fcry S te qu) (fun s => by unfold fcry; split <;> omega)
  exact this
def aCream (S : zM) (c te qu wh : Int) : Int := if (0 ≤ c ∧ c < 17) ∧ (0 ≤ te ∧ te < 20) ∧ (0 ≤ qu ∧ qu < 4) ∧ (0 ≤ wh ∧ wh < 2) then (if wh = 0 then (((crX S c te.toNat qu).toNat / Nat.gcd (crX S c te.toNat qu).toNat 4294967296 : Nat) : Int) else ((4294967296 / Nat.gcd (crX S c te.toNat qu).toNat 4294967296 : Nat) : Int)) else -9223372036854775806
theorem low_scale {a b k : Nat} (hk : 0 < k) : (a * k) / Nat.gcd (a * k) (b * k) = a / Nat.gcd a b ∧ (b * k) / Nat.gcd (a * k) (b * k) = b / Nat.gcd a b := by
  rw [Nat.gcd_mul_right]
  exact ⟨Nat.mul_div_mul_right _ _ hk, Nat.mul_div_mul_right _ _ hk⟩
theorem cO_d : ∀ o : Fin 256, zbc o.val = ((cO (nb o.val) 8 : Nat) : Int) := by decide +kernel
theorem p16_d : ∀ k : Fin 9, zlshl 1 (4 * (k.val : Int)) = 16 ^ k.val := by decide +kernel
