def eO (c : Int) (own : zQ) : Nat → (zQ → Int) → Int
  | 0, F => F (fun _ => false)
  | k + 1, F => if own k = true then c * eO c own k (fun s => F (qset s k true)) + (16 - c) * eO c own k (fun s => F (qset s k false)) else eO c own k (fun s => F (qset s k false))
def cO (own : zQ) : Nat → Nat
  | 0 => 0
  | k + 1 => cO own k + if own k = true then 1 else 0
theorem cO_le (own : zQ) : ∀ k, cO own k ≤ k
  | 0 => Nat.le_refl _
  | k + 1 => by
    have := cO_le own k
    unfold cO
    split <;> omega
theorem eE_eO {c : Int} {own : zQ} : ∀ (n : Nat) (F : zQ → Int), (∀ k, k < n → own k = false → free F k) → eE c n F = 16 ^ (n - cO own n) * eO c own n F
  | 0, F, _ => by simp [eE, eO]
  | n + 1, F, h => by
    have hle := cO_le own n
    have ih := fun b => eE_eO (c := c) (own := own) n (fun s => F (qset s n b)) (fun k hk ho => free_set (h k (by omega) ho) (by omega))
    cases ho : own n with
    | true =>
      show c * eE c n (fun s => F (qset s n true)) + (16 - c) * eE c n (fun s => F (qset s n false)) = _
      rw [ih true, ih false]
      have e1 : cO own (n + 1) = cO own n + 1 := by show cO own n + (if own n = true then 1 else 0) = _; rw [ho]; rfl
      have e2 : eO c own (n + 1) F = c * eO c own n (fun s => F (qset s n true)) + (16 - c) * eO c own n (fun s => F (qset s n false)) := by
        conv => lhs; unfold eO
        rw [ho, if_pos rfl]
      rw [e1, e2, show n + 1 - (cO own n + 1) = n - cO own n by omega, Int.mul_add, Int.mul_left_comm, Int.mul_left_comm (16 - c)]
    | false =>
      rw [eE_free (h n (by omega) ho), ih true]
      have e1 : cO own (n + 1) = cO own n := by show cO own n + (if own n = true then 1 else 0) = _; rw [ho]; rfl
      have e2 : eO c own (n + 1) F = eO c own n (fun s => F (qset s n false)) := by
        conv => lhs; unfold eO
        rw [ho, if_neg (by simp)]
      have e3 : (fun s => F (qset s n true)) = (fun s => F (qset s n false)) := funext (fun s => h n (by omega) ho s true false)
      rw [e1, e2, e3, show n + 1 - cO own n = (n - cO own n) + 1 by omega, Int.pow_succ, ← Int.mul_assoc, Int.mul_comm 16]
def nb (x : Nat) : zQ := fun i => decide (x / 2 ^ i % 2 = 1)
def pr (c : Int) (own s : zQ) : Nat → Int
  | 0 => 1
  | k + 1 => pr c own s k * (if own k = true then (if s k = true then c else 16 - c) else 1)
def sb (own s : zQ) : Nat → Bool
  | 0 => true
  | k + 1 => sb own s k && (!s k || own k)
theorem nb_low {x k : Nat} (h : x < 2 ^ k) : ∀ i, k ≤ i → nb x i = false := by
  intro i hi
  unfold nb
  have : x < 2 ^ i := Nat.lt_of_lt_of_le h (Nat.pow_le_pow_right (by decide) hi)
  rw [Nat.div_eq_of_lt this]
  decide
theorem nb_set0 {x k : Nat} (h : x < 2 ^ k) : nb x = qset (nb x) k false := by
  funext i
  unfold qset
  split
  · rename_i e
    rw [e]
    exact nb_low h k (Nat.le_refl _)
  · rfl
theorem nb_set1 {x k : Nat} (h : x < 2 ^ k) : nb (x + 2 ^ k) = qset (nb x) k true := by
  funext i
  have hp : 0 < 2 ^ i := Nat.pow_pos (by decide)
  unfold qset nb
  by_cases e : i = k
  · subst e
    rw [if_pos rfl, Nat.add_div_right _ hp, Nat.div_eq_of_lt h]
    decide
  · rw [if_neg e]
    by_cases c : i < k
    · have e2 : 2 ^ k = 2 ^ i * (2 * 2 ^ (k - i - 1)) := by
        rw [← Nat.pow_succ', ← Nat.pow_add]
        congr 1
        omega
      rw [e2, Nat.add_mul_div_left _ _ hp]
      congr 1
      rw [Nat.add_mul_mod_self_left]
    · have h1 : x + 2 ^ k < 2 ^ i := by
        have : 2 ^ (k + 1) ≤ 2 ^ i := Nat.pow_le_pow_right (by decide) (by omega)
        rw [Nat.pow_succ] at this
        omega
      rw [Nat.div_eq_of_lt h1, Nat.div_eq_of_lt (by omega)]
theorem pr_set {c : Int} {own s : zQ} {j : Nat} {b : Bool} : ∀ k, k ≤ j → pr c own (qset s j b) k = pr c own s k
  | 0, _ => rfl
  | k + 1, h => by
    unfold pr
    rw [pr_set k (by omega)]
    have : qset s j b k = s k := by unfold qset; rw [if_neg (by omega)]
    rw [this]
theorem sb_set {own s : zQ} {j : Nat} {b : Bool} : ∀ k, k ≤ j → sb own (qset s j b) k = sb own s k
  | 0, _ => rfl
  | k + 1, h => by
    unfold sb
    rw [sb_set k (by omega)]
    have : qset s j b k = s k := by unfold qset; rw [if_neg (by omega)]
    rw [this]
def gsum (g : Nat → Int) : Nat → Int
  | 0 => 0
  | n + 1 => gsum g n + g n
theorem gsum_congr {g g' : Nat → Int} : ∀ n : Nat, (∀ x, x < n → g x = g' x) → gsum g n = gsum g' n
  | 0, _ => rfl
  | n + 1, h => by
    unfold gsum
    rw [gsum_congr n (fun x hx => h x (by omega)), h n (by omega)]
theorem gsum_add (g : Nat → Int) (a : Nat) : ∀ b : Nat, gsum g (a + b) = gsum g a + gsum (fun x => g (x + a)) b
  | 0 => by simp [gsum]
  | b + 1 => by
    show gsum g (a + b) + g (a + b) = gsum g a + (gsum (fun x => g (x + a)) b + g (b + a))
    rw [gsum_add g a b, Nat.add_comm b a]
    omega
theorem gsum_plus (g g' : Nat → Int) : ∀ n : Nat, gsum (fun x => g x + g' x) n = gsum g n + gsum g' n
  | 0 => rfl
  | n + 1 => by
    unfold gsum
    rw [gsum_plus g g' n]
    omega
theorem gsum_mul (a : Int) (g : Nat → Int) : ∀ n : Nat, gsum (fun x => a * g x) n = a * gsum g n
  | 0 => by simp [gsum]
  | n + 1 => by
    unfold gsum
    rw [gsum_mul a g n, Int.mul_add]
theorem gsum_zero {g : Nat → Int} : ∀ n : Nat, (∀ x, x < n → g x = 0) → gsum g n = 0
  | 0, _ => rfl
  | n + 1, h => by
    unfold gsum
    rw [gsum_zero n (fun x hx => h x (by omega)), h n (by omega)]
    rfl
def oT (c : Int) (own : zQ) (k : Nat) (F : zQ → Int) : Nat → Int := fun x => if sb own (nb x) k = true then pr c own (nb x) k * F (nb x) else 0
theorem oT_sum {c : Int} {own : zQ} : ∀ (k : Nat) (F : zQ → Int), gsum (oT c own k F) (2 ^ k) = eO c own k F
  | 0, F => by
    show 0 + oT c own 0 F 0 = F (fun _ => false)
    have : nb 0 = fun _ => false := funext (fun i => by unfold nb; rw [Nat.zero_div]; decide)
    unfold oT
    rw [this]
    simp [sb, pr]
  | k + 1, F => by
    rw [Nat.pow_succ, Nat.mul_two, gsum_add]
    have i0 := oT_sum (c := c) (own := own) k (fun s => F (qset s k false))
    have i1 := oT_sum (c := c) (own := own) k (fun s => F (qset s k true))
    have s0 : ∀ x, x < 2 ^ k → sb own (nb x) (k + 1) = sb own (nb x) k := fun x hx => by
      show (sb own (nb x) k && (!nb x k || own k)) = _
      rw [nb_low hx k (Nat.le_refl _)]
      simp
    have s1 : ∀ x, x < 2 ^ k → sb own (nb (x + 2 ^ k)) (k + 1) = (sb own (nb x) k && own k) := fun x hx => by
      rw [nb_set1 hx]
      show (sb own (qset (nb x) k true) k && (!qset (nb x) k true k || own k)) = _
      rw [sb_set k (Nat.le_refl _)]
      simp [qset]
    have p0 : ∀ x, x < 2 ^ k → pr c own (nb x) (k + 1) = pr c own (nb x) k * (if own k = true then 16 - c else 1) := fun x hx => by
      show pr c own (nb x) k * _ = _
      rw [nb_low hx k (Nat.le_refl _)]
      simp
    have p1 : ∀ x, x < 2 ^ k → own k = true → pr c own (nb (x + 2 ^ k)) (k + 1) = pr c own (nb x) k * c := fun x hx ho => by
      rw [nb_set1 hx]
      show pr c own (qset (nb x) k true) k * _ = _
      rw [pr_set k (Nat.le_refl _), ho]
      simp [qset]
    cases ho : own k with
    | true =>
      have g0 : gsum (oT c own (k + 1) F) (2 ^ k) = (16 - c) * eO c own k (fun s => F (qset s k false)) := by
        rw [← i0, ← gsum_mul]
        refine gsum_congr _ (fun x hx => ?_)
        unfold oT
        have hz : (fun s => F (qset s k false)) (nb x) = F (nb x) := by show F (qset (nb x) k false) = _; rw [← nb_set0 hx]
        rw [s0 x hx, p0 x hx, ho, hz]
        simp only [if_true]
        split
        · rw [Int.mul_comm (pr c own (nb x) k), Int.mul_assoc]
        · rw [Int.mul_zero]
      have g1 : gsum (fun x => oT c own (k + 1) F (x + 2 ^ k)) (2 ^ k) = c * eO c own k (fun s => F (qset s k true)) := by
        rw [← i1, ← gsum_mul]
        refine gsum_congr _ (fun x hx => ?_)
        unfold oT
        rw [s1 x hx, p1 x hx ho, ho, Bool.and_true, nb_set1 hx]
        split
        · rw [Int.mul_comm (pr c own (nb x) k), Int.mul_assoc]
        · rw [Int.mul_zero]
      rw [g0, g1]
      have e2 : eO c own (k + 1) F = c * eO c own k (fun s => F (qset s k true)) + (16 - c) * eO c own k (fun s => F (qset s k false)) := by
        conv => lhs; unfold eO
        rw [ho, if_pos rfl]
      rw [e2, Int.add_comm]
    | false =>
      have g0 : gsum (oT c own (k + 1) F) (2 ^ k) = eO c own k (fun s => F (qset s k false)) := by
        rw [← i0]
        refine gsum_congr _ (fun x hx => ?_)
        unfold oT
        have hz : (fun s => F (qset s k false)) (nb x) = F (nb x) := by show F (qset (nb x) k false) = _; rw [← nb_set0 hx]
        rw [s0 x hx, p0 x hx, ho, hz]
        simp only [Bool.false_eq_true, if_false, Int.mul_one]
      have g1 : gsum (fun x => oT c own (k + 1) F (x + 2 ^ k)) (2 ^ k) = 0 := by
        refine gsum_zero _ (fun x hx => ?_)
        unfold oT
        rw [s1 x hx, ho, Bool.and_false]
        simp
      rw [g0, g1]
      have e2 : eO c own (k + 1) F = eO c own k (fun s => F (qset s k false)) := by
        conv => lhs; unfold eO
        rw [ho, if_neg (by simp)]
      rw [e2, Int.add_zero]
