abbrev zQ : Type := Nat → Bool
def qset (s : zQ) (k : Nat) (b : Bool) : zQ := fun i => if i = k then b else s i
def eE (c : Int) : Nat → (zQ → Int) → Int
  | 0, F => F (fun _ => false)
  | k + 1, F => c * eE c k (fun s => F (qset s k true)) + (16 - c) * eE c k (fun s => F (qset s k false))
theorem eE_congr {c : Int} : ∀ (n : Nat) {F G : zQ → Int}, (∀ s, F s = G s) → eE c n F = eE c n G := by
  intro n F G h
  have : F = G := funext h
  rw [this]
theorem eE_add {c : Int} : ∀ (n : Nat) (F G : zQ → Int), eE c n (fun s => F s + G s) = eE c n F + eE c n G
  | 0, _, _ => rfl
  | n + 1, F, G => by
    unfold eE
    rw [eE_add n, eE_add n, Int.mul_add, Int.mul_add]
    omega
theorem eE_sub {c : Int} : ∀ (n : Nat) (F G : zQ → Int), eE c n (fun s => F s - G s) = eE c n F - eE c n G
  | 0, _, _ => rfl
  | n + 1, F, G => by
    unfold eE
    rw [eE_sub n, eE_sub n, Int.mul_sub, Int.mul_sub]
    omega
theorem eE_one {c : Int} : ∀ n : Nat, eE c n (fun _ => 1) = 16 ^ n
  | 0 => rfl
  | n + 1 => by
    unfold eE
    rw [eE_one n, ← Int.add_mul, Int.pow_succ, Int.mul_comm]
    congr 1
    omega
def free (F : zQ → Int) (k : Nat) : Prop := ∀ s b b', F (qset s k b) = F (qset s k b')
theorem qset_comm {s : zQ} {i j : Nat} {a b : Bool} (h : i ≠ j) : qset (qset s i a) j b = qset (qset s j b) i a := by
  funext x
  unfold qset
  by_cases h1 : x = i
  · by_cases h2 : x = j
    · omega
    · simp [h1, h]
  · by_cases h2 : x = j
    · have : ¬ j = i := fun q => h q.symm
      simp [h2, this]
    · simp [h1, h2]
theorem free_set {F : zQ → Int} {k n : Nat} {b : Bool} (h : free F k) (hk : k ≠ n) : free (fun s => F (qset s n b)) k := by
  intro s a a'
  show F (qset (qset s k a) n b) = F (qset (qset s k a') n b)
  rw [qset_comm hk, qset_comm hk]
  exact h _ _ _
theorem eE_free {c : Int} {n : Nat} {F : zQ → Int} (h : free F n) : eE c (n + 1) F = 16 * eE c n (fun s => F (qset s n true)) := by
  show c * eE c n (fun s => F (qset s n true)) + (16 - c) * eE c n (fun s => F (qset s n false)) = _
  rw [eE_congr (c := c) n (F := fun s => F (qset s n false)) (G := fun s => F (qset s n true)) (fun s => h s _ _), ← Int.add_mul]
  congr 1
  omega
theorem eE_mul {c : Int} : ∀ (n : Nat) (F G : zQ → Int), (∀ k, k < n → free F k ∨ free G k) → eE c n (fun s => F s * G s) * 16 ^ n = eE c n F * eE c n G
  | 0, _, _, _ => by simp [eE]
  | n + 1, F, G, h => by
    have key : ∀ (F G : zQ → Int), (∀ k, k < n + 1 → free F k ∨ free G k) → free G n → eE c (n + 1) (fun s => F s * G s) * 16 ^ (n + 1) = eE c (n + 1) F * eE c (n + 1) G := by
      intro F G h hg
      rw [eE_free (c := c) hg]
      have h1 := eE_mul (c := c) n (fun s => F (qset s n true)) (fun s => G (qset s n true)) (fun k hk => (h k (by omega)).imp (fun q => free_set q (by omega)) (fun q => free_set q (by omega)))
      have h2 := eE_mul (c := c) n (fun s => F (qset s n false)) (fun s => G (qset s n true)) (fun k hk => (h k (by omega)).imp (fun q => free_set q (by omega)) (fun q => free_set q (by omega)))
      have e : eE c (n + 1) (fun s => F s * G s) = c * eE c n (fun s => F (qset s n true) * G (qset s n true)) + (16 - c) * eE c n (fun s => F (qset s n false) * G (qset s n true)) := by
        conv => lhs; unfold eE
        rw [eE_congr (c := c) n (F := fun s => F (qset s n false) * G (qset s n false)) (G := fun s => F (qset s n false) * G (qset s n true)) (fun s => by rw [hg s false true])]
      rw [e, Int.pow_succ, Int.add_mul]
      have e3 : eE c (n + 1) F = c * eE c n (fun s => F (qset s n true)) + (16 - c) * eE c n (fun s => F (qset s n false)) := rfl
      rw [e3, Int.add_mul]
      have a1 : c * eE c n (fun s => F (qset s n true) * G (qset s n true)) * (16 ^ n * 16) = c * (eE c n (fun s => F (qset s n true) * G (qset s n true)) * 16 ^ n) * 16 := by
        simp only [Int.mul_assoc]
      have a2 : (16 - c) * eE c n (fun s => F (qset s n false) * G (qset s n true)) * (16 ^ n * 16) = (16 - c) * (eE c n (fun s => F (qset s n false) * G (qset s n true)) * 16 ^ n) * 16 := by
        simp only [Int.mul_assoc]
      rw [a1, a2, h1, h2]
      simp only [Int.mul_assoc, Int.mul_comm, Int.mul_left_comm]
    rcases h n (by omega) with hf | hg
    · have := key G F (fun k hk => (h k hk).symm) hf
      rw [eE_congr (c := c) (n + 1) (F := fun s => F s * G s) (G := fun s => G s * F s) (fun s => Int.mul_comm _ _), this, Int.mul_comm]
    · exact key F G h hg
