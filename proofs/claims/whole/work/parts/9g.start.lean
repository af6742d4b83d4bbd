def zS0 : zM := fun _ _ => 0
def zM0 : zM := fun k => match k with
  | 1 => fun i => if i = 4 then -1 else 0
  | 4 => fun i => if i = 4 then -1 else 0
  | 31 => fun _ => -1
  | 32 => fun i => if i = 1 then 1 else 0
  | 38 => fun i => if i = 1 then -1 else 0
  | 40 => fun i => if i = 1 then -1 else 0
  | 42 => fun i => if i = 1 then -1 else 0
  | 44 => fun i => if i = 1 then -1 else 0
  | _ => fun _ => 0
theorem qflawZ (k : Nat) : qflaw zS0 k = -1 := by
  have e : qend zS0 k = 0 := rfl
  unfold qflaw
  rw [e]
  rfl
theorem qnZ (k : Nat) : qn zS0 k = 0 := by
  unfold qn
  rw [if_pos (qflawZ k)]
  rfl
theorem RX_0 : RX zS0 zM0 := by
  refine ⟨?_, ⟨rfl, ?_, (qflawZ 0).symm⟩, ⟨rfl, ?_, (qflawZ 1).symm⟩, ⟨?_, (qnZ 0).symm, (qnZ 1).symm, ?_, ?_⟩, ⟨⟨Int.le_refl _, by decide⟩, rfl, by decide, ?_, ?_⟩, ⟨rfl, ⟨Int.le_refl _, by decide⟩, ?_⟩, ?_, rfl, Int.le_refl _, by decide⟩
  · intro k hk
    refine ⟨⟨Int.le_refl _, by show (0 : Int) ≤ 47; decide⟩, fun i a b => ?_⟩
    exact absurd b (by show ¬ (i < 0); omega)
  · intro i a b; exact absurd b (by show ¬ (i < 0); omega)
  · intro i a b; exact absurd b (by show ¬ (i < 0); omega)
  · intro k hk
    rw [qnZ]
    exact ⟨by decide, fun i a b => absurd b (by omega)⟩
  · intro i j a b; rw [qnZ] at b; omega
  · intro i j a b; rw [qnZ] at b; omega
  · intro p x h
    exfalso
    have : qord (nf zS0) (gt zS0 1) = [] := by
      unfold qord qseg
      rfl
    rw [this] at h
    simp at h
  · intro f hf; exact absurd hf (by show ¬ (f < 0); omega)
  · intro i a b; exact absurd b (by show ¬ (i < 0); omega)
  · intro s hs
    refine ⟨Or.inl rfl, fun _ => ?_, fun h => absurd h (by show ¬ ((0 : Int) = 1); decide), fun i a b => ⟨?_, by show zIR 0; exact ⟨by decide, by decide⟩⟩⟩
    · rcases (show s = 0 ∨ s = 1 ∨ s = 2 ∨ s = 3 by omega) with rfl | rfl | rfl | rfl <;> rfl
    · rcases (show s = 0 ∨ s = 1 ∨ s = 2 ∨ s = 3 by omega) with rfl | rfl | rfl | rfl <;> rfl
theorem RM_0 : RM zS0 zM0 := by
  refine ⟨⟨rfl, rfl⟩, fun _ _ _ => rfl, fun _ _ _ => rfl, ⟨rfl, fun _ _ _ => ⟨rfl, rfl, rfl⟩⟩, ⟨rfl, fun _ _ _ => ⟨rfl, rfl, rfl, rfl⟩⟩, fun s a b => ⟨rfl, fun _ => ⟨rfl, rfl⟩, fun _ _ _ => rfl⟩, rfl⟩
