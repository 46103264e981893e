/-! THE START: the two new objects are alike -/
theorem rel0 : Rel mC0 mN0 64 := by
  have l19 : ∀ i : Int, mN0 19 i = mC0 24 i := fun i => by
    show up (fillM mM1 19 ((240 : Nat) : Int) (-1)) 0 50 0 19 i = up (fillM mZ 1 ((240 : Nat) : Int) (-1)) 0 2 1 1 i
    rw [up_ne (by decide), up_ne (by decide)]
    unfold fillM
    by_cases h : 0 ≤ i ∧ i < ((240 : Nat) : Int)
    · rw [if_pos ⟨rfl, h⟩, if_pos ⟨rfl, h⟩]
    · rw [if_neg (fun z => h z.2), if_neg (fun z => h z.2)]; rfl
  have l24 : ∀ i : Int, 0 ≤ i → i < 240 → mC0 24 i = -1 := fun i a b => by
    show up (fillM mZ 1 ((240 : Nat) : Int) (-1)) 0 2 1 1 i = -1
    rw [up_ne (by decide)]
    unfold fillM
    rw [if_pos ⟨rfl, a, b⟩]
  have n0 : ∀ i : Int, i ≠ 25 → mN0 0 i = 0 := fun i hi => by
    show up (fillM mM1 19 ((240 : Nat) : Int) (-1)) 0 50 0 0 i = 0
    rw [up_at]
    by_cases h : i = 50
    · rw [if_pos h]
    · rw [if_neg h, fillM_ne (by decide)]
      show (if i = 25 then (1 : Int) else 0) = 0
      rw [if_neg hi]
  have n25 : mN0 0 25 = 1 := by
    show up (fillM mM1 19 ((240 : Nat) : Int) (-1)) 0 50 0 0 25 = 1
    rw [up_at, if_neg (by decide), fillM_ne (by decide)]
    rfl
  have nz : ∀ k : Nat, k ≠ 0 → k ≠ 19 → mN0 k = fun _ => 0 := fun k h1 h2 => by
    show up (fillM mM1 19 ((240 : Nat) : Int) (-1)) 0 50 0 k = _
    rw [up_ne h1, fillM_ne h2]
    cases k with
    | zero => exact absurd rfl h1
    | succ k => rfl
  have c25 : ∀ i : Int, mC0 25 i = 0 := fun i => by
    show up (fillM mZ 1 ((240 : Nat) : Int) (-1)) 0 2 1 2 i = 0
    rw [up_ne (by decide), fillM_ne (by decide)]
    rfl
  have c23 : mC0 23 2 = 1 := by
    show up (fillM mZ 1 ((240 : Nat) : Int) (-1)) 0 2 1 0 2 = 1
    exact up_same
  refine ⟨⟨nz 1 (by decide) (by decide), n0 2 (by decide), ?_⟩, ⟨n0 7 (by decide), nz 2 (by decide) (by decide), nz 3 (by decide) (by decide), nz 4 (by decide) (by decide), nz 5 (by decide) (by decide), ?_⟩, ⟨by rw [n25, c23], fun i a b => ⟨l19 i, by rw [nz 20 (by decide) (by decide), c25]⟩, ?_, fun i a b => l24 i (by rw [c23] at a; omega) b, fun i a b c => c25 i⟩, ⟨n0 30 (by decide), ⟨by decide, by decide⟩, fun i a b => ⟨by show (0 : Int) ≤ 0; omega, by show (0 : Int) < 256; omega⟩, fun i a b => absurd b (by show ¬ i < 0; omega)⟩, ⟨fun i a b => ⟨by show (0 : Int) ≤ 0; omega, by show (0 : Int) < 256; omega⟩, Or.inl ⟨n0 38 (by decide), n0 37 (by decide), rfl⟩⟩, ⟨[], rfl, n0 50 (by decide), by decide, by decide, trivial, trivial⟩⟩
  · exact ⟨by decide, by decide, fun i a b => absurd b (by show ¬ i < 0; omega)⟩
  · exact ⟨by decide, by decide, fun r a b => absurd b (by show ¬ r < 0; omega)⟩
  · refine ⟨by rw [c23]; decide, by rw [c23]; decide, fun s c a b d e => ?_⟩
    rw [c23] at b ⊢
    rw [l24 (8 * s + c) (by omega) (by omega)]
    exact ⟨by decide, by decide⟩
