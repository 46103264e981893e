/-! THE REFERENCE: hold, what ties its pieces -/
theorem FE_of {B N : Mem} (h : FRd B N) (g : ∀ x, 0 ≤ x → x < 30 * B 0 38 → ¬ NEN B N x) : FE N := by
  have n0 := h.1 0 (by decide)
  have n19 := h.1 19 (by decide)
  have n25 := h.1 25 (by decide)
  have n26 := h.1 26 (by decide)
  have n27 := h.1 27 (by decide)
  unfold FE EpN StN
  rw [n0, n19, n25, n26, n27]
  exact ⟨h.2.1, h.2.2, g⟩
theorem GI_0 {N : Mem} (hH : HkM N) (hQ : 1 ≤ N 0 38) (hE : FE N) (h0 : N 31 0 < 1000000) : GI N [] (N 31 0).toNat := by
  have g := gw_start hH hQ hE h0
  exact ⟨hH, hQ, hE, g.1, by omega⟩
theorem InT_0 {N : Mem} (h : ∀ x, 0 ≤ x → x < N 0 38 → ((N 32 x = 0 ∨ N 32 x = 1) ∧ (N 32 x = 1 ↔ x = 0))) : InT N (Pre (EpN N) (StN N) []) := fun q a b => h q a b
