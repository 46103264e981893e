/-! WHAT THE ROWS OF A BOOK MEAN: n rows; sz their sizes, rt whether right, th whether there, ca their calls (twelve places a row) -/
noncomputable def iteP {α : Type} (P : Prop) (a b : α) : α := @ite α P (Classical.propDecidable P) a b
theorem iteP_pos {α : Type} {P : Prop} {a b : α} (h : P) : iteP P a b = a := by unfold iteP; rw [if_pos h]
theorem iteP_neg {α : Type} {P : Prop} {a b : α} (h : ¬ P) : iteP P a b = b := by unfold iteP; rw [if_neg h]
/-- row r begins with row w -/
def bw (sz ca : Int → Int) (r w : Int) : Prop := sz w ≤ sz r ∧ ∀ i, 0 ≤ i → i < sz w → ca (12 * r + i) = ca (12 * w + i)
/-- the wrong row w quarrels with the right row r -/
def qr (sz rt th ca : Int → Int) (w r : Int) : Prop := th w = 1 ∧ rt w = 0 ∧ th r = 1 ∧ rt r = 1 ∧ bw sz ca r w
noncomputable def cutf (sz rt th ca : Int → Int) (r : Int) : Nat → Int
  | 0 => sz r
  | n + 1 => iteP (qr sz rt th ca n r ∧ sz n - 1 < cutf sz rt th ca r n) (sz n - 1) (cutf sz rt th ca r n)
noncomputable def cutI (sz rt th ca : Int → Int) (r n : Int) : Int := cutf sz rt th ca r n.toNat
theorem cutI_0 (sz rt th ca : Int → Int) (r : Int) : cutI sz rt th ca r 0 = sz r := rfl
theorem cutI_s (sz rt th ca : Int → Int) (r : Int) {n : Int} (h : 0 ≤ n) : cutI sz rt th ca r (n + 1) = iteP (qr sz rt th ca n r ∧ sz n - 1 < cutI sz rt th ca r n) (sz n - 1) (cutI sz rt th ca r n) := by
  unfold cutI
  have e : (n + 1).toNat = n.toNat + 1 := by omega
  have e2 : ((n.toNat : Nat) : Int) = n := by omega
  rw [e]
  simp only [cutf, e2]
/-- a wrong row is left out -/
def lof (n : Int) (sz rt th ca : Int → Int) (w : Int) : Prop := ∃ r, 0 ≤ r ∧ r < n ∧ qr sz rt th ca w r
/-- a wrong row that binds -/
def ask (n : Int) (sz rt th ca : Int → Int) (w : Int) : Prop := 0 ≤ w ∧ w < n ∧ th w = 1 ∧ rt w = 0 ∧ ¬ lof n sz rt th ca w
def BkOk (n : Int) (sz rt th ca : Int → Int) : Prop := 0 ≤ n ∧ n ≤ 60 ∧ ∀ r, 0 ≤ r → r < n → (0 ≤ sz r ∧ sz r ≤ 12 ∧ (rt r = 0 ∨ rt r = 1) ∧ (th r = 0 ∨ th r = 1) ∧ (rt r = 0 → 1 ≤ sz r) ∧ ∀ i, 0 ≤ i → i < sz r → 0 ≤ ca (12 * r + i) ∧ ca (12 * r + i) < 8)
abbrev BkC (M : Mem) : Prop := BkOk (M 3 6) (M 5) (M 6) (M 7) (M 4)
theorem cutI_rg {n0 : Int} {sz rt th ca : Int → Int} (hB : BkOk n0 sz rt th ca) {r : Int} (hr : 0 ≤ r) (hr2 : r < n0) : ∀ {n : Int}, 0 ≤ n → n ≤ n0 → 0 ≤ cutI sz rt th ca r n ∧ cutI sz rt th ca r n ≤ sz r := by
  intro n h0 h1
  obtain ⟨m, rfl⟩ : ∃ m : Nat, n = m := ⟨n.toNat, by omega⟩
  clear h0
  induction m with
  | zero => have := hB.2.2 r hr hr2; exact ⟨this.1, Int.le_refl _⟩
  | succ m ih =>
    have ih := ih (by omega)
    have e : ((m + 1 : Nat) : Int) = (m : Int) + 1 := by omega
    rw [e, cutI_s _ _ _ _ _ (by omega)]
    by_cases h : qr sz rt th ca m r ∧ sz m - 1 < cutI sz rt th ca r m
    · rw [iteP_pos h]
      have h2 := (hB.2.2 m (by omega) (by omega)).2.2.2.2.1 h.1.2.1
      omega
    · rw [iteP_neg h]; exact ih
