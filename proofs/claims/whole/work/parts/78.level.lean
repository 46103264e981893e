/-! Tree.grow, pure: one level. M before, M1 behind asking, M2 behind naming, M3 behind going down -/
def cul (M : Mem) (len : Int) : Int → Int := fun r => if M 13 r < len then M 13 r else len
def LvI (M : Mem) (ls len : Int) : Prop := TrOk 60 (cul M len) (M 4) (M 9 6) (M 10) (M 11) (M 12) ∧ (0 ≤ ls ∧ ls ≤ M 9 6 ∧ M 9 6 ≤ 721) ∧ (∀ r, 0 ≤ r → r < 60 → M 14 r = ndf (M 10) (M 4) r (cul M len r).toNat) ∧ (∀ r, 0 ≤ r → r < 60 → len < M 13 r → ls ≤ M 14 r) ∧ (∀ k c, ls ≤ k → k < M 9 6 → 0 ≤ c → c < 8 → M 10 (8 * k + c) = -1) ∧ (∀ k, 1 ≤ k → k < M 9 6 → M 11 k < ls) ∧ CuOk 60 (M 13) (M 4) ∧ ∀ r, 0 ≤ r → r < 60 → 0 ≤ M 13 r ∧ M 13 r ≤ 12
theorem cul_ok {M : Mem} {len : Int} (h : CuOk 60 (M 13) (M 4)) : CuOk 60 (cul M len) (M 4) := fun r a b l hl => h r a b l (by unfold cul at hl; split at hl <;> omega)
theorem LvI_in {M : Mem} {ls len : Int} (h : LvI M ls len) (hl : 0 ≤ len) {r : Int} (hr : 0 ≤ r ∧ r < 60) : 0 ≤ M 14 r ∧ M 14 r < M 9 6 := by
  rw [h.2.2.1 r hr.1 hr.2]
  have hc := h.2.2.2.2.2.2.2 r hr.1 hr.2
  refine nd_in (cul_ok h.2.2.2.2.2.2.1) h.1 hr _ ?_
  unfold cul; split <;> omega
theorem LvI_lv {M : Mem} {ls len : Int} (h : LvI M ls len) (hl : 0 ≤ len) : lvOk M len := by
  intro r a b c
  have i := LvI_in h hl ⟨a, b⟩
  have z := h.2.1
  have q := h.2.2.2.2.2.2.1 r a b len.toNat (by omega)
  rw [show ((len.toNat : Nat) : Int) = len by omega] at q
  exact ⟨by omega, q⟩
/-- the steps of the old nodes stay -/
theorem nd_keep {n : Int} {cu ca : Int → Int} {m : Int} {ch ch' pr lc : Int → Int} (hc : CuOk n cu ca) (h : TrOk n cu ca m ch pr lc) (hk : ∀ k c, 0 ≤ k → k < m → 0 ≤ c → c < 8 → ¬ ch (8 * k + c) = -1 → ch' (8 * k + c) = ch (8 * k + c)) {r : Int} (hr : 0 ≤ r ∧ r < n) : ∀ l : Nat, (l : Int) ≤ cu r → ndf ch' ca r l = ndf ch ca r l
  | 0, _ => rfl
  | l + 1, hl => by
    have ih := nd_keep hc h hk hr l (by omega)
    have i := nd_in hc h hr l (by omega)
    have q := hc r hr.1 hr.2 l (by omega)
    have e := h.2.2.2.2.1 r hr.1 hr.2 l (by omega)
    show ch' (8 * ndf ch' ca r l + ca (12 * r + l)) = ch (8 * ndf ch ca r l + ca (12 * r + l))
    rw [ih]
    exact hk _ _ i.1 i.2 q.1 q.2 e
