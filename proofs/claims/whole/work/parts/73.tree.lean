/-! THE TREE, pure: n rows, cu their cuts, ca their calls; m nodes, ch children (8 k + c), pr parents, lc last calls -/
def ndf (ch ca : Int → Int) (r : Int) : Nat → Int
  | 0 => 0
  | l + 1 => ch (8 * ndf ch ca r l + ca (12 * r + l))
def CuOk (n : Int) (cu ca : Int → Int) : Prop := ∀ r, 0 ≤ r → r < n → ∀ l : Nat, (l : Int) < cu r → 0 ≤ ca (12 * r + l) ∧ ca (12 * r + l) < 8
def TrB (m : Int) (ch pr lc : Int → Int) : Prop := ∀ k, 1 ≤ k → k < m → 0 ≤ pr k ∧ pr k < k ∧ 0 ≤ lc k ∧ lc k < 8 ∧ ch (8 * pr k + lc k) = k
def TrC (m : Int) (ch pr lc : Int → Int) : Prop := ∀ k c, 0 ≤ k → k < m → 0 ≤ c → c < 8 → ch (8 * k + c) = -1 ∨ (1 ≤ ch (8 * k + c) ∧ ch (8 * k + c) < m ∧ pr (ch (8 * k + c)) = k ∧ lc (ch (8 * k + c)) = c)
def TrD (m : Int) (pr lc : Int → Int) : Prop := ∀ j k, 1 ≤ j → j < k → k < m → pr j < pr k ∨ (pr j = pr k ∧ lc j < lc k)
def TrE (n : Int) (cu ca ch : Int → Int) : Prop := ∀ r, 0 ≤ r → r < n → ∀ l : Nat, (l : Int) < cu r → ¬ ndf ch ca r (l + 1) = -1
def TrF (n m : Int) (cu ca ch : Int → Int) : Prop := ∀ k, 1 ≤ k → k < m → ∃ (r : Int) (l : Nat), 0 ≤ r ∧ r < n ∧ (l : Int) ≤ cu r ∧ ndf ch ca r l = k
def TrOk (n : Int) (cu ca : Int → Int) (m : Int) (ch pr lc : Int → Int) : Prop := 1 ≤ m ∧ TrB m ch pr lc ∧ TrC m ch pr lc ∧ TrD m pr lc ∧ TrE n cu ca ch ∧ TrF n m cu ca ch
section TREE
variable {n : Int} {cu ca : Int → Int} {m m' : Int} {ch pr lc ch' pr' lc' : Int → Int}
theorem nd_in (hc : CuOk n cu ca) (h : TrOk n cu ca m ch pr lc) {r : Int} (hr : 0 ≤ r ∧ r < n) : ∀ l : Nat, (l : Int) ≤ cu r → 0 ≤ ndf ch ca r l ∧ ndf ch ca r l < m
  | 0, _ => ⟨Int.le_refl _, by have := h.1; show (0 : Int) < m; omega⟩
  | l + 1, hl => by
    have ih := nd_in hc h hr l (by omega)
    have h1 := hc r hr.1 hr.2 l (by omega)
    have h2 := h.2.2.2.2.1 r hr.1 hr.2 l (by omega)
    rcases h.2.2.1 _ _ ih.1 ih.2 h1.1 h1.2 with z | z
    · exact absurd z h2
    · show 0 ≤ ch _ ∧ ch _ < m
      omega
/-- a node behind a step: its parent and its call -/
theorem nd_step (hc : CuOk n cu ca) (h : TrOk n cu ca m ch pr lc) {r : Int} (hr : 0 ≤ r ∧ r < n) {l : Nat} (hl : ((l + 1 : Nat) : Int) ≤ cu r) : 1 ≤ ndf ch ca r (l + 1) ∧ pr (ndf ch ca r (l + 1)) = ndf ch ca r l ∧ lc (ndf ch ca r (l + 1)) = ca (12 * r + l) := by
  have ih := nd_in hc h hr l (by omega)
  have h1 := hc r hr.1 hr.2 l (by omega)
  have h2 := h.2.2.2.2.1 r hr.1 hr.2 l (by omega)
  rcases h.2.2.1 _ _ ih.1 ih.2 h1.1 h1.2 with z | z
  · exact absurd z h2
  · exact ⟨z.1, z.2.2.1, z.2.2.2⟩
theorem tr_half (hc : CuOk n cu ca) (h : TrOk n cu ca m ch pr lc) (h' : TrOk n cu ca m' ch' pr' lc') (k : Int)
    (ih : ∀ j, j < k → ∀ (r : Int) (l : Nat), 0 ≤ r → r < n → (l : Int) ≤ cu r → ndf ch ca r l = j → ndf ch' ca r l = j)
    (ih' : ∀ j, j < k → ∀ (r : Int) (l : Nat), 0 ≤ r → r < n → (l : Int) ≤ cu r → ndf ch' ca r l = j → ndf ch ca r l = j) :
    ∀ (r : Int) (l : Nat), 0 ≤ r → r < n → (l : Int) ≤ cu r → ndf ch ca r l = k → ndf ch' ca r l = k := by
  intro r l hr hr2 hl e
  cases l with
  | zero => exact e
  | succ l =>
    have s := nd_step hc h ⟨hr, hr2⟩ hl
    have s' := nd_step hc h' ⟨hr, hr2⟩ hl
    rw [e] at s
    have i1 := nd_in hc h ⟨hr, hr2⟩ (l + 1) hl
    have i2 := nd_in hc h' ⟨hr, hr2⟩ (l + 1) hl
    rw [e] at i1
    have hp := h.2.1 k s.1 i1.2
    have p1 := ih (ndf ch ca r l) (by rw [← s.2.1]; omega) r l hr hr2 (by omega) rfl
    rcases Int.lt_trichotomy (ndf ch' ca r (l + 1)) k with z | z | z
    · have := ih' _ z r (l + 1) hr hr2 hl rfl
      omega
    · exact z
    · exfalso
      obtain ⟨r2, l2, a1, a2, a3, a4⟩ := h'.2.2.2.2.2 k s.1 (by omega)
      cases l2 with
      | zero => have : (0 : Int) = k := a4; omega
      | succ l2 =>
        have t' := nd_step hc h' ⟨a1, a2⟩ a3
        have t := nd_step hc h ⟨a1, a2⟩ a3
        rw [a4] at t'
        have hp' := h'.2.1 k s.1 (by omega)
        have q1 := ih' (ndf ch' ca r2 l2) (by rw [← t'.2.1]; omega) r2 l2 a1 a2 (by omega) rfl
        have ord := h'.2.2.2.1 k (ndf ch' ca r (l + 1)) s.1 z i2.2
        rw [t'.2.1, t'.2.2, s'.2.1, s'.2.2, p1] at ord
        have i3 := nd_in hc h ⟨a1, a2⟩ (l2 + 1) a3
        rcases Int.lt_trichotomy (ndf ch ca r2 (l2 + 1)) k with y | y | y
        · have := ih _ y r2 (l2 + 1) a1 a2 a3 rfl
          omega
        · rw [y] at t
          have e1 := t.2.1; have e2 := t.2.2; have e3 := s.2.1; have e4 := s.2.2
          omega
        · have ord2 := h.2.2.2.1 k (ndf ch ca r2 (l2 + 1)) s.1 y i3.2
          rw [t.2.1, t.2.2, s.2.1, s.2.2, q1] at ord2
          omega
theorem tr_nd (hc : CuOk n cu ca) (h : TrOk n cu ca m ch pr lc) (h' : TrOk n cu ca m' ch' pr' lc') : ∀ (N : Nat) (k : Int), k < N →
    (∀ (r : Int) (l : Nat), 0 ≤ r → r < n → (l : Int) ≤ cu r → ndf ch ca r l = k → ndf ch' ca r l = k) ∧ (∀ (r : Int) (l : Nat), 0 ≤ r → r < n → (l : Int) ≤ cu r → ndf ch' ca r l = k → ndf ch ca r l = k)
  | 0, k, hk => by
    refine ⟨fun r l a b c e => ?_, fun r l a b c e => ?_⟩
    · have := nd_in hc h ⟨a, b⟩ l c; omega
    · have := nd_in hc h' ⟨a, b⟩ l c; omega
  | N + 1, k, hk => by
    have ih := tr_nd hc h h' N
    exact ⟨tr_half hc h h' k (fun j hj => (ih j (by omega)).1) (fun j hj => (ih j (by omega)).2), tr_half hc h' h k (fun j hj => (ih j (by omega)).2) (fun j hj => (ih j (by omega)).1)⟩
theorem tr_nd_eq (hc : CuOk n cu ca) (h : TrOk n cu ca m ch pr lc) (h' : TrOk n cu ca m' ch' pr' lc') {r : Int} {l : Nat} (hr : 0 ≤ r ∧ r < n) (hl : (l : Int) ≤ cu r) : ndf ch' ca r l = ndf ch ca r l :=
  (tr_nd hc h h' ((ndf ch ca r l).toNat + 1) (ndf ch ca r l) (by omega)).1 r l hr.1 hr.2 hl rfl
theorem tr_le (hc : CuOk n cu ca) (h : TrOk n cu ca m ch pr lc) (h' : TrOk n cu ca m' ch' pr' lc') : m ≤ m' := by
  have h1 := h.1; have h1' := h'.1
  by_cases z : m = 1
  · omega
  · obtain ⟨r, l, a, b, c, e⟩ := h.2.2.2.2.2 (m - 1) (by omega) (by omega)
    have q := tr_nd_eq hc h h' ⟨a, b⟩ c
    have := nd_in hc h' ⟨a, b⟩ l c
    omega
theorem tr_pl (hc : CuOk n cu ca) (h : TrOk n cu ca m ch pr lc) (h' : TrOk n cu ca m' ch' pr' lc') {k : Int} (hk : 1 ≤ k ∧ k < m) : pr' k = pr k ∧ lc' k = lc k := by
  obtain ⟨r, l, a, b, c, e⟩ := h.2.2.2.2.2 k hk.1 hk.2
  cases l with
  | zero => have : (0 : Int) = k := e; omega
  | succ l =>
    have s := nd_step hc h ⟨a, b⟩ c
    have s' := nd_step hc h' ⟨a, b⟩ c
    have q := tr_nd_eq hc h h' (l := l + 1) ⟨a, b⟩ c
    have q0 := tr_nd_eq hc h h' (l := l) ⟨a, b⟩ (by omega)
    rw [q, e] at s'
    rw [e] at s
    exact ⟨by rw [s'.2.1, s.2.1, q0], by rw [s'.2.2, s.2.2]⟩
theorem tr_ch1 (hc : CuOk n cu ca) (h : TrOk n cu ca m ch pr lc) (h' : TrOk n cu ca m' ch' pr' lc') {k c : Int} (hk : 0 ≤ k ∧ k < m) (hcc : 0 ≤ c ∧ c < 8) (hn : ¬ ch (8 * k + c) = -1) : ch' (8 * k + c) = ch (8 * k + c) := by
  rcases h.2.2.1 k c hk.1 hk.2 hcc.1 hcc.2 with z | z
  · exact absurd z hn
  · have q := tr_pl hc h h' ⟨z.1, z.2.1⟩
    have hm := tr_le hc h h'
    have b := h'.2.1 _ z.1 (by omega)
    rw [q.1, q.2, z.2.2.1, z.2.2.2] at b
    exact b.2.2.2.2
/-- two trees of the same cut rows are the same -/
theorem tr_one (hc : CuOk n cu ca) (h : TrOk n cu ca m ch pr lc) (h' : TrOk n cu ca m' ch' pr' lc') : m' = m ∧ (∀ k, 1 ≤ k → k < m → pr' k = pr k ∧ lc' k = lc k) ∧ ∀ k c, 0 ≤ k → k < m → 0 ≤ c → c < 8 → ch' (8 * k + c) = ch (8 * k + c) := by
  have e1 := tr_le hc h h'; have e2 := tr_le hc h' h
  refine ⟨by omega, fun k a b => tr_pl hc h h' ⟨a, b⟩, fun k c a b a' b' => ?_⟩
  by_cases z : ch (8 * k + c) = -1
  · by_cases y : ch' (8 * k + c) = -1
    · rw [z, y]
    · exact (tr_ch1 hc h' h ⟨a, by omega⟩ ⟨a', b'⟩ y).symm
  · exact tr_ch1 hc h h' ⟨a, b⟩ ⟨a', b'⟩ z
end TREE
