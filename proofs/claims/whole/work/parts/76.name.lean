/-! Tree.nameChildren, pure: le nodes at first, the slots marked -2 are named in order; here ahead of (k, c) -/
def NmI (M N : Mem) (ls le k c : Int) : Prop :=
  ((∀ j, j ≠ 9 → j ≠ 10 → j ≠ 11 → j ≠ 12 → N j = M j) ∧ ∀ i, i ≠ 6 → N 9 i = M 9 i) ∧ (le ≤ N 9 6 ∧ N 9 6 ≤ 721) ∧ (∀ j, j < le → N 11 j = M 11 j ∧ N 12 j = M 12 j) ∧
  (∀ j, le ≤ j → j < N 9 6 → (0 ≤ N 12 j ∧ N 12 j < 8) ∧ ls ≤ N 11 j ∧ (N 11 j < k ∨ (N 11 j = k ∧ N 12 j < c)) ∧ N 10 (8 * N 11 j + N 12 j) = j ∧ M 10 (8 * N 11 j + N 12 j) = -2) ∧
  (∀ i j, le ≤ i → i < j → j < N 9 6 → N 11 i < N 11 j ∨ (N 11 i = N 11 j ∧ N 12 i < N 12 j)) ∧
  (∀ k' c', 0 ≤ k' → k' < le → 0 ≤ c' → c' < 8 → (¬ M 10 (8 * k' + c') = -2 → N 10 (8 * k' + c') = M 10 (8 * k' + c')) ∧ (M 10 (8 * k' + c') = -2 → (k' < k ∨ (k' = k ∧ c' < c)) → le ≤ N 10 (8 * k' + c') ∧ N 10 (8 * k' + c') < N 9 6 ∧ N 11 (N 10 (8 * k' + c')) = k' ∧ N 12 (N 10 (8 * k' + c')) = c') ∧ (M 10 (8 * k' + c') = -2 → ¬ (k' < k ∨ (k' = k ∧ c' < c)) → N 10 (8 * k' + c') = -2)) ∧
  ∀ j c', le ≤ j → j < N 9 6 → 0 ≤ c' → c' < 8 → N 10 (8 * j + c') = -1
theorem NmI_0 {M : Mem} {ls le : Int} (h9 : M 9 6 = le) (hle : le ≤ 721) (hls : ∀ k' c', 0 ≤ k' → k' < le → 0 ≤ c' → c' < 8 → M 10 (8 * k' + c') = -2 → ls ≤ k') : NmI M M ls le ls 0 := by
  refine ⟨⟨fun _ _ _ _ _ => rfl, fun _ _ => rfl⟩, by omega, fun _ _ => ⟨rfl, rfl⟩, fun j a b => by omega, fun i j a b c => by omega, fun k' c' a b a' b' => ⟨fun _ => rfl, fun q z => ?_, fun q _ => q⟩, fun j c' a b => by omega⟩
  have := hls k' c' a b a' b' q
  omega
theorem NmI_n {M N : Mem} {ls le k : Int} (h : NmI M N ls le k 8) : NmI M N ls le (k + 1) 0 := by
  obtain ⟨a, b, c, d, e, f, g⟩ := h
  refine ⟨a, b, c, fun j z1 z2 => ?_, e, fun k' c' z1 z2 z3 z4 => ⟨(f k' c' z1 z2 z3 z4).1, fun q z => (f k' c' z1 z2 z3 z4).2.1 q (by omega), fun q z => (f k' c' z1 z2 z3 z4).2.2 q (by omega)⟩, g⟩
  have := d j z1 z2
  exact ⟨this.1, this.2.1, by omega, this.2.2.2⟩
theorem NmI_k {M N : Mem} {ls le k c : Int} (h : NmI M N ls le k c) (hk : 0 ≤ k ∧ k < le) (hc : 0 ≤ c ∧ c < 8) (hn : ¬ N 10 (8 * k + c) = -2) : NmI M N ls le k (c + 1) := by
  obtain ⟨a, b, cc, d, e, f, g⟩ := h
  have hM : ¬ M 10 (8 * k + c) = -2 := fun q => hn ((f k c hk.1 hk.2 hc.1 hc.2).2.2 q (by omega))
  refine ⟨a, b, cc, fun j z1 z2 => ?_, e, fun k' c' z1 z2 z3 z4 => ⟨(f k' c' z1 z2 z3 z4).1, fun q z => (f k' c' z1 z2 z3 z4).2.1 q ?_, fun q z => (f k' c' z1 z2 z3 z4).2.2 q (by omega)⟩, g⟩
  · have := d j z1 z2
    exact ⟨this.1, this.2.1, by omega, this.2.2.2⟩
  · by_cases ee : k' = k ∧ c' = c
    · obtain ⟨rfl, rfl⟩ := ee; exact absurd q hM
    · omega
theorem nodM_10 {N : Mem} {p c i : Int} : nodM N p c 10 i = if 8 * N 9 6 ≤ i ∧ i < 8 * N 9 6 + 8 then -1 else N 10 i := by
  unfold nodM
  rw [up_ne (by decide)]
  unfold clrN
  by_cases h : 8 * N 9 6 ≤ i ∧ i < 8 * N 9 6 + 8
  · rw [if_pos ⟨rfl, h⟩, if_pos h]
  · rw [if_neg (fun z => h z.2), if_neg h, up_ne (by decide), up_ne (by decide)]
theorem nodM_11 {N : Mem} {p c i : Int} : nodM N p c 11 i = if i = N 9 6 then p else N 11 i := by
  unfold nodM
  rw [up_ne (by decide), clrN_ne (by decide), up_ne (by decide), up_at]
theorem nodM_12 {N : Mem} {p c i : Int} : nodM N p c 12 i = if i = N 9 6 then c else N 12 i := by
  unfold nodM
  rw [up_ne (by decide), clrN_ne (by decide), up_at, up_ne (by decide)]
theorem nodM_9 {N : Mem} {p c i : Int} : nodM N p c 9 i = if i = 6 then N 9 6 + 1 else N 9 i := by
  unfold nodM
  rw [up_at, clrN_ne (by decide), up_ne (by decide), up_ne (by decide)]
theorem nodM_ne {N : Mem} {p c : Int} {j : Nat} (h9 : j ≠ 9) (h10 : j ≠ 10) (h11 : j ≠ 11) (h12 : j ≠ 12) : nodM N p c j = N j := by
  unfold nodM
  rw [up_ne h9, clrN_ne h10, up_ne h12, up_ne h11]
theorem NmI_s {M N : Mem} {ls le k c : Int} (h : NmI M N ls le k c) (hk : 0 ≤ k ∧ ls ≤ k ∧ k < le) (hc : 0 ≤ c ∧ c < 8) (hn : N 10 (8 * k + c) = -2) (hcap : N 9 6 < 721) : NmI M (up (nodM N k c) 10 (k * 8 + c) (N 9 6)) ls le k (c + 1) := by
  obtain ⟨a, b, cc, d, e, f, g⟩ := h
  have hM : M 10 (8 * k + c) = -2 := by
    by_cases q : M 10 (8 * k + c) = -2
    · exact q
    · have := (f k c hk.1 hk.2.2 hc.1 hc.2).1 q; omega
  have n9 : ∀ i, up (nodM N k c) 10 (k * 8 + c) (N 9 6) 9 i = if i = 6 then N 9 6 + 1 else N 9 i := fun i => by rw [up_ne (by decide), nodM_9]
  have n11 : ∀ i, up (nodM N k c) 10 (k * 8 + c) (N 9 6) 11 i = if i = N 9 6 then k else N 11 i := fun i => by rw [up_ne (by decide), nodM_11]
  have n12 : ∀ i, up (nodM N k c) 10 (k * 8 + c) (N 9 6) 12 i = if i = N 9 6 then c else N 12 i := fun i => by rw [up_ne (by decide), nodM_12]
  have n10 : ∀ i, up (nodM N k c) 10 (k * 8 + c) (N 9 6) 10 i = if i = k * 8 + c then N 9 6 else if 8 * N 9 6 ≤ i ∧ i < 8 * N 9 6 + 8 then -1 else N 10 i := fun i => by rw [up_at, nodM_10]
  have s9 : up (nodM N k c) 10 (k * 8 + c) (N 9 6) 9 6 = N 9 6 + 1 := by rw [n9, if_pos rfl]
  have nfr : ∀ j, j ≠ 9 → j ≠ 10 → j ≠ 11 → j ≠ 12 → up (nodM N k c) 10 (k * 8 + c) (N 9 6) j = N j := fun j p q r s => by rw [up_ne q, nodM_ne p q r s]
  generalize up (nodM N k c) 10 (k * 8 + c) (N 9 6) = N2 at n9 n10 n11 n12 s9 nfr ⊢
  refine ⟨⟨fun j p q r s => by rw [nfr j p q r s, a.1 j p q r s], fun i hi => by rw [n9, if_neg hi, a.2 i hi]⟩, by rw [s9]; omega, fun j hj => ?_, fun j z1 z2 => ?_, fun i j z1 z2 z3 => ?_, fun k' c' z1 z2 z3 z4 => ?_, fun j c' z1 z2 z3 z4 => ?_⟩
  · rw [n11, n12, if_neg (by omega), if_neg (by omega)]; exact cc j hj
  · rw [s9] at z2
    by_cases ej : j = N 9 6
    · rw [n11, n12, if_pos ej, if_pos ej, n10, if_pos (by omega)]
      exact ⟨hc, hk.2.1, by omega, ej.symm, hM⟩
    · have q := d j z1 (by omega)
      rw [n11, n12, if_neg ej, if_neg ej, n10, if_neg (by omega), if_neg (by omega)]
      exact ⟨q.1, q.2.1, by omega, q.2.2.2⟩
  · rw [s9] at z3
    have q := d i z1 (by omega)
    by_cases ej : j = N 9 6
    · rw [n11, n11, n12, n12, if_neg (by omega), if_pos ej, if_neg (by omega), if_pos ej]
      exact q.2.2.1
    · rw [n11, n11, n12, n12, if_neg (by omega), if_neg ej, if_neg (by omega), if_neg ej]
      exact e i j z1 z2 (by omega)
  · have q := f k' c' z1 z2 z3 z4
    by_cases ee : k' = k ∧ c' = c
    · obtain ⟨rfl, rfl⟩ := ee
      have v : N2 10 (8 * k' + c') = N 9 6 := by rw [n10, if_pos (by omega)]
      refine ⟨fun z => absurd hM z, fun _ _ => ?_, fun _ z => absurd (Or.inr ⟨rfl, by omega⟩) z⟩
      rw [v, s9, n11, n12, if_pos rfl, if_pos rfl]
      exact ⟨b.1, by omega, rfl, rfl⟩
    · have v : N2 10 (8 * k' + c') = N 10 (8 * k' + c') := by rw [n10, if_neg (by omega), if_neg (by omega)]
      refine ⟨fun z => by rw [v]; exact q.1 z, fun z y => ?_, fun z y => by rw [v]; exact q.2.2 z (by omega)⟩
      have w := q.2.1 z (by omega)
      rw [v, s9, n11, n12, if_neg (by omega), if_neg (by omega)]
      exact ⟨w.1, by omega, w.2.2⟩
  · rw [s9] at z2
    rw [n10, if_neg (by omega)]
    by_cases ej : j = N 9 6
    · rw [if_pos (by omega)]
    · rw [if_neg (by omega)]; exact g j c' z1 (by omega) z3 z4
