/-! THE REFERENCE'S TREE, pure. First its trie (ra: children, m nodes) of n rows, cv r calls of row r told so far -/
def cvf (cu : Int → Int) (r k : Int) : Int → Int := fun x => if x < r then cu x else if x = r then k else 0
def RwA (m : Int) (ra : Int → Int) : Prop := ∀ x c, 0 ≤ x → x < m → 0 ≤ c → c < 8 → ra (8 * x + c) = -1 ∨ (x < ra (8 * x + c) ∧ ra (8 * x + c) < m)
def RwB (m : Int) (ra : Int → Int) : Prop := ∀ x c x' c', 0 ≤ x → x < m → 0 ≤ c → c < 8 → 0 ≤ x' → x' < m → 0 ≤ c' → c' < 8 → ¬ ra (8 * x + c) = -1 → ra (8 * x + c) = ra (8 * x' + c') → x = x' ∧ c = c'
def RwI (n m : Int) (ra cv ca : Int → Int) : Prop := 1 ≤ m ∧ RwA m ra ∧ RwB m ra ∧ TrE n cv ca ra ∧ TrF n m cv ca ra
theorem rw_in {n m : Int} {ra cv ca : Int → Int} (hc : CuOk n cv ca) (h : RwI n m ra cv ca) {r : Int} (hr : 0 ≤ r ∧ r < n) : ∀ l : Nat, (l : Int) ≤ cv r → 0 ≤ ndf ra ca r l ∧ ndf ra ca r l < m
  | 0, _ => ⟨Int.le_refl _, by have := h.1; show (0 : Int) < m; omega⟩
  | l + 1, hl => by
    have ih := rw_in hc h hr l (by omega)
    have h1 := hc r hr.1 hr.2 l (by omega)
    have h2 := h.2.2.2.1 r hr.1 hr.2 l (by omega)
    rcases h.2.1 _ _ ih.1 ih.2 h1.1 h1.2 with z | z
    · exact absurd z h2
    · show 0 ≤ ra _ ∧ ra _ < m
      omega
theorem RwI_0 {n : Int} {ra cu ca : Int → Int} (h : ∀ c, 0 ≤ c → c < 8 → ra c = -1) : RwI n 1 ra (cvf cu 0 0) ca := by
  have e : ∀ x c : Int, 0 ≤ x → x < 1 → 0 ≤ c → c < 8 → ra (8 * x + c) = -1 := fun x c a b a' b' => by rw [show 8 * x + c = c by omega]; exact h c a' b'
  refine ⟨by omega, fun x c a b a' b' => Or.inl (e x c a b a' b'), fun x c x' c' a b a' b' _ _ _ _ q _ => absurd (e x c a b a' b') q, fun r a b l hl => ?_, fun k a b => by omega⟩
  have : cvf cu 0 0 r = 0 := by unfold cvf; rw [if_neg (by omega)]; split <;> rfl
  omega
theorem cvf_at {cu : Int → Int} {r k : Int} : cvf cu r k r = k := by unfold cvf; rw [if_neg (by omega), if_pos rfl]
theorem cvf_ne {cu : Int → Int} {r k k' x : Int} (h : x ≠ r) : cvf cu r k x = cvf cu r k' x := by unfold cvf; rw [if_neg h, if_neg h]
/-- the same row, its child is there -/
theorem RwI_e {n m : Int} {ra cu ca : Int → Int} {r k : Int} (h : RwI n m ra (cvf cu r k) ca) (hk : 0 ≤ k) (hn : ¬ ndf ra ca r (k.toNat + 1) = -1) : RwI n m ra (cvf cu r (k + 1)) ca := by
  obtain ⟨a, b, c, d, e⟩ := h
  refine ⟨a, b, c, fun x p q l hl => ?_, fun x p q => ?_⟩
  · by_cases ex : x = r
    · subst ex
      rw [cvf_at] at hl
      by_cases el : (l : Int) = k
      · rw [show l = k.toNat by omega]; exact hn
      · exact d x p q l (by rw [cvf_at]; omega)
    · rw [cvf_ne (k' := k) ex] at hl; exact d x p q l hl
  · obtain ⟨r', l, z1, z2, z3, z4⟩ := e x p q
    refine ⟨r', l, z1, z2, ?_, z4⟩
    by_cases ex : r' = r
    · subst ex; rw [cvf_at] at z3 ⊢; omega
    · rw [cvf_ne (k' := k) ex]; exact z3
/-- a path that is there stays when another slot is set -/
theorem ndf_set {n m : Int} {ra ra' cv ca : Int → Int} {s : Int} (hc : CuOk n cv ca) (h : RwI n m ra cv ca) (hs : ra s = -1) (hk : ∀ i, 0 ≤ i → i < 8 * m → i ≠ s → ra' i = ra i) {r : Int} (hr : 0 ≤ r ∧ r < n) : ∀ l : Nat, (l : Int) ≤ cv r → ndf ra' ca r l = ndf ra ca r l
  | 0, _ => rfl
  | l + 1, hl => by
    have ih := ndf_set hc h hs hk hr l (by omega)
    have i1 := rw_in hc h hr l (by omega)
    have h1 := hc r hr.1 hr.2 l (by omega)
    have h2 := h.2.2.2.1 r hr.1 hr.2 l (by omega)
    show ra' (8 * ndf ra' ca r l + ca (12 * r + l)) = ra (8 * ndf ra ca r l + ca (12 * r + l))
    rw [ih]
    have h2 : ¬ ra (8 * ndf ra ca r l + ca (12 * r + l)) = -1 := h2
    exact hk _ (by omega) (by omega) (fun q => h2 (by rw [q]; exact hs))
theorem RwI_s {n m : Int} {ra ra' cu ca : Int → Int} {r k : Int} (hc : CuOk n (cvf cu r k) ca) (h : RwI n m ra (cvf cu r k) ca) (hr : 0 ≤ r ∧ r < n) (hk : 0 ≤ k) (hca : 0 ≤ ca (12 * r + k) ∧ ca (12 * r + k) < 8)
    (hs : ra (8 * ndf ra ca r k.toNat + ca (12 * r + k)) = -1) (hv : ra' (8 * ndf ra ca r k.toNat + ca (12 * r + k)) = m)
    (hn : ∀ c, 0 ≤ c → c < 8 → ra' (8 * m + c) = -1) (ho : ∀ i, 0 ≤ i → i < 8 * m → i ≠ 8 * ndf ra ca r k.toNat + ca (12 * r + k) → ra' i = ra i) : RwI n (m + 1) ra' (cvf cu r (k + 1)) ca := by
  have iA := rw_in hc h hr k.toNat (by rw [cvf_at]; omega)
  have pth := fun x (hx : 0 ≤ x ∧ x < n) l hl => ndf_set (r := x) hc h hs ho hx l hl
  obtain ⟨a, b, c, d, e⟩ := h
  have nw : ndf ra' ca r (k.toNat + 1) = m := by
    show ra' (8 * ndf ra' ca r k.toNat + ca (12 * r + (k.toNat : Int))) = m
    rw [pth r hr k.toNat (by rw [cvf_at]; omega), show (k.toNat : Int) = k by omega]; exact hv
  generalize ndf ra ca r k.toNat = A at *
  refine ⟨by omega, fun x c' p q p' q' => ?_, fun x c' y d' p q p' q' s t s' t' u v => ?_, fun x p q l hl => ?_, fun x p q => ?_⟩
  · by_cases ex : x = m
    · subst ex; exact Or.inl (hn c' p' q')
    · by_cases ey : 8 * x + c' = 8 * A + ca (12 * r + k)
      · right; rw [ey, hv]; omega
      · rw [ho _ (by omega) (by omega) ey]
        rcases b x c' p (by omega) p' q' with z | z
        · exact Or.inl z
        · exact Or.inr (by omega)
  · by_cases ex : x = m
    · subst ex; exact absurd (hn c' p' q') u
    · by_cases ey : y = m
      · subst ey; rw [hn d' s' t'] at v; exact absurd v u
      · by_cases e1 : 8 * x + c' = 8 * A + ca (12 * r + k)
        · by_cases e2 : 8 * y + d' = 8 * A + ca (12 * r + k)
          · omega
          · rw [e1, hv, ho _ (by omega) (by omega) e2] at v
            have := b y d' s (by omega) s' t'
            omega
        · by_cases e2 : 8 * y + d' = 8 * A + ca (12 * r + k)
          · rw [e2, hv, ho _ (by omega) (by omega) e1] at v
            have := b x c' p (by omega) p' q'
            omega
          · rw [ho _ (by omega) (by omega) e1] at u v
            rw [ho _ (by omega) (by omega) e2] at v
            exact c x c' y d' p (by omega) p' q' s (by omega) s' t' u v
  · by_cases ex : x = r
    · subst ex
      rw [cvf_at] at hl
      by_cases el : (l : Int) = k
      · rw [show l = k.toNat by omega, nw]; omega
      · rw [pth x ⟨p, q⟩ (l + 1) (by rw [cvf_at]; omega)]
        exact d x p q l (by rw [cvf_at]; omega)
    · rw [cvf_ne (k' := k) ex] at hl
      rw [pth x ⟨p, q⟩ (l + 1) (by omega)]
      exact d x p q l hl
  · by_cases ex : x = m
    · exact ⟨r, k.toNat + 1, hr.1, hr.2, by rw [cvf_at]; omega, by rw [nw, ex]⟩
    · obtain ⟨r', l, z1, z2, z3, z4⟩ := e x p (by omega)
      refine ⟨r', l, z1, z2, ?_, by rw [pth r' ⟨z1, z2⟩ l z3]; exact z4⟩
      by_cases er : r' = r
      · subst er; rw [cvf_at] at z3 ⊢; omega
      · rw [cvf_ne (k' := k) er]; exact z3
/-- the next row -/
theorem RwI_n {n m : Int} {ra cu ca : Int → Int} {r k : Int} (h : RwI n m ra (cvf cu r k) ca) (hk : k = cu r ∨ (k = 0 ∧ cu r < 0)) : RwI n m ra (cvf cu (r + 1) 0) ca := by
  obtain ⟨a, b, c, d, e⟩ := h
  have q1 : ∀ x, x ≠ r → cvf cu (r + 1) 0 x = cvf cu r k x := fun x hx => by
    unfold cvf
    by_cases z : x < r
    · rw [if_pos z, if_pos (by omega)]
    · rw [if_neg z, if_neg (by omega), if_neg hx]; split <;> rfl
  have q2 : cvf cu (r + 1) 0 r = cu r := by unfold cvf; rw [if_pos (by omega)]
  refine ⟨a, b, c, fun x p q l hl => ?_, fun x p q => ?_⟩
  · by_cases ex : x = r
    · subst ex; rw [q2] at hl; exact d x p q l (by rw [cvf_at]; omega)
    · rw [q1 x ex] at hl; exact d x p q l hl
  · obtain ⟨r', l, z1, z2, z3, z4⟩ := e x p q
    refine ⟨r', l, z1, z2, ?_, z4⟩
    by_cases ex : r' = r
    · subst ex
      rw [cvf_at] at z3
      rw [q2]
      rcases hk with hk | hk
      · omega
      · exfalso
        have : l = 0 := by omega
        subst this
        have : (0 : Int) = x := z4
        omega
    · rw [q1 r' ex]; exact z3
theorem RwI_end {n m : Int} {ra cu ca : Int → Int} (h : RwI n m ra (cvf cu n 0) ca) : RwI n m ra cu ca := by
  obtain ⟨a, b, c, d, e⟩ := h
  have q : ∀ x, x < n → cvf cu n 0 x = cu x := fun x hx => by unfold cvf; rw [if_pos hx]
  exact ⟨a, b, c, fun x p q' l hl => d x p q' l (by rw [q x q']; exact hl), fun x p q' => by obtain ⟨r', l, z1, z2, z3, z4⟩ := e x p q'; exact ⟨r', l, z1, z2, by rw [← q r' z2]; exact z3, z4⟩⟩
/-! then the naming: nd nodes, ro their nodes in the trie; here ahead of (k, c) -/
def BfI (m : Int) (ra : Int → Int) (nd : Int) (ch pr lc ro : Int → Int) (k c : Int) : Prop :=
  1 ≤ nd ∧ ro 0 = 0 ∧
  (∀ j, 1 ≤ j → j < nd → 0 ≤ pr j ∧ pr j < j ∧ 0 ≤ lc j ∧ lc j < 8 ∧ (pr j < k ∨ (pr j = k ∧ lc j < c)) ∧ ro j = ra (8 * ro (pr j) + lc j) ∧ ¬ ro j = -1 ∧ ch (8 * pr j + lc j) = j) ∧
  TrD nd pr lc ∧
  (∀ k' c', 0 ≤ k' → k' < nd → 0 ≤ c' → c' < 8 → (k' < k ∨ (k' = k ∧ c' < c)) → (ra (8 * ro k' + c') = -1 ∧ ch (8 * k' + c') = -1) ∨ (1 ≤ ch (8 * k' + c') ∧ ch (8 * k' + c') < nd ∧ pr (ch (8 * k' + c')) = k' ∧ lc (ch (8 * k' + c')) = c')) ∧
  ∀ j, 0 ≤ j → j < nd → 0 ≤ ro j ∧ ro j < m
theorem bf_inj {m nd : Int} {ra ch pr lc ro : Int → Int} {k c : Int} (hA : RwA m ra) (hB : RwB m ra) (h : BfI m ra nd ch pr lc ro k c) : ∀ (N : Nat) (i j : Int), j < N → 0 ≤ i → i < j → j < nd → ro i ≠ ro j
  | 0, i, j, hN, h0, h1, _ => by omega
  | N + 1, i, j, hN, h0, h1, h2 => by
    intro eq
    obtain ⟨a, b, cc, d, e, f⟩ := id h
    have cj := cc j (by omega) h2
    have fj := f (pr j) cj.1 (by omega)
    have gj := hA (ro (pr j)) (lc j) fj.1 fj.2 cj.2.2.1 cj.2.2.2.1
    by_cases i0 : i = 0
    · subst i0; omega
    · have ci := cc i (by omega) (by omega)
      have fi := f (pr i) ci.1 (by omega)
      have q := hB (ro (pr i)) (lc i) (ro (pr j)) (lc j) fi.1 fi.2 ci.2.2.1 ci.2.2.2.1 fj.1 fj.2 cj.2.2.1 cj.2.2.2.1 (by rw [← ci.2.2.2.2.2.1]; exact ci.2.2.2.2.2.2.1) (by rw [← ci.2.2.2.2.2.1, ← cj.2.2.2.2.2.1]; exact eq)
      have o := d i j (by omega) h1 h2
      rcases Int.lt_trichotomy (pr i) (pr j) with z | z | z
      · exact bf_inj hA hB h N (pr i) (pr j) (by omega) ci.1 z (by omega) q.1
      · omega
      · omega
theorem bf_cap {m nd : Int} {ra ch pr lc ro : Int → Int} {k c : Int} (hA : RwA m ra) (hB : RwB m ra) (h : BfI m ra nd ch pr lc ro k c) : nd ≤ m := by
  have f := h.2.2.2.2.2
  have h1 := h.1
  have m0 := f 0 (by omega) (by omega)
  have := fb_holes m.toNat nd.toNat (fun i => (ro i).toNat) (fun i hi => by have := f i (by omega) (by omega); omega) (fun i j hij hj => by
    have a := f i (by omega) (by omega)
    have b := f j (by omega) (by omega)
    have c := bf_inj hA hB h (j + 1) i j (by omega) (by omega) (by omega) (by omega)
    omega)
  omega
theorem BfI_n {m nd : Int} {ra ch pr lc ro : Int → Int} {k : Int} (h : BfI m ra nd ch pr lc ro k 8) : BfI m ra nd ch pr lc ro (k + 1) 0 := by
  obtain ⟨a, b, c, d, e, f⟩ := h
  refine ⟨a, b, fun j z1 z2 => ?_, d, fun k' c' z1 z2 z3 z4 z5 => e k' c' z1 z2 z3 z4 (by omega), f⟩
  have := c j z1 z2
  exact ⟨this.1, this.2.1, this.2.2.1, this.2.2.2.1, by omega, this.2.2.2.2.2⟩
/-- no child here -/
theorem BfI_k {m nd : Int} {ra ch ch' pr lc ro : Int → Int} {k c : Int} (h : BfI m ra nd ch pr lc ro k c) (hc : 0 ≤ c ∧ c < 8) (hk : 0 ≤ k) (hr : ra (8 * ro k + c) = -1) (hv : ch' (8 * k + c) = -1) (ho : ∀ i, i ≠ 8 * k + c → ch' i = ch i) : BfI m ra nd ch' pr lc ro k (c + 1) := by
  obtain ⟨a, b, cc, d, e, f⟩ := h
  refine ⟨a, b, fun j z1 z2 => ?_, d, fun k' c' z1 z2 z3 z4 z5 => ?_, f⟩
  · have := cc j z1 z2
    refine ⟨this.1, this.2.1, this.2.2.1, this.2.2.2.1, by omega, this.2.2.2.2.2.1, this.2.2.2.2.2.2.1, ?_⟩
    rw [ho _ (by omega)]; exact this.2.2.2.2.2.2.2
  · by_cases ee : k' = k ∧ c' = c
    · obtain ⟨rfl, rfl⟩ := ee; exact Or.inl ⟨hr, hv⟩
    · rw [ho _ (by omega)]; exact e k' c' z1 z2 z3 z4 (by omega)
/-- a child -/
theorem BfI_s {m nd : Int} {ra ch ch' pr pr' lc lc' ro ro' : Int → Int} {k c : Int} (hA : RwA m ra) (h : BfI m ra nd ch pr lc ro k c) (hc : 0 ≤ c ∧ c < 8) (hk : 0 ≤ k ∧ k < nd) (hr : ¬ ra (8 * ro k + c) = -1)
    (hv : ch' (8 * k + c) = nd) (ho : ∀ i, i ≠ 8 * k + c → ch' i = ch i) (hp : ∀ i, pr' i = if i = nd then k else pr i) (hl : ∀ i, lc' i = if i = nd then c else lc i) (hw : ∀ i, ro' i = if i = nd then ra (8 * ro k + c) else ro i) : BfI m ra (nd + 1) ch' pr' lc' ro' k (c + 1) := by
  obtain ⟨a, b, cc, d, e, f⟩ := h
  have fk := f k hk.1 hk.2
  have gk := hA (ro k) c fk.1 fk.2 hc.1 hc.2
  have p1 : ∀ i, i ≠ nd → pr' i = pr i := fun i hi => by rw [hp, if_neg hi]
  have l1 : ∀ i, i ≠ nd → lc' i = lc i := fun i hi => by rw [hl, if_neg hi]
  have o1 : ∀ i, i ≠ nd → ro' i = ro i := fun i hi => by rw [hw, if_neg hi]
  have p2 : pr' nd = k := by rw [hp, if_pos rfl]
  have l2 : lc' nd = c := by rw [hl, if_pos rfl]
  have o2 : ro' nd = ra (8 * ro k + c) := by rw [hw, if_pos rfl]
  refine ⟨by omega, by rw [o1 0 (by omega)]; exact b, fun j z1 z2 => ?_, fun i j z1 z2 z3 => ?_, fun k' c' z1 z2 z3 z4 z5 => ?_, fun j z1 z2 => ?_⟩
  · by_cases ej : j = nd
    · subst ej; rw [p2, l2, o2, o1 k (by omega)]
      exact ⟨hk.1, hk.2, hc.1, hc.2, by omega, rfl, hr, hv⟩
    · have := cc j z1 (by omega)
      rw [p1 j ej, l1 j ej, o1 j ej, o1 (pr j) (by omega)]
      refine ⟨this.1, this.2.1, this.2.2.1, this.2.2.2.1, by omega, this.2.2.2.2.2.1, this.2.2.2.2.2.2.1, ?_⟩
      rw [ho _ (by omega)]; exact this.2.2.2.2.2.2.2
  · have := cc i z1 (by omega)
    rw [p1 i (by omega), l1 i (by omega)]
    by_cases ej : j = nd
    · subst ej; rw [p2, l2]; exact this.2.2.2.2.1
    · rw [p1 j ej, l1 j ej]; exact d i j z1 z2 (by omega)
  · by_cases ee : k' = k ∧ c' = c
    · obtain ⟨rfl, rfl⟩ := ee
      right; rw [hv, p2, l2]; omega
    · have en : k' ≠ nd := by omega
      rw [o1 k' en, ho _ (by omega)]
      rcases e k' c' z1 (by omega) z3 z4 (by omega) with z | z
      · exact Or.inl z
      · right; rw [p1 _ (by omega), l1 _ (by omega)]; exact ⟨z.1, by omega, z.2.2⟩
  · by_cases ej : j = nd
    · subst ej; rw [o2]; omega
    · rw [o1 j ej]; exact f j z1 (by omega)
theorem bf_nd {n m nd : Int} {ra cu ca ch pr lc ro : Int → Int} (hc : CuOk n cu ca) (hR : RwI n m ra cu ca) (h : BfI m ra nd ch pr lc ro nd 0) {r : Int} (hr : 0 ≤ r ∧ r < n) : ∀ l : Nat, (l : Int) ≤ cu r → 0 ≤ ndf ch ca r l ∧ ndf ch ca r l < nd ∧ ro (ndf ch ca r l) = ndf ra ca r l
  | 0, _ => ⟨Int.le_refl _, by have := h.1; show (0 : Int) < nd; omega, h.2.1⟩
  | l + 1, hl => by
    have ih := bf_nd hc hR h hr l (by omega)
    have h1 := hc r hr.1 hr.2 l (by omega)
    have h2 := hR.2.2.2.1 r hr.1 hr.2 l (by omega)
    have e2 : ndf ra ca r (l + 1) = ra (8 * ro (ndf ch ca r l) + ca (12 * r + l)) := by rw [ih.2.2]; rfl
    rw [e2] at h2 ⊢
    have e1 : ndf ch ca r (l + 1) = ch (8 * ndf ch ca r l + ca (12 * r + l)) := rfl
    rw [e1]
    rcases h.2.2.2.2.1 _ _ ih.1 ih.2.1 h1.1 h1.2 (Or.inl ih.2.1) with z | z
    · exact absurd z.1 h2
    · refine ⟨by omega, z.2.1, ?_⟩
      have := h.2.2.1 _ z.1 z.2.1
      rw [this.2.2.2.2.2.1, z.2.2.1, z.2.2.2]
/-- the naming of a trie is the tree -/
theorem bf_tr {n m nd : Int} {ra cu ca ch pr lc ro : Int → Int} (hc : CuOk n cu ca) (hR : RwI n m ra cu ca) (h : BfI m ra nd ch pr lc ro nd 0) : TrOk n cu ca nd ch pr lc := by
  obtain ⟨a, b, cc, d, e, f⟩ := id h
  refine ⟨a, fun k z1 z2 => ?_, fun k c z1 z2 z3 z4 => ?_, d, fun r z1 z2 l z3 => ?_, fun k z1 z2 => ?_⟩
  · have := cc k z1 z2
    exact ⟨this.1, this.2.1, this.2.2.1, this.2.2.2.1, this.2.2.2.2.2.2.2⟩
  · rcases e k c z1 z2 z3 z4 (Or.inl z2) with z | z
    · exact Or.inl z.2
    · exact Or.inr z
  · have := bf_nd hc hR h ⟨z1, z2⟩ (l + 1) (by omega)
    omega
  · have fk := f k (by omega) z2
    have ck := cc k z1 z2
    have fj := f (pr k) ck.1 (by omega)
    have gj := hR.2.1 (ro (pr k)) (lc k) fj.1 fj.2 ck.2.2.1 ck.2.2.2.1
    obtain ⟨r, l, y1, y2, y3, y4⟩ := hR.2.2.2.2 (ro k) (by omega) fk.2
    refine ⟨r, l, y1, y2, y3, ?_⟩
    have q := bf_nd hc hR h ⟨y1, y2⟩ l y3
    rcases Int.lt_trichotomy (ndf ch ca r l) k with z | z | z
    · exact absurd (q.2.2.trans y4) (bf_inj hR.2.1 hR.2.2.1 h (k.toNat + 1) _ _ (by omega) q.1 z z2)
    · exact z
    · exact absurd (q.2.2.trans y4).symm (bf_inj hR.2.1 hR.2.2.1 h ((ndf ch ca r l).toNat + 1) _ _ (by omega) (by omega) z q.2.1)
