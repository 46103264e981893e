/-! Tree.grow, pure: there is room for every node. (fb_holes: pasted from kit/laws/COUNTS) -/
theorem fb_holes : ∀ (m n : Nat) (f : Nat → Nat), (∀ i, i < n → f i < m) → (∀ i j, i < j → j < n → f i ≠ f j) → n ≤ m := by
  intro m
  induction m with
  | zero =>
    intro n f h1 _
    rcases Nat.eq_zero_or_pos n with h | h
    · omega
    · exact absurd (h1 0 h) (Nat.not_lt_zero _)
  | succ m ih =>
    intro n f h1 h2
    by_cases hx : ∃ i, i < n ∧ f i = m
    · obtain ⟨a, ha, hfa⟩ := hx
      have hg := ih (n - 1) (fun i => if i < a then f i else f (i + 1)) (by
        intro i hi
        by_cases q : i < a
        · simp only [if_pos q]
          have b1 := h1 i (by omega)
          have b2 := h2 i a q ha
          omega
        · simp only [if_neg q]
          have b1 := h1 (i + 1) (by omega)
          have b2 := h2 a (i + 1) (by omega) (by omega)
          omega) (by
        intro i j hij hj
        by_cases q : i < a
        · by_cases r : j < a
          · simp only [if_pos q, if_pos r]
            exact h2 i j hij (by omega)
          · simp only [if_pos q, if_neg r]
            exact h2 i (j + 1) (by omega) (by omega)
        · have r : ¬ j < a := by omega
          simp only [if_neg q, if_neg r]
          exact h2 (i + 1) (j + 1) (by omega) (by omega))
      omega
    · have hg := ih n f (fun i hi => by
        have b1 := h1 i hi
        have b2 : f i ≠ m := fun e => hx ⟨i, hi, e⟩
        omega) h2
      omega
set_option maxHeartbeats 4000000 in
theorem nm_cap {M M1 N : Mem} {ls len k c : Int} (h : LvI M ls len) (hl : 0 ≤ len ∧ len < 12) (h1 : AskI M M1 len 60) (hN : NmI M1 N ls (M 9 6) k c) (hk : 0 ≤ k ∧ ls ≤ k ∧ k < M 9 6) (hc : 0 ≤ c ∧ c < 8) (hs : N 10 (8 * k + c) = -2) : N 9 6 < 721 := by
  by_cases hlt : N 9 6 < 721
  · exact hlt
  exfalso
  obtain ⟨tr, hsz, hre, hlv, hno, hpa, hcu, hrg⟩ := id h
  obtain ⟨a, b, cc, d, e, f, g⟩ := hN
  have e721 : N 9 6 = 721 := by omega
  have asked : ∀ k' c', 0 ≤ k' → k' < M 9 6 → 0 ≤ c' → c' < 8 → M1 10 (8 * k' + c') = -2 → AskP M len 60 (8 * k' + c') := by
    intro k' c' z1 z2 z3 z4 z
    by_cases w : AskP M len 60 (8 * k' + c')
    · exact w
    · have e1 := (h1.2 _).2 w
      have e2 := tr.2.2.1 k' c' z1 z2 z3 z4
      omega
  have hM : M1 10 (8 * k + c) = -2 := by
    by_cases q : M1 10 (8 * k + c) = -2
    · exact q
    · have := (f k c hk.1 hk.2.2 hc.1 hc.2).1 q; omega
  have ex : ∀ i : Nat, i < 721 → ∃ p : Nat, p < 720 ∧ ∃ (r : Int) (l : Nat), 0 ≤ r ∧ r < 60 ∧ l < 12 ∧ (p : Int) = 12 * r + l ∧ (((i : Int) + 1 < M 9 6 ∧ (l : Int) + 1 ≤ cul M len r ∧ ndf (M 10) (M 4) r (l + 1) = i + 1) ∨ (M 9 6 ≤ (i : Int) + 1 ∧ i < 720 ∧ (l : Int) = len ∧ 8 * N 11 (i + 1) + N 12 (i + 1) = 8 * M 14 r + M 4 (12 * r + len)) ∨ (i = 720 ∧ (l : Int) = len ∧ 8 * k + c = 8 * M 14 r + M 4 (12 * r + len))) := by
    intro i hi
    by_cases y : (i : Int) + 1 < M 9 6
    · obtain ⟨r, l, y1, y2, y3, y4⟩ := tr.2.2.2.2.2 ((i : Int) + 1) (by omega) y
      cases l with
      | zero => have : (0 : Int) = (i : Int) + 1 := y4; omega
      | succ l =>
        have hr := hrg r y1 y2
        have hcl : cul M len r ≤ 12 := by unfold cul; split <;> omega
        exact ⟨(12 * r + l).toNat, by omega, r, l, y1, y2, by omega, by omega, Or.inl ⟨y, by omega, y4⟩⟩
    · by_cases y2 : i < 720
      · have t := d ((i : Int) + 1) (by omega) (by omega)
        obtain ⟨r, z1, z2, z3, z4⟩ := asked (N 11 (i + 1)) (N 12 (i + 1)) (by omega) (by omega) t.1.1 t.1.2 t.2.2.2.2
        exact ⟨(12 * r + len).toNat, by omega, r, len.toNat, z1, z2, by omega, by omega, Or.inr (Or.inl ⟨by omega, y2, by omega, z4⟩)⟩
      · obtain ⟨r, z1, z2, z3, z4⟩ := asked k c hk.1 hk.2.2 hc.1 hc.2 hM
        exact ⟨(12 * r + len).toNat, by omega, r, len.toNat, z1, z2, by omega, by omega, Or.inr (Or.inr ⟨by omega, by omega, z4⟩)⟩
  have key := fb_holes 720 721 (fun i => if hi : i < 721 then Classical.choose (ex i hi) else 0) (fun i hi => by simp only [dif_pos hi]; exact (Classical.choose_spec (ex i hi)).1) (fun i j hij hj => by
    have hi : i < 721 := by omega
    simp only [dif_pos hi, dif_pos hj]
    intro eq
    obtain ⟨-, r, l, a1, a2, a3, a4, a5⟩ := Classical.choose_spec (ex i hi)
    obtain ⟨-, r', l', b1, b2, b3, b4, b5⟩ := Classical.choose_spec (ex j hj)
    rw [eq] at a4
    have er : r = r' := by omega
    subst er
    have el : l = l' := by omega
    subst el
    have cl : cul M len r ≤ len := by unfold cul; split <;> omega
    rcases a5 with ⟨p1, p2, p3⟩ | ⟨p1, p2, p3, p4⟩ | ⟨p1, p2, p3⟩ <;> rcases b5 with ⟨q1, q2, q3⟩ | ⟨q1, q2, q3, q4⟩ | ⟨q1, q2, q3⟩
    · omega
    · omega
    · omega
    · omega
    · have t := d ((i : Int) + 1) (by omega) (by omega)
      have t' := d ((j : Int) + 1) (by omega) (by omega)
      have u1 := t.2.2.2.1; have u2 := t'.2.2.2.1
      rw [p4] at u1
      rw [q4] at u2
      omega
    · have t := d ((i : Int) + 1) (by omega) (by omega)
      omega
    · omega
    · omega
    · omega)
  omega
