/-! THE RELATION, call by call, 2 -/
set_option maxHeartbeats 4000000 in
theorem r_drop {C N C' N' : Mem} {bl : Nat} (h : Rel C N bl) {r0 z r' : Int} {v : Int64} (c1 : WrP C (¬ (0 ≤ r0 ∧ r0 < C 3 6)) False (fun z M' => z = C 7 r0 ∧ M' = up C 7 r0 0) z C' v) (c2 : ((0 ≤ r0 ∧ r0 < N 0 7) ∧ r' = N 5 r0 ∧ N' = up (th0 N) 5 r0 0) ∨ (¬ (0 ≤ r0 ∧ r0 < N 0 7) ∧ N' = up N 0 0 1)) : N' 0 0 = z ∧ (z = 0 → v = (Int32.ofInt r').toInt64) ∧ Rel C' N' bl ∧ (z = 0 → r' = 0 ∨ r' = 1) := by
  obtain ⟨q1, q2, q3, q4, q5, hB⟩ := h.2.1
  rw [q1] at c2
  rcases c1 with ⟨a1, a2, a3⟩ | ⟨a1, a2, a3, a4⟩ | ⟨a1, a2, a3, r, a4, a5, a6, hC⟩
  · rcases c2 with ⟨b1, b2⟩ | ⟨b1, b2⟩
    · exact absurd b1 a2
    · subst a3; subst b2; subst a1
      exact ⟨up_same, fun z => by omega, r_k h 1, fun z => by omega⟩
  · exact absurd a3 (fun z => z)
  · rcases c2 with ⟨b1, b2, hN⟩ | ⟨b1, b2⟩
    · have e7 : r' = C 7 r0 := by rw [b2, q5]
      have g := hB.2.2 r0 b1.1 b1.2
      refine ⟨by rw [a1, hN, up_ne (by decide)]; exact th0_0, fun _ => by rw [a4, a6, e7], ?_, fun _ => by rw [e7]; exact g.2.2.2.1⟩
      have fN : ∀ j : Nat, (!(j == 0) && !(j == 5)) = true → N' j = N j := fun j hj => by
        have h5x : j ≠ 5 := by intro z; subst z; simp at hj
        have hj : j ≠ 0 := by intro z; subst z; simp at hj
        rw [hN, up_ne h5x]; exact th0_c hj
      have f0 : ∀ i : Int, (!(i == 0)) = true → N' 0 i = N 0 i := fun i hi => by
        have h0 : i ≠ 0 := by intro z; subst z; simp at hi
        rw [hN, up_ne (by decide)]; exact th0_f h0
      have fC : ∀ j : Nat, (!(j == 7)) = true → C' j = C j := fun j hj => by
        have h7 : j ≠ 7 := by intro z; subst z; simp at hj
        rw [hC, up_ne h7]
      refine ⟨RlH_cg h.1 (congrFun (fC 1 rfl) 1) (fC 2 rfl) (f0 2 rfl) (fN 1 rfl), ⟨by rw [f0 7 rfl, fC 3 rfl]; exact q1, by rw [fN 2 rfl, fC 4 rfl]; exact q2, by rw [fN 3 rfl, fC 5 rfl]; exact q3, by rw [fN 4 rfl, fC 6 rfl]; exact q4, ?_, ?_⟩, RlL_cg h.2.2.1 (congrFun (fC 23 rfl) 2) (fC 24 rfl) (fC 25 rfl) (f0 25 rfl) (fN 19 rfl) (fN 20 rfl), RlT_cg h.2.2.2.1 (congrFun (fC 29 rfl) 1) (fC 30 rfl) (f0 30 rfl) (fN 24 rfl), RlR_cg h.2.2.2.2.1 (congrFun (fC 31 rfl) 7) (fC 32 rfl) (fC 33 rfl) (fC 34 rfl) (fC 35 rfl) (fC 36 rfl) (f0 37 rfl) (f0 38 rfl) (fN 25 rfl) (fN 26 rfl) (fN 27 rfl), RlK_cg h.2.2.2.2.2 (congrFun (fC 45 rfl) 1) (fC 46 rfl) (f0 50 rfl) (fN 34 rfl)⟩
      · rw [hN, hC]; funext i; rw [up_at, up_at, th0_c (by decide), q5]
      · show BkOk (C' 3 6) (C' 5) (C' 6) (C' 7) (C' 4)
        rw [fC 3 rfl, fC 5 rfl, fC 6 rfl, fC 4 rfl]
        refine ⟨hB.1, hB.2.1, fun r1 x y => ?_⟩
        have w := hB.2.2 r1 x y
        refine ⟨w.1, w.2.1, w.2.2.1, ?_, w.2.2.2.2⟩
        rw [hC, up_at]
        by_cases z : r1 = r0
        · rw [if_pos z]; exact Or.inl rfl
        · rw [if_neg z]; exact w.2.2.2.1
    · exact absurd b1 a2
set_option maxHeartbeats 4000000 in
theorem r_told {C N C' N' : Mem} {bl : Nat} (h : Rel C N bl) {r0 wh z r' : Int} {v : Int64} (c1 : WrP C (¬ (0 ≤ r0 ∧ r0 < C 3 6)) (¬ (0 ≤ wh ∧ wh ≤ 3)) (fun z M' => C = M' ∧ ((wh = 0 ∧ z = C 7 r0) ∨ (wh = 1 ∧ z = C 6 r0) ∨ (wh = 2 ∧ z = C 5 r0) ∨ (wh = 3 ∧ z = iteP (C 7 r0 = 0) 0 (iteP (C 6 r0 = 0) (iteP (lof (C 3 6) (C 5) (C 6) (C 7) (C 4) r0) 1 0) (cutI (C 5) (C 6) (C 7) (C 4) r0 (C 3 6)))))) z C' v) (c2 : ((0 ≤ r0 ∧ r0 < N 0 7) ∧ ((wh = 0 ∧ r' = N 5 r0) ∨ (wh = 1 ∧ r' = N 4 r0) ∨ (wh = 2 ∧ r' = N 3 r0) ∨ (wh = 3 ∧ r' = iteP (N 5 r0 = 0) 0 (iteP (N 4 r0 = 0) (iteP (lof (N 0 7) (N 3) (N 4) (N 5) (N 2) r0) 1 0) (cutI (N 3) (N 4) (N 5) (N 2) r0 (N 0 7))))) ∧ N' = th0 N) ∨ (¬ (0 ≤ r0 ∧ r0 < N 0 7) ∧ N' = up N 0 0 1) ∨ ((0 ≤ r0 ∧ r0 < N 0 7) ∧ ¬ (0 ≤ wh ∧ wh ≤ 3) ∧ N' = up N 0 0 2)) : N' 0 0 = z ∧ (z = 0 → v = (Int32.ofInt r').toInt64) ∧ Rel C' N' bl := by
  obtain ⟨q1, q2, q3, q4, q5, hB⟩ := h.2.1
  rw [q1, q2, q3, q4, q5] at c2
  rcases c1 with ⟨a1, a2, a3⟩ | ⟨a1, a2, a3, a4⟩ | ⟨a1, a2, a3, r, a4, a5, a6, a7⟩
  · rcases c2 with ⟨b1, b2⟩ | ⟨b1, b2⟩ | ⟨b1, b2⟩
    · exact absurd b1 a2
    · subst a3; subst b2; subst a1
      exact ⟨up_same, fun z => by omega, r_k h 1⟩
    · exact absurd b1 a2
  · rcases c2 with ⟨b1, b2, b3⟩ | ⟨b1, b2⟩ | ⟨b1, b2, b3⟩
    · exfalso; omega
    · exact absurd b1 a2
    · subst a4; subst b3; subst a1
      exact ⟨up_same, fun z => by omega, r_k h 2⟩
  · rcases c2 with ⟨b1, b2, b3⟩ | ⟨b1, b2⟩ | ⟨b1, b2, b3⟩
    · subst a6; subst b3
      refine ⟨by rw [a1]; exact th0_0, fun _ => ?_, r_0 h⟩
      have e : r' = r := by omega
      rw [a4, e]
    · exact absurd b1 a2
    · exact absurd b2 a3
set_option maxHeartbeats 4000000 in
theorem r_step {C N C' N' : Mem} {bl : Nat} (h : Rel C N bl) {s0 c z r' : Int} {v : Int64} (c1 : WrP C (¬ (0 ≤ s0 ∧ s0 < C 23 2)) (¬ (0 ≤ c ∧ c < 8)) (fun r M' => C = M' ∧ r = C 24 (8 * s0 + c)) z C' v) (c2 : ((0 ≤ s0 ∧ s0 < N 0 25) ∧ (0 ≤ c ∧ c < 8) ∧ r' = N 19 (8 * s0 + c) ∧ N' = th0 N) ∨ ((¬ (0 ≤ s0 ∧ s0 < N 0 25) ∧ N' = up N 0 0 1) ∨ ((0 ≤ s0 ∧ s0 < N 0 25) ∧ ¬ (0 ≤ c ∧ c < 8) ∧ N' = up N 0 0 2))) : N' 0 0 = z ∧ (z = 0 → v = (Int32.ofInt r').toInt64) ∧ Rel C' N' bl := by
  obtain ⟨l1, l2, l3, l4, l5⟩ := h.2.2.1
  rw [l1] at c2
  rcases c1 with ⟨a1, a2, a3⟩ | ⟨a1, a2, a3, a4⟩ | ⟨a1, a2, a3, r, a4, a5, a6, a7⟩
  · rcases c2 with ⟨b1, b2⟩ | ⟨b1, b2⟩ | ⟨b1, b2⟩
    · exact absurd b1 a2
    · subst a3; subst b2; subst a1
      exact ⟨up_same, fun z => by omega, r_k h 1⟩
    · exact absurd b1 a2
  · rcases c2 with ⟨b1, b2, b3⟩ | ⟨b1, b2⟩ | ⟨b1, b2, b3⟩
    · exact absurd b2 a3
    · exact absurd b1 a2
    · subst a4; subst b3; subst a1
      exact ⟨up_same, fun z => by omega, r_k h 2⟩
  · rcases c2 with ⟨b1, b2, b3, b4⟩ | ⟨b1, b2⟩ | ⟨b1, b2, b3⟩
    · subst a6; subst b4
      refine ⟨by rw [a1]; exact th0_0, fun _ => ?_, r_0 h⟩
      have q := l2 (8 * s0 + c) (by omega) (by omega)
      rw [a4, b3, a7, q.1]
    · exact absurd b1 a2
    · exact absurd b2 a3
set_option maxHeartbeats 4000000 in
theorem r_seen {C N C' N' : Mem} {bl : Nat} (h : Rel C N bl) {s0 c z r' : Int} {v : Int64} (c1 : WrP C (¬ (0 ≤ s0 ∧ s0 < C 23 2)) (¬ (0 ≤ c ∧ c < 8)) (fun r M' => C = M' ∧ r = C 25 (8 * s0 + c)) z C' v) (c2 : ((0 ≤ s0 ∧ s0 < N 0 25) ∧ (0 ≤ c ∧ c < 8) ∧ r' = (if 0 ≤ N 19 (8 * s0 + c) then N 20 (8 * s0 + c) else 0) ∧ N' = th0 N) ∨ ((¬ (0 ≤ s0 ∧ s0 < N 0 25) ∧ N' = up N 0 0 1) ∨ ((0 ≤ s0 ∧ s0 < N 0 25) ∧ ¬ (0 ≤ c ∧ c < 8) ∧ N' = up N 0 0 2))) : N' 0 0 = z ∧ (z = 0 → v = (Int32.ofInt r').toInt64) ∧ Rel C' N' bl := by
  obtain ⟨l1, l2, l3, l4, l5⟩ := h.2.2.1
  rw [l1] at c2
  rcases c1 with ⟨a1, a2, a3⟩ | ⟨a1, a2, a3, a4⟩ | ⟨a1, a2, a3, r, a4, a5, a6, a7⟩
  · rcases c2 with ⟨b1, b2⟩ | ⟨b1, b2⟩ | ⟨b1, b2⟩
    · exact absurd b1 a2
    · subst a3; subst b2; subst a1
      exact ⟨up_same, fun z => by omega, r_k h 1⟩
    · exact absurd b1 a2
  · rcases c2 with ⟨b1, b2, b3⟩ | ⟨b1, b2⟩ | ⟨b1, b2, b3⟩
    · exact absurd b2 a3
    · exact absurd b1 a2
    · subst a4; subst b3; subst a1
      exact ⟨up_same, fun z => by omega, r_k h 2⟩
  · rcases c2 with ⟨b1, b2, b3, b4⟩ | ⟨b1, b2⟩ | ⟨b1, b2, b3⟩
    · subst a6; subst b4
      refine ⟨by rw [a1]; exact th0_0, fun _ => ?_, r_0 h⟩
      have q := l2 (8 * s0 + c) (by omega) (by omega)
      have rg := l3.2.2 s0 c b1.1 b1.2 b2.1 b2.2
      have e : r' = r := by
        rw [b3, a7, q.1, q.2]
        by_cases z : 0 ≤ C 24 (8 * s0 + c)
        · rw [if_pos z]
        · rw [if_neg z]
          exact (l5 _ (by omega) (by omega) (by omega)).symm
      rw [a4, e]
    · exact absurd b1 a2
    · exact absurd b2 a3
set_option maxHeartbeats 4000000 in
theorem r_doubt {C N : Mem} {bl : Nat} (h : Rel C N bl) {n r r' : Int} (c1 : r = cnI (fun i => ¬ C 24 i = -1 ∧ C 25 i < n) 240) (c2 : r' = cnI (fun k => 0 ≤ (th0 N) 19 k ∧ (th0 N) 20 k < n) (8 * (th0 N) 0 25)) : r' = r := by
  obtain ⟨l1, l2, l3, l4, l5⟩ := h.2.2.1
  have g1 := l3.1
  have g2 := l3.2.1
  have cut := zc_cut (P := fun i => ¬ C 24 i = -1 ∧ C 25 i < n) (k := 8 * C 23 2) (by omega) (240 - 8 * C 23 2).toNat (fun i a b z => z.1 (l4 i a (by omega)))
  rw [show 8 * C 23 2 + ((240 - 8 * C 23 2).toNat : Int) = 240 by omega] at cut
  rw [c1, c2, cut, th0_c (by decide), th0_c (by decide), th0_f (by decide), l1]
  refine zc_cg (by omega) (fun i a b => ?_)
  have q := l2 i a b
  have rg := l3.2.2 (i / 8) (i % 8) (by omega) (by omega) (by omega) (by omega)
  rw [show 8 * (i / 8) + i % 8 = i by omega] at rg
  rw [q.1, q.2]
  constructor
  · intro z; exact ⟨by omega, z.2⟩
  · intro z; exact ⟨by omega, z.2⟩
set_option maxHeartbeats 4000000 in
theorem r_steps {C N : Mem} {bl : Nat} (h : Rel C N bl) {r r' : Int} (c1 : r = cnI (fun i => ¬ C 24 i = -1) 240) (c2 : r' = cnI (fun k => 0 ≤ (th0 N) 19 k) (8 * (th0 N) 0 25)) : r' = r := by
  obtain ⟨l1, l2, l3, l4, l5⟩ := h.2.2.1
  have g1 := l3.1
  have g2 := l3.2.1
  have cut := zc_cut (P := fun i => ¬ C 24 i = -1) (k := 8 * C 23 2) (by omega) (240 - 8 * C 23 2).toNat (fun i a b z => z (l4 i a (by omega)))
  rw [show 8 * C 23 2 + ((240 - 8 * C 23 2).toNat : Int) = 240 by omega] at cut
  rw [c1, c2, cut, th0_c (by decide), th0_f (by decide), l1]
  refine zc_cg (by omega) (fun i a b => ?_)
  have q := l2 i a b
  have rg := l3.2.2 (i / 8) (i % 8) (by omega) (by omega) (by omega) (by omega)
  rw [show 8 * (i / 8) + i % 8 = i by omega] at rg
  rw [q.1]
  omega
set_option maxHeartbeats 4000000 in
theorem r_takes {C N : Mem} {bl : Nat} (h : Rel C N bl) {r r' : Int} (c1 : r = tkP (C 24) (C 2) (C 1 1) 13 0 0) (c2 : r' = tkP ((th0 N) 19) ((th0 N) 1) ((th0 N) 0 2) 13 0 0) : r' = r := by
  obtain ⟨l1, l2, l3, l4, l5⟩ := h.2.2.1
  rw [c1, c2, th0_c (by decide), th0_c (by decide), th0_f (by decide), h.1.1, h.1.2.1]
  exact tk_cg l3 h.1.2.2.2.2 (fun i a b => (l2 i a b).1) 13 0 0 (by omega) (by omega) (by have := l3.1; omega)
set_option maxHeartbeats 4000000 in
theorem r_broken {C N : Mem} {bl : Nat} (h : Rel C N bl) {i r r' : Int} (c1 : r = if 0 ≤ i ∧ i < C 45 1 then C 46 i else -1) (c2 : r' = if 0 ≤ i ∧ i < (th0 N) 0 50 then (th0 N) 34 i else -1) : r' = r := by
  obtain ⟨w, k1, k2, k3, k4, k5, k6⟩ := h.2.2.2.2.2
  rw [c1, c2, th0_f (by decide), th0_c (by decide), k1, k2]
  by_cases z : 0 ≤ i ∧ i < (w.length : Int)
  · rw [if_pos z, if_pos z]; exact (WR_at w k5 k6 i z.1 z.2).symm
  · rw [if_neg z, if_neg z]
set_option maxHeartbeats 4000000 in
theorem r_learn {C N C' N' : Mem} {bl : Nat} (h : Rel C N bl) {r r' : Int} (c1 : LnC C C' r) (c2 : LnM (th0 N) N' r') : r' = r ∧ Rel C' N' bl := by
  obtain ⟨q1, q2, q3, q4, q5, hB⟩ := h.2.1
  obtain ⟨l1, l2, l3, l4, l5⟩ := h.2.2.1
  obtain ⟨⟨fA, fB⟩, m, ch, pr, lc, t1, t2, t3, t4⟩ := c1
  obtain ⟨⟨gA, gB⟩, m', ch', pr', lc', u1, u2, u3, u4⟩ := c2
  have e : ∀ j : Nat, j ≠ 0 → (th0 N) j = N j := fun j hj => th0_c hj
  have e7 : (th0 N) 0 7 = C 3 6 := by rw [th0_f (by decide)]; exact q1
  have e25 : (th0 N) 0 25 = C 23 2 := by rw [th0_f (by decide)]; exact l1
  unfold cuM at u1 u3
  rw [e7, e 3 (by decide), e 4 (by decide), e 5 (by decide), e 2 (by decide), q2, q3, q4, q5] at u1 u3
  rw [e25, e 19 (by decide), e 20 (by decide)] at u3
  have cmp := ln_cmp hB t2 t1 u1 t3 u3 ⟨rfl, l2⟩
  have zer := ln_zero hB t2 t1 u1 t3
  obtain ⟨w1, w2, w3, w4⟩ := cmp
  have fN : ∀ j : Nat, (!(j == 0) && (decide (j < 6) || decide (21 < j))) = true → N' j = N j := fun j hj => by
    have h1 : j ≠ 0 ∧ (j < 6 ∨ 21 < j) := by simpa using hj
    rw [gA j (by omega) h1.2]; exact th0_c h1.1
  have f0 : ∀ i : Int, (!(i == 0) && !(i == 13) && !(i == 20) && !(i == 25)) = true → N' 0 i = N 0 i := fun i hi => by
    have h0 : i ≠ 0 := by intro z; subst z; simp at hi
    have h13 : i ≠ 13 := by intro z; subst z; simp at hi
    have h20 : i ≠ 20 := by intro z; subst z; simp at hi
    have h25 : i ≠ 25 := by intro z; subst z; simp at hi
    rw [gB i h13 h20 h25]; exact th0_f h0
  have fC : ∀ j : Nat, (!(j == 3) && (decide (j < 8) || decide (25 < j))) = true → C' j = C j := fun j hj => by
    have h1 : j ≠ 3 ∧ (j < 8 ∨ 25 < j) := by simpa using hj
    exact fA j h1.1 h1.2
  refine ⟨w1, ⟨RlH_cg h.1 (congrFun (fC 1 rfl) 1) (fC 2 rfl) (f0 2 rfl) (fN 1 rfl), RlB_cg h.2.1 (fB 6 (by decide)) (fC 4 rfl) (fC 5 rfl) (fC 6 rfl) (fC 7 rfl) (f0 7 rfl) (fN 2 rfl) (fN 3 rfl) (fN 4 rfl) (fN 5 rfl), ⟨w2, w3, ?_, ?_, ?_⟩, RlT_cg h.2.2.2.1 (congrFun (fC 29 rfl) 1) (fC 30 rfl) (f0 30 rfl) (fN 24 rfl), RlR_cg h.2.2.2.2.1 (congrFun (fC 31 rfl) 7) (fC 32 rfl) (fC 33 rfl) (fC 34 rfl) (fC 35 rfl) (fC 36 rfl) (f0 37 rfl) (f0 38 rfl) (fN 25 rfl) (fN 26 rfl) (fN 27 rfl), RlK_cg h.2.2.2.2.2 (congrFun (fC 45 rfl) 1) (fC 46 rfl) (f0 50 rfl) (fN 34 rfl)⟩⟩
  · rcases w4 with ⟨x1, x2, x3⟩ | ⟨x1, x2⟩
    · show okN2 (C' 23 2) (C' 24)
      rw [x2, x3]; exact l3
    · exact ⟨x2.1.1, x2.1.2, x2.2⟩
  · rcases w4 with ⟨x1, x2, x3⟩ | ⟨x1, x2⟩
    · rw [x2, x3]; exact l4
    · rcases t4 with t4 | ⟨t4, t5⟩
      · have := x2.1.1; omega
      · rw [← x1]; exact t5
  · rcases zer with ⟨x1, x2, x3, x4⟩ | ⟨x1, x2⟩
    · rw [x2, x3, x4]; exact l5
    · exact x2
set_option maxHeartbeats 4000000 in
theorem r_least {C N C' N' : Mem} {bl : Nat} (h : Rel C N bl) {r r' : Int} (c1 : LsC C C' r) (c2 : LsM (th0 N) N' r') : r' = r ∧ Rel C' N' bl := by
  obtain ⟨q1, q2, q3, q4, q5, hB⟩ := h.2.1
  obtain ⟨⟨fA, fB⟩, m, ch, pr, lc, t1, t2, t3⟩ := c1
  obtain ⟨⟨gA, gB⟩, m', ch', pr', lc', u1, u2, u3⟩ := c2
  have e : ∀ j : Nat, j ≠ 0 → (th0 N) j = N j := fun j hj => th0_c hj
  have e7 : (th0 N) 0 7 = C 3 6 := by rw [th0_f (by decide)]; exact q1
  unfold cuM at u1
  unfold TWm at u3
  rw [e7, e 3 (by decide), e 4 (by decide), e 5 (by decide), e 2 (by decide), q2, q3, q4, q5] at u1 u3
  have cmp := ls_cmp hB t1 u1 t3 u3
  have fN : ∀ j : Nat, (!(j == 0) && (decide (j < 6) || decide (12 < j)) && !(j == 22) && !(j == 23)) = true → N' j = N j := fun j hj => by
    have h1 : ((j ≠ 0 ∧ (j < 6 ∨ 12 < j)) ∧ j ≠ 22) ∧ j ≠ 23 := by simpa using hj
    rw [gA j (by omega) h1.1.1.2 h1.1.2 h1.2]; exact th0_c h1.1.1.1
  have f0 : ∀ i : Int, (!(i == 0) && !(i == 13)) = true → N' 0 i = N 0 i := fun i hi => by
    have h0 : i ≠ 0 := by intro z; subst z; simp at hi
    have h13 : i ≠ 13 := by intro z; subst z; simp at hi
    rw [gB i h13]; exact th0_f h0
  have fC : ∀ j : Nat, (!(j == 3) && !(j == 26) && (decide (j < 8) || decide (14 < j)) && !(j == 27) && !(j == 28)) = true → C' j = C j := fun j hj => by
    have h1 : (((j ≠ 3 ∧ j ≠ 26) ∧ (j < 8 ∨ 14 < j)) ∧ j ≠ 27) ∧ j ≠ 28 := by simpa using hj
    exact fA j h1.1.1.1.1 h1.1.1.1.2 h1.1.1.2 h1.1.2 h1.2
  exact ⟨cmp, ⟨RlH_cg h.1 (congrFun (fC 1 rfl) 1) (fC 2 rfl) (f0 2 rfl) (fN 1 rfl), RlB_cg h.2.1 (fB 6 (by decide)) (fC 4 rfl) (fC 5 rfl) (fC 6 rfl) (fC 7 rfl) (f0 7 rfl) (fN 2 rfl) (fN 3 rfl) (fN 4 rfl) (fN 5 rfl), RlL_cg h.2.2.1 (congrFun (fC 23 rfl) 2) (fC 24 rfl) (fC 25 rfl) (f0 25 rfl) (fN 19 rfl) (fN 20 rfl), RlT_cg h.2.2.2.1 (congrFun (fC 29 rfl) 1) (fC 30 rfl) (f0 30 rfl) (fN 24 rfl), RlR_cg h.2.2.2.2.1 (congrFun (fC 31 rfl) 7) (fC 32 rfl) (fC 33 rfl) (fC 34 rfl) (fC 35 rfl) (fC 36 rfl) (f0 37 rfl) (f0 38 rfl) (fN 25 rfl) (fN 26 rfl) (fN 27 rfl), RlK_cg h.2.2.2.2.2 (congrFun (fC 45 rfl) 1) (fC 46 rfl) (f0 50 rfl) (fN 34 rfl)⟩⟩
set_option maxHeartbeats 4000000 in
theorem r_tree {C N C' N' : Mem} {bl : Nat} (h : Rel C N bl) {r r' : Int} (c1 : GrP C C' ∧ r = C' 9 6) (c2 : TrP (th0 N) N' ∧ r' = N' 0 13) : r' = r ∧ Rel C' N' bl := by
  obtain ⟨q1, q2, q3, q4, q5, hB⟩ := h.2.1
  obtain ⟨⟨⟨fA, fB⟩, -, t1, -⟩, er⟩ := c1
  obtain ⟨⟨⟨gA, gB⟩, -, u1, -⟩, er'⟩ := c2
  have e : ∀ j : Nat, j ≠ 0 → (th0 N) j = N j := fun j hj => th0_c hj
  have e7 : (th0 N) 0 7 = C 3 6 := by rw [th0_f (by decide)]; exact q1
  unfold cuM at u1
  rw [e7, e 3 (by decide), e 4 (by decide), e 5 (by decide), e 2 (by decide), q2, q3, q4, q5] at u1
  have cmp := (tr_cmp hB t1 u1).2.1
  have fN : ∀ j : Nat, (!(j == 0) && (decide (j < 6) || decide (12 < j))) = true → N' j = N j := fun j hj => by
    have h1 : j ≠ 0 ∧ (j < 6 ∨ 12 < j) := by simpa using hj
    rw [gA j h1.1 (by omega) (by omega) (by omega) (by omega) (by omega) (by omega) (by omega)]; exact th0_c h1.1
  have f0 : ∀ i : Int, (!(i == 0) && !(i == 13)) = true → N' 0 i = N 0 i := fun i hi => by
    have h0 : i ≠ 0 := by intro z; subst z; simp at hi
    have h13 : i ≠ 13 := by intro z; subst z; simp at hi
    rw [gB i h13]; exact th0_f h0
  have fC : ∀ j : Nat, (decide (j < 9) || decide (14 < j)) = true → C' j = C j := fun j hj => by
    have h1 : j < 9 ∨ 14 < j := by simpa using hj
    exact fA j (by omega) (by omega) (by omega) (by omega) (by omega) (by omega)
  exact ⟨by rw [er, er', cmp], ⟨RlH_cg h.1 (congrFun (fC 1 rfl) 1) (fC 2 rfl) (f0 2 rfl) (fN 1 rfl), RlB_cg h.2.1 (congrFun (fC 3 rfl) 6) (fC 4 rfl) (fC 5 rfl) (fC 6 rfl) (fC 7 rfl) (f0 7 rfl) (fN 2 rfl) (fN 3 rfl) (fN 4 rfl) (fN 5 rfl), RlL_cg h.2.2.1 (congrFun (fC 23 rfl) 2) (fC 24 rfl) (fC 25 rfl) (f0 25 rfl) (fN 19 rfl) (fN 20 rfl), RlT_cg h.2.2.2.1 (congrFun (fC 29 rfl) 1) (fC 30 rfl) (f0 30 rfl) (fN 24 rfl), RlR_cg h.2.2.2.2.1 (congrFun (fC 31 rfl) 7) (fC 32 rfl) (fC 33 rfl) (fC 34 rfl) (fC 35 rfl) (fC 36 rfl) (f0 37 rfl) (f0 38 rfl) (fN 25 rfl) (fN 26 rfl) (fN 27 rfl), RlK_cg h.2.2.2.2.2 (congrFun (fC 45 rfl) 1) (fC 46 rfl) (f0 50 rfl) (fN 34 rfl)⟩⟩
