/-! THE RELATION OF THE TWO MEMORIES, call by call -/
def RlH (C N : Mem) : Prop := N 1 = C 2 ∧ N 0 2 = C 1 1 ∧ HdC C
def RlB (C N : Mem) : Prop := N 0 7 = C 3 6 ∧ N 2 = C 4 ∧ N 3 = C 5 ∧ N 4 = C 6 ∧ N 5 = C 7 ∧ BkC C
def RlL (C N : Mem) : Prop := N 0 25 = C 23 2 ∧ (∀ i, 0 ≤ i → i < 8 * C 23 2 → N 19 i = C 24 i ∧ N 20 i = C 25 i) ∧ LwC C ∧ (∀ i, 8 * C 23 2 ≤ i → i < 240 → C 24 i = -1) ∧ ∀ i, 0 ≤ i → i < 8 * C 23 2 → C 24 i = -1 → C 25 i = 0
def RlT (C N : Mem) : Prop := N 0 30 = C 29 1 ∧ (0 ≤ C 29 1 ∧ C 29 1 ≤ 200) ∧ (∀ i, 0 ≤ i → i < 200 → 0 ≤ C 30 i ∧ C 30 i < 256) ∧ ∀ i, 0 ≤ i → i < C 29 1 → C 30 i = N 24 i % 256 ∧ -128 ≤ N 24 i ∧ N 24 i ≤ 127
def RlR (C N : Mem) : Prop := (∀ i, 0 ≤ i → i < 200 → 0 ≤ C 32 i ∧ C 32 i < 256) ∧ ((N 0 38 = 0 ∧ N 0 37 = 0 ∧ C 31 7 = 0) ∨ (RtC C ∧ N 0 37 = ee (C 32) (C 31 7) ∧ N 0 38 = cnt (C 32) (C 31 7) ∧ PZ (C 32) (C 31 7) (N 25) (N 26) (N 27)))
def RlK (C N : Mem) (bl : Nat) : Prop := ∃ w : List Int, C 45 1 = (w.length : Int) ∧ N 0 50 = (w.length : Int) ∧ w.length ≤ 6031 ∧ w.length ≤ bl ∧ WR (C 46) w ∧ WR (N 34) w
def Rel (C N : Mem) (bl : Nat) : Prop := RlH C N ∧ RlB C N ∧ RlL C N ∧ RlT C N ∧ RlR C N ∧ RlK C N bl
section CG
variable {C N C' N' : Mem} {bl : Nat}
theorem RlH_cg (h : RlH C N) (a : C' 1 1 = C 1 1) (b : C' 2 = C 2) (c : N' 0 2 = N 0 2) (d : N' 1 = N 1) : RlH C' N' := by
  unfold RlH HdC at *; rw [a, b, c, d]; exact h
theorem RlB_cg (h : RlB C N) (a : C' 3 6 = C 3 6) (b4 : C' 4 = C 4) (b5 : C' 5 = C 5) (b6 : C' 6 = C 6) (b7 : C' 7 = C 7) (c : N' 0 7 = N 0 7) (d2 : N' 2 = N 2) (d3 : N' 3 = N 3) (d4 : N' 4 = N 4) (d5 : N' 5 = N 5) : RlB C' N' := by
  unfold RlB BkC at *; rw [a, b4, b5, b6, b7, c, d2, d3, d4, d5]; exact h
theorem RlL_cg (h : RlL C N) (a : C' 23 2 = C 23 2) (b : C' 24 = C 24) (b' : C' 25 = C 25) (c : N' 0 25 = N 0 25) (d : N' 19 = N 19) (d' : N' 20 = N 20) : RlL C' N' := by
  unfold RlL LwC at *; rw [a, b, b', c, d, d']; exact h
theorem RlT_cg (h : RlT C N) (a : C' 29 1 = C 29 1) (b : C' 30 = C 30) (c : N' 0 30 = N 0 30) (d : N' 24 = N 24) : RlT C' N' := by
  unfold RlT at *; rw [a, b, c, d]; exact h
theorem RlR_cg (h : RlR C N) (a : C' 31 7 = C 31 7) (b2 : C' 32 = C 32) (b3 : C' 33 = C 33) (b4 : C' 34 = C 34) (b5 : C' 35 = C 35) (b6 : C' 36 = C 36) (c7 : N' 0 37 = N 0 37) (c8 : N' 0 38 = N 0 38) (d5 : N' 25 = N 25) (d6 : N' 26 = N 26) (d7 : N' 27 = N 27) : RlR C' N' := by
  unfold RlR RtC at *; rw [a, b2, b3, b4, b5, b6, c7, c8, d5, d6, d7]; exact h
theorem RlK_cg (h : RlK C N bl) (a : C' 45 1 = C 45 1) (b : C' 46 = C 46) (c : N' 0 50 = N 0 50) (d : N' 34 = N 34) : RlK C' N' bl := by
  unfold RlK at *; rw [a, b, c, d]; exact h
end CG
set_option maxHeartbeats 4000000 in
theorem r_th {C N N' : Mem} {bl : Nat} (h : Rel C N bl) (a : ∀ j : Nat, j ≠ 0 → N' j = N j) (b : ∀ i : Int, i ≠ 0 → N' 0 i = N 0 i) : Rel C N' bl := by
  have fN : ∀ j : Nat, (!(j == 0)) = true → N' j = N j := fun j hj => by
    have hj : j ≠ 0 := by simpa using hj
    exact a j hj
  have f0 : ∀ i : Int, (!(i == 0)) = true → N' 0 i = N 0 i := fun i hi => by
    have h0 : i ≠ 0 := by intro z; subst z; simp at hi
    exact b i h0
  have fC : ∀ j : Nat, true = true → C j = C j := fun _ _ => rfl
  exact ⟨RlH_cg h.1 (congrFun (fC 1 rfl) 1) (fC 2 rfl) (f0 2 rfl) (fN 1 rfl), RlB_cg h.2.1 (congrFun (fC 3 rfl) 6) (fC 4 rfl) (fC 5 rfl) (fC 6 rfl) (fC 7 rfl) (f0 7 rfl) (fN 2 rfl) (fN 3 rfl) (fN 4 rfl) (fN 5 rfl), RlL_cg h.2.2.1 (congrFun (fC 23 rfl) 2) (fC 24 rfl) (fC 25 rfl) (f0 25 rfl) (fN 19 rfl) (fN 20 rfl), RlT_cg h.2.2.2.1 (congrFun (fC 29 rfl) 1) (fC 30 rfl) (f0 30 rfl) (fN 24 rfl), RlR_cg h.2.2.2.2.1 (congrFun (fC 31 rfl) 7) (fC 32 rfl) (fC 33 rfl) (fC 34 rfl) (fC 35 rfl) (fC 36 rfl) (f0 37 rfl) (f0 38 rfl) (fN 25 rfl) (fN 26 rfl) (fN 27 rfl), RlK_cg h.2.2.2.2.2 (congrFun (fC 45 rfl) 1) (fC 46 rfl) (f0 50 rfl) (fN 34 rfl)⟩
theorem r_k {C N : Mem} {bl : Nat} (h : Rel C N bl) (k : Int) : Rel C (up N 0 0 k) bl := r_th h (fun j hj => up_ne hj) (fun i hi => by rw [up_at, if_neg hi])
theorem r_0 {C N : Mem} {bl : Nat} (h : Rel C N bl) : Rel C (th0 N) bl := r_k h 0
theorem r_0k {C N : Mem} {bl : Nat} (h : Rel C N bl) (k : Int) : Rel C (up (th0 N) 0 0 k) bl := r_k (r_0 h) k
theorem r_M {C N : Mem} {bl : Nat} (h : Rel C N bl) : HdM N ∧ BkM N ∧ LwM N ∧ (0 ≤ N 0 30 ∧ N 0 30 ≤ 200) ∧ HkM N ∧ (0 ≤ N 0 50 ∧ N 0 50 ≤ (bl : Int)) := by
  obtain ⟨⟨h1, h2, h3⟩, ⟨b1, b2, b3, b4, b5, b6⟩, ⟨l1, l2, l3, l4, l5⟩, ⟨t1, t2, t3, t4⟩, ⟨q1, q2⟩, ⟨w, k1, k2, k3, k4, k5, k6⟩⟩ := h
  have l0 : LwM N := by
    have z := nx_ok (nx' := N 19) l3 (fun i a b => (l2 i a b).1)
    show okN2 (N 0 25) (N 19)
    rw [l1]; exact z
  refine ⟨?_, ?_, l0, by omega, ⟨?_, ⟨⟨l0.1, l0.2.1⟩, l0.2.2⟩⟩, by omega⟩
  · unfold HdM; rw [h1, h2]; exact h3
  · unfold BkM; rw [b1, b2, b3, b4, b5]; exact b6
  · rcases q2 with ⟨z1, z2, z3⟩ | ⟨z1, z2, z3, z4⟩
    · rw [z1, z2]; exact ⟨⟨by decide, by decide⟩, ⟨by decide, by decide⟩, fun e a b => by omega⟩
    · rw [z2, z3]; exact PZ_ok z1.1 z4
theorem r_tx {C N : Mem} {bl : Nat} (h : Rel C N bl) : TxC C ∧ NxOk (C 23 2) (C 24) := by
  obtain ⟨-, -, ⟨l1, l2, l3, l4, l5⟩, -, ⟨q1, q2⟩, -⟩ := h
  refine ⟨?_, ⟨l3.1, l3.2.1⟩, l3.2.2⟩
  rcases q2 with ⟨z1, z2, z3⟩ | ⟨z1, z2, z3, z4⟩
  · show TxO (C 31 7) (C 32) (C 33) (C 34) (C 35) (C 36)
    rw [z3]; exact ⟨by decide, q1, fun p a b => by omega⟩
  · exact RA_tx z1.1 z1.2.1 z1.2.2
set_option maxHeartbeats 4000000 in
theorem r_empty {C N C' N' : Mem} {bl : Nat} (h : Rel C N bl) {r r' : Int} (c1 : r = C 1 1 ∧ C' = up C 1 1 0) (c2 : r' = (th0 N) 0 2 ∧ N' = up (th0 N) 0 2 0) : r' = r ∧ Rel C' N' bl := by
  obtain ⟨e1, hC⟩ := c1
  obtain ⟨e2, hN⟩ := c2
  have fN : ∀ j : Nat, (!(j == 0)) = true → N' j = N j := fun j hj => by
    have hj : j ≠ 0 := by simpa using hj
    rw [hN, up_ne hj]; exact th0_c hj
  have f0 : ∀ i : Int, (!(i == 0) && !(i == 2)) = true → N' 0 i = N 0 i := fun i hi => by
    have h0 : i ≠ 0 := by intro z; subst z; simp at hi
    have h2 : i ≠ 2 := by intro z; subst z; simp at hi
    rw [hN, up_at, if_neg h2]; exact th0_f h0
  have fC : ∀ j : Nat, (!(j == 1)) = true → C' j = C j := fun j hj => by
    have h1 : j ≠ 1 := by intro z; subst z; simp at hj
    rw [hC, up_ne h1]
  refine ⟨by rw [e1, e2, th0_f (by decide)]; exact h.1.2.1, ⟨⟨by rw [fN 1 rfl, fC 2 rfl]; exact h.1.1, by rw [hN, hC, up_same, up_same], ?_⟩, RlB_cg h.2.1 (congrFun (fC 3 rfl) 6) (fC 4 rfl) (fC 5 rfl) (fC 6 rfl) (fC 7 rfl) (f0 7 rfl) (fN 2 rfl) (fN 3 rfl) (fN 4 rfl) (fN 5 rfl), RlL_cg h.2.2.1 (congrFun (fC 23 rfl) 2) (fC 24 rfl) (fC 25 rfl) (f0 25 rfl) (fN 19 rfl) (fN 20 rfl), RlT_cg h.2.2.2.1 (congrFun (fC 29 rfl) 1) (fC 30 rfl) (f0 30 rfl) (fN 24 rfl), RlR_cg h.2.2.2.2.1 (congrFun (fC 31 rfl) 7) (fC 32 rfl) (fC 33 rfl) (fC 34 rfl) (fC 35 rfl) (fC 36 rfl) (f0 37 rfl) (f0 38 rfl) (fN 25 rfl) (fN 26 rfl) (fN 27 rfl), RlK_cg h.2.2.2.2.2 (congrFun (fC 45 rfl) 1) (fC 46 rfl) (f0 50 rfl) (fN 34 rfl)⟩⟩
  unfold HdC
  rw [hC, up_same]
  exact ⟨by decide, by decide, fun i a b => by omega⟩
set_option maxHeartbeats 4000000 in
theorem r_hand {C N : Mem} {bl : Nat} (h : Rel C N bl) {i r r' : Int} (c1 : r = if 0 ≤ i ∧ i < C 1 1 then C 2 i else -1) (c2 : r' = if 0 ≤ i ∧ i < (th0 N) 0 2 then (th0 N) 1 i else -1) : r' = r := by
  rw [c1, c2, th0_f (by decide), th0_c (by decide), h.1.1, h.1.2.1]
set_option maxHeartbeats 4000000 in
theorem r_push {C N C' N' : Mem} {bl : Nat} (h : Rel C N bl) {c z r' : Int} {v : Int64} (c1 : WrP C (¬ (0 ≤ c ∧ c < 8)) False (fun r M' => if 0 ≤ C 1 1 ∧ C 1 1 < 12 then r = C 1 1 + 1 ∧ M' = up (up C 2 (C 1 1) c) 1 1 (C 1 1 + 1) else r = -1 ∧ C = M') z C' v) (c2 : (¬ (0 ≤ c ∧ c < 8) ∧ N' = up (th0 N) 0 0 1) ∨ ((0 ≤ c ∧ c < 8) ∧ (th0 N) 0 2 = 12 ∧ r' = -1 ∧ (th0 N) = N') ∨ ((0 ≤ c ∧ c < 8) ∧ (th0 N) 0 2 < 12 ∧ r' = (th0 N) 0 2 + 1 ∧ N' = up (up (th0 N) 1 ((th0 N) 0 2) c) 0 2 ((th0 N) 0 2 + 1))) : N' 0 0 = z ∧ (z = 0 → v = (Int32.ofInt r').toInt64) ∧ Rel C' N' bl := by
  have e2 : (th0 N) 0 2 = C 1 1 := by rw [th0_f (by decide)]; exact h.1.2.1
  have hz := h.1.2.2
  have z0 := hz.1
  have z12 := hz.2.1
  rcases c1 with ⟨a1, a2, a3⟩ | ⟨a1, a2, a3, a4⟩ | ⟨a1, a2, a3, r, a4, a5, a6⟩
  · rcases c2 with ⟨b1, b2⟩ | ⟨b1, b2⟩ | ⟨b1, b2⟩
    · subst a3; subst b2; subst a1
      exact ⟨up_same, fun z => by omega, r_0k h 1⟩
    · exact absurd b1 a2
    · exact absurd b1 a2
  · exact absurd a3 (fun z => z)
  · rcases c2 with ⟨b1, b2⟩ | ⟨b1, b2, b3, b4⟩ | ⟨b1, b2, b3, b4⟩
    · exact absurd b1 a2
    · rw [if_neg (by omega)] at a6
      obtain ⟨g1, g2⟩ := a6
      subst g2; subst b4
      exact ⟨by rw [a1]; exact th0_0, fun _ => by rw [a4, g1, b3], r_0 h⟩
    · rw [if_pos (by omega)] at a6
      obtain ⟨g1, hC⟩ := a6
      have hN := b4
      refine ⟨by rw [a1, hN, up_at, if_neg (by decide), up_ne (by decide)]; exact th0_0, fun _ => by rw [a4, g1, b3, e2], ?_⟩
      have fN : ∀ j : Nat, (!(j == 0) && !(j == 1)) = true → N' j = N j := fun j hj => by
        have h1x : j ≠ 1 := by intro z; subst z; simp at hj
        have hj : j ≠ 0 := by intro z; subst z; simp at hj
        by_cases z : j = 1
        · exact absurd z (by intro y; subst y; exact h1x rfl)
        · rw [hN, up_ne hj, up_ne z]; exact th0_c hj
      have f0 : ∀ i : Int, (!(i == 0) && !(i == 2)) = true → N' 0 i = N 0 i := fun i hi => by
        have h0 : i ≠ 0 := by intro z; subst z; simp at hi
        have h2 : i ≠ 2 := by intro z; subst z; simp at hi
        rw [hN, up_at, if_neg h2, up_ne (by decide)]; exact th0_f h0
      have fC : ∀ j : Nat, (!(j == 1) && !(j == 2)) = true → C' j = C j := fun j hj => by
        have h1 : j ≠ 1 := by intro z; subst z; simp at hj
        have h2 : j ≠ 2 := by intro z; subst z; simp at hj
        rw [hC, up_ne h1, up_ne h2]
      refine ⟨⟨?_, ?_, ?_⟩, RlB_cg h.2.1 (congrFun (fC 3 rfl) 6) (fC 4 rfl) (fC 5 rfl) (fC 6 rfl) (fC 7 rfl) (f0 7 rfl) (fN 2 rfl) (fN 3 rfl) (fN 4 rfl) (fN 5 rfl), RlL_cg h.2.2.1 (congrFun (fC 23 rfl) 2) (fC 24 rfl) (fC 25 rfl) (f0 25 rfl) (fN 19 rfl) (fN 20 rfl), RlT_cg h.2.2.2.1 (congrFun (fC 29 rfl) 1) (fC 30 rfl) (f0 30 rfl) (fN 24 rfl), RlR_cg h.2.2.2.2.1 (congrFun (fC 31 rfl) 7) (fC 32 rfl) (fC 33 rfl) (fC 34 rfl) (fC 35 rfl) (fC 36 rfl) (f0 37 rfl) (f0 38 rfl) (fN 25 rfl) (fN 26 rfl) (fN 27 rfl), RlK_cg h.2.2.2.2.2 (congrFun (fC 45 rfl) 1) (fC 46 rfl) (f0 50 rfl) (fN 34 rfl)⟩
      · rw [hN, hC, up_ne (show (1 : Nat) ≠ 0 by decide), up_ne (show (2 : Nat) ≠ 1 by decide), e2]
        funext i
        rw [up_at, up_at, th0_c (by decide), h.1.1]
      · rw [hN, hC, up_same, up_same, e2]
      · unfold HdC
        rw [hC, up_same, up_ne (by decide)]
        refine ⟨by omega, by omega, fun i x y => ?_⟩
        rw [up_at]
        by_cases q : i = C 1 1
        · rw [if_pos q]; exact b1
        · rw [if_neg q]; exact hz.2.2 i x (by omega)
set_option maxHeartbeats 4000000 in
theorem r_row {C N C' N' : Mem} {bl : Nat} (h : Rel C N bl) {right r r' : Int} (hr : right = 0 ∨ right = 1) (c1 : (((right = 0 ∧ C 1 1 = 0) ∧ r = -1 ∧ C = C') ∨ (¬ (right = 0 ∧ C 1 1 = 0) ∧ C 3 6 = 60 ∧ r = -2 ∧ C = C') ∨ (¬ (right = 0 ∧ C 1 1 = 0) ∧ C 3 6 < 60 ∧ r = C 3 6 ∧ C' = up (entM C right) 1 1 0))) (c2 : (((right = 0 ∧ (th0 N) 0 2 = 0) ∧ r' = -1 ∧ (th0 N) = N') ∨ (¬ (right = 0 ∧ (th0 N) 0 2 = 0) ∧ (th0 N) 0 7 = 60 ∧ r' = -2 ∧ (th0 N) = N') ∨ (¬ (right = 0 ∧ (th0 N) 0 2 = 0) ∧ (th0 N) 0 7 < 60 ∧ r' = (th0 N) 0 7 ∧ N' = entN (th0 N) right))) : r' = r ∧ Rel C' N' bl := by
  have e2 : (th0 N) 0 2 = C 1 1 := by rw [th0_f (by decide)]; exact h.1.2.1
  have e7 : (th0 N) 0 7 = C 3 6 := by rw [th0_f (by decide)]; exact h.2.1.1
  rw [e2, e7] at c2
  have hz := h.1.2.2
  have z0 := hz.1
  have z12 := hz.2.1
  obtain ⟨q1, q2, q3, q4, q5, hB⟩ := h.2.1
  have t0 := hB.1
  rcases c1 with ⟨a1, a2, a3⟩ | ⟨a1, a2, a3, a4⟩ | ⟨a1, a2, a3, hC⟩
  · rcases c2 with ⟨b1, b2, b3⟩ | ⟨b1, b2⟩ | ⟨b1, b2⟩
    · subst a3; subst b3; exact ⟨by rw [a2, b2], r_0 h⟩
    · exact absurd a1 b1
    · exact absurd a1 b1
  · rcases c2 with ⟨b1, b2⟩ | ⟨b1, b2, b3, b4⟩ | ⟨b1, b2, b3, b4⟩
    · exact absurd b1 a1
    · subst a4; subst b4; exact ⟨by rw [a3, b3], r_0 h⟩
    · omega
  · rcases c2 with ⟨b1, b2⟩ | ⟨b1, b2, b3, b4⟩ | ⟨b1, b2, b3, hN⟩
    · exact absurd b1 a1
    · omega
    · refine ⟨by rw [a3, b3], ?_⟩
      have x1 : ∀ k : Nat, k ≠ 1 → k ≠ 3 → k ≠ 4 → k ≠ 5 → k ≠ 6 → k ≠ 7 → C' k = C k := fun k k1 k3 k4 k5 k6 k7 => by
        rw [hC, up_ne k1]; unfold entM
        rw [up_ne k3, up_ne k7, up_ne k6, up_ne k5, cpyM_ne k4]
      have x2 : ∀ k : Nat, k ≠ 0 → k ≠ 2 → k ≠ 3 → k ≠ 4 → k ≠ 5 → N' k = N k := fun k k0 k2 k3 k4 k5 => by
        rw [hN]; unfold entN
        rw [up_ne k0, up_ne k0, up_ne k5, up_ne k4, up_ne k3, cpyN_ne k2]; exact th0_c k0
      have y6 : C' 3 6 = C 3 6 + 1 := by rw [hC, up_ne (by decide)]; unfold entM; rw [up_same]
      have y4 : C' 4 = fun i => if 12 * C 3 6 ≤ i ∧ i < 12 * C 3 6 + C 1 1 then C 2 (i - 12 * C 3 6) else C 4 i := by
        rw [hC, up_ne (by decide)]; unfold entM
        rw [up_ne (by decide), up_ne (by decide), up_ne (by decide), up_ne (by decide)]
        funext i
        unfold cpyM
        by_cases z : 12 * C 3 6 ≤ i ∧ i < 12 * C 3 6 + C 1 1
        · rw [if_pos ⟨rfl, z⟩, if_pos z]
        · rw [if_neg (fun y => z y.2), if_neg z]
      have y5 : C' 5 = fun i => if i = C 3 6 then C 1 1 else C 5 i := by
        rw [hC, up_ne (by decide)]; unfold entM
        rw [up_ne (by decide), up_ne (by decide), up_ne (by decide)]
        funext i
        rw [up_at, cpyM_ne (by decide)]
      have y6b : C' 6 = fun i => if i = C 3 6 then right else C 6 i := by
        rw [hC, up_ne (by decide)]; unfold entM
        rw [up_ne (by decide), up_ne (by decide)]
        funext i
        rw [up_at, up_ne (by decide), cpyM_ne (by decide)]
      have y7 : C' 7 = fun i => if i = C 3 6 then 1 else C 7 i := by
        rw [hC, up_ne (by decide)]; unfold entM
        rw [up_ne (by decide)]
        funext i
        rw [up_at, up_ne (by decide), up_ne (by decide), cpyM_ne (by decide)]
      have n7 : N' 0 7 = C 3 6 + 1 := by rw [hN]; unfold entN; rw [up_same, e7]
      have n0 : ∀ i : Int, i ≠ 0 → i ≠ 2 → i ≠ 7 → N' 0 i = N 0 i := fun i i0 i2 i7 => by
        rw [hN]; unfold entN
        rw [up_at, if_neg i7, up_at, if_neg i2, up_ne (by decide), up_ne (by decide), up_ne (by decide), cpyN_ne (by decide)]; exact th0_f i0
      have n2 : N' 2 = fun i => if 12 * C 3 6 ≤ i ∧ i < 12 * C 3 6 + C 1 1 then C 2 (i - 12 * C 3 6) else C 4 i := by
        rw [hN]; unfold entN
        rw [up_ne (by decide), up_ne (by decide), up_ne (by decide), up_ne (by decide), up_ne (by decide), e7, e2]
        funext i
        unfold cpyN
        rw [th0_c (show (1 : Nat) ≠ 0 by decide), h.1.1, th0_c (show (2 : Nat) ≠ 0 by decide), q2]
        by_cases z : 12 * C 3 6 ≤ i ∧ i < 12 * C 3 6 + C 1 1
        · rw [if_pos ⟨rfl, z⟩, if_pos z]
        · rw [if_neg (fun y => z y.2), if_neg z]
      have n3 : N' 3 = fun i => if i = C 3 6 then C 1 1 else C 5 i := by
        rw [hN]; unfold entN
        rw [up_ne (by decide), up_ne (by decide), up_ne (by decide), up_ne (by decide), e7, e2]
        funext i
        rw [up_at, cpyN_ne (by decide), th0_c (by decide), q3]
      have n4 : N' 4 = fun i => if i = C 3 6 then right else C 6 i := by
        rw [hN]; unfold entN
        rw [up_ne (by decide), up_ne (by decide), up_ne (by decide), e7]
        funext i
        rw [up_at, up_ne (by decide), cpyN_ne (by decide), th0_c (by decide), q4]
      have n5 : N' 5 = fun i => if i = C 3 6 then 1 else C 7 i := by
        rw [hN]; unfold entN
        rw [up_ne (by decide), up_ne (by decide), e7]
        funext i
        rw [up_at, up_ne (by decide), up_ne (by decide), cpyN_ne (by decide), th0_c (by decide), q5]
      have c11 : C' 1 1 = 0 := by rw [hC, up_same]
      have n02 : N' 0 2 = 0 := by rw [hN]; unfold entN; rw [up_at, if_neg (by decide), up_same]
      refine ⟨⟨?_, ?_, ?_⟩, ⟨?_, ?_, ?_, ?_, ?_, ?_⟩, RlL_cg h.2.2.1 (congrFun (x1 23 (by decide) (by decide) (by decide) (by decide) (by decide) (by decide)) 2) (x1 24 (by decide) (by decide) (by decide) (by decide) (by decide) (by decide)) (x1 25 (by decide) (by decide) (by decide) (by decide) (by decide) (by decide)) (n0 25 (by decide) (by decide) (by decide)) (x2 19 (by decide) (by decide) (by decide) (by decide) (by decide)) (x2 20 (by decide) (by decide) (by decide) (by decide) (by decide)), RlT_cg h.2.2.2.1 (congrFun (x1 29 (by decide) (by decide) (by decide) (by decide) (by decide) (by decide)) 1) (x1 30 (by decide) (by decide) (by decide) (by decide) (by decide) (by decide)) (n0 30 (by decide) (by decide) (by decide)) (x2 24 (by decide) (by decide) (by decide) (by decide) (by decide)), RlR_cg h.2.2.2.2.1 (congrFun (x1 31 (by decide) (by decide) (by decide) (by decide) (by decide) (by decide)) 7) (x1 32 (by decide) (by decide) (by decide) (by decide) (by decide) (by decide)) (x1 33 (by decide) (by decide) (by decide) (by decide) (by decide) (by decide)) (x1 34 (by decide) (by decide) (by decide) (by decide) (by decide) (by decide)) (x1 35 (by decide) (by decide) (by decide) (by decide) (by decide) (by decide)) (x1 36 (by decide) (by decide) (by decide) (by decide) (by decide) (by decide)) (n0 37 (by decide) (by decide) (by decide)) (n0 38 (by decide) (by decide) (by decide)) (x2 25 (by decide) (by decide) (by decide) (by decide) (by decide)) (x2 26 (by decide) (by decide) (by decide) (by decide) (by decide)) (x2 27 (by decide) (by decide) (by decide) (by decide) (by decide)), RlK_cg h.2.2.2.2.2 (congrFun (x1 45 (by decide) (by decide) (by decide) (by decide) (by decide) (by decide)) 1) (x1 46 (by decide) (by decide) (by decide) (by decide) (by decide) (by decide)) (n0 50 (by decide) (by decide) (by decide)) (x2 34 (by decide) (by decide) (by decide) (by decide) (by decide))⟩
      · rw [x2 1 (by decide) (by decide) (by decide) (by decide) (by decide), x1 2 (by decide) (by decide) (by decide) (by decide) (by decide) (by decide)]; exact h.1.1
      · rw [c11, n02]
      · unfold HdC; rw [c11]; exact ⟨by decide, by decide, fun i a b => by omega⟩
      · rw [n7, y6]
      · rw [n2, y4]
      · rw [n3, y5]
      · rw [n4, y6b]
      · rw [n5, y7]
      · show BkOk (C' 3 6) (C' 5) (C' 6) (C' 7) (C' 4)
        rw [y6, y5, y6b, y7, y4]
        refine ⟨by omega, by omega, fun r0 r1 r2 => ?_⟩
        by_cases z : r0 = C 3 6
        · simp only [if_pos z]
          refine ⟨z0, z12, hr, Or.inr trivial, fun y => ?_, fun i x y => ?_⟩
          · omega
          · rw [if_pos (by omega)]
            have := hz.2.2 (12 * r0 + i - 12 * C 3 6) (by omega) (by omega)
            exact this
        · simp only [if_neg z]
          have g := hB.2.2 r0 r1 (by omega)
          refine ⟨g.1, g.2.1, g.2.2.1, g.2.2.2.1, g.2.2.2.2.1, fun i x y => ?_⟩
          rw [if_neg (by omega)]
          exact g.2.2.2.2.2 i x y
