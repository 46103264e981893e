/-! THE RELATION, call by call, 3 -/
/-- one byte more on both tapes -/
theorem r_ap {C N : Mem} (h : RlT C N) (hs : C 29 1 < 200) {x : Int} : RlT (apM C (x % 256)) (apN N (sg8 x)) ∧ (apM C (x % 256)) 29 1 = C 29 1 + 1 := by
  obtain ⟨t1, t2, t3, t4⟩ := h
  have e1 : (apM C (x % 256)) 29 1 = C 29 1 + 1 := by unfold apM; rw [up_same]
  have e2 : (apM C (x % 256)) 30 = fun i => if i = C 29 1 then x % 256 else C 30 i := by
    unfold apM; rw [up_ne (by decide)]; funext i; rw [up_at]
  have e3 : (apN N (sg8 x)) 0 30 = C 29 1 + 1 := by unfold apN; rw [up_same, t1]
  have e4 : (apN N (sg8 x)) 24 = fun i => if i = C 29 1 then sg8 x else N 24 i := by
    unfold apN; rw [up_ne (by decide)]; funext i; rw [up_at, t1]
  have sg : x % 256 = sg8 x % 256 ∧ -128 ≤ sg8 x ∧ sg8 x ≤ 127 := by
    unfold sg8
    by_cases z : x % 256 < 128
    · rw [if_pos z]; omega
    · rw [if_neg z]; omega
  refine ⟨⟨by rw [e3, e1], by rw [e1]; omega, fun i a b => ?_, fun i a b => ?_⟩, e1⟩
  · rw [e2]
    by_cases z : i = C 29 1
    · simp only [if_pos z]; omega
    · simp only [if_neg z]; exact t3 i a b
  · rw [e1] at b
    rw [e2, e4]
    by_cases z : i = C 29 1
    · simp only [if_pos z]; exact sg
    · simp only [if_neg z]; exact t4 i a (by omega)
theorem r_bys {C N : Mem} (a : Int) : ∀ j : Nat, RlT C N → C 29 1 + j ≤ 200 → RlT (bys C a j) (byN N a j)
  | 0, h, _ => h
  | j + 1, h, hs => by
    have ih := r_bys a j h (by omega)
    have n := bys_n C a j
    have q := (r_ap ih (by rw [n]; omega) (x := a / 2 ^ (24 - 8 * (j : Int)).toNat)).1
    exact q
theorem r_bf {C : Mem} (a : Int) : ∀ j k : Nat, k ≠ 29 → k ≠ 30 → bys C a j k = C k
  | 0, _, _, _ => rfl
  | j + 1, k, h1, h2 => by
    show apM (bys C a j) _ k = C k
    unfold apM
    rw [up_ne h1, up_ne h2]; exact r_bf a j k h1 h2
theorem r_nf {N : Mem} (a : Int) : ∀ j : Nat, (∀ k : Nat, k ≠ 0 → k ≠ 24 → byN N a j k = N k) ∧ ∀ i : Int, i ≠ 30 → byN N a j 0 i = N 0 i
  | 0 => ⟨fun _ _ _ => rfl, fun _ _ => rfl⟩
  | j + 1 => by
    have ih := r_nf (N := N) a j
    refine ⟨fun k h1 h2 => ?_, fun i hi => ?_⟩
    · show apN (byN N a j) _ k = N k
      unfold apN
      rw [up_ne h1, up_ne h2]; exact ih.1 k h1 h2
    · show apN (byN N a j) _ 0 i = N 0 i
      unfold apN
      rw [up_at, if_neg hi, up_ne (by decide)]; exact ih.2 i hi
set_option maxHeartbeats 4000000 in
theorem r_feed {C N C' N' : Mem} {bl : Nat} (h : Rel C N bl) {a b c d e r r' : Int} (c1 : (180 < C 29 1 ∧ r = -1 ∧ C = C') ∨ (C 29 1 ≤ 180 ∧ r = C 29 1 + 20 ∧ C' = fdM C a b c d e)) (c2 : (180 < (th0 N) 0 30 ∧ r' = -1 ∧ (th0 N) = N') ∨ ((th0 N) 0 30 ≤ 180 ∧ r' = (th0 N) 0 30 + 20 ∧ N' = fdN (th0 N) a b c d e 5)) : r' = r ∧ Rel C' N' bl := by
  have e30 : (th0 N) 0 30 = C 29 1 := by rw [th0_f (by decide)]; exact h.2.2.2.1.1
  rw [e30] at c2
  rcases c1 with ⟨a1, a2, a3⟩ | ⟨a1, a2, hC⟩
  · rcases c2 with ⟨b1, b2, b3⟩ | ⟨b1, b2, b3⟩
    · subst a3; subst b3; exact ⟨by rw [a2, b2], r_0 h⟩
    · omega
  · rcases c2 with ⟨b1, b2, b3⟩ | ⟨b1, b2, hN⟩
    · omega
    · refine ⟨by rw [a2, b2], ?_⟩
      have hN2 : N' = byN (byN (byN (byN (byN (th0 N) a 4) b 4) c 4) d 4) e 4 := hN
      have hC2 : C' = bys (bys (bys (bys (bys C a 4) b 4) c 4) d 4) e 4 := hC
      have t0 := (r_0 h).2.2.2.1
      have n1 := bys_n C a 4
      have n2 := bys_n (bys C a 4) b 4
      have n3 := bys_n (bys (bys C a 4) b 4) c 4
      have n4 := bys_n (bys (bys (bys C a 4) b 4) c 4) d 4
      have t1 := r_bys a 4 t0 (by omega)
      have t2 := r_bys b 4 t1 (by omega)
      have t3 := r_bys c 4 t2 (by omega)
      have t4 := r_bys d 4 t3 (by omega)
      have t5 := r_bys e 4 t4 (by omega)
      rw [← hN2, ← hC2] at t5
      have fC : ∀ j : Nat, (!(j == 29) && !(j == 30)) = true → C' j = C j := fun j hj => by
        have h1 : j ≠ 29 ∧ j ≠ 30 := by simpa using hj
        rw [hC2, r_bf _ _ _ h1.1 h1.2, r_bf _ _ _ h1.1 h1.2, r_bf _ _ _ h1.1 h1.2, r_bf _ _ _ h1.1 h1.2, r_bf _ _ _ h1.1 h1.2]
      have fN : ∀ j : Nat, (!(j == 0) && !(j == 24)) = true → N' j = N j := fun j hj => by
        have h1 : j ≠ 0 ∧ j ≠ 24 := by simpa using hj
        rw [hN2, (r_nf _ _).1 j h1.1 h1.2, (r_nf _ _).1 j h1.1 h1.2, (r_nf _ _).1 j h1.1 h1.2, (r_nf _ _).1 j h1.1 h1.2, (r_nf _ _).1 j h1.1 h1.2]
        exact th0_c h1.1
      have f0 : ∀ i : Int, (!(i == 0) && !(i == 30)) = true → N' 0 i = N 0 i := fun i hi => by
        have h0 : i ≠ 0 := by intro z; subst z; simp at hi
        have h30 : i ≠ 30 := by intro z; subst z; simp at hi
        rw [hN2, (r_nf _ _).2 i h30, (r_nf _ _).2 i h30, (r_nf _ _).2 i h30, (r_nf _ _).2 i h30, (r_nf _ _).2 i h30]
        exact th0_f h0
      exact ⟨RlH_cg h.1 (congrFun (fC 1 rfl) 1) (fC 2 rfl) (f0 2 rfl) (fN 1 rfl), RlB_cg h.2.1 (congrFun (fC 3 rfl) 6) (fC 4 rfl) (fC 5 rfl) (fC 6 rfl) (fC 7 rfl) (f0 7 rfl) (fN 2 rfl) (fN 3 rfl) (fN 4 rfl) (fN 5 rfl), RlL_cg h.2.2.1 (congrFun (fC 23 rfl) 2) (fC 24 rfl) (fC 25 rfl) (f0 25 rfl) (fN 19 rfl) (fN 20 rfl), t5, RlR_cg h.2.2.2.2.1 (congrFun (fC 31 rfl) 7) (fC 32 rfl) (fC 33 rfl) (fC 34 rfl) (fC 35 rfl) (fC 36 rfl) (f0 37 rfl) (f0 38 rfl) (fN 25 rfl) (fN 26 rfl) (fN 27 rfl), RlK_cg h.2.2.2.2.2 (congrFun (fC 45 rfl) 1) (fC 46 rfl) (f0 50 rfl) (fN 34 rfl)⟩
set_option maxHeartbeats 4000000 in
theorem r_routine {C N C' N' : Mem} {bl : Nat} (h : Rel C N bl) {n z r' : Int} {v : Int64} (c1 : WrP C (¬ (0 ≤ n ∧ n ≤ C 29 1)) False (fun r M' => (scf (C 30) n 201 0 0 0 = -1 ∧ r = 0 ∧ RpF (up C 29 1 0) M' ∧ RtC M' ∧ M' 31 7 = n ∧ ∀ i, 0 ≤ i → i < n → M' 32 i = C 30 i) ∨ (¬ scf (C 30) n 201 0 0 0 = -1 ∧ r = -2 - scf (C 30) n 201 0 0 0 ∧ M' = up C 29 1 0)) z C' v) (c2 : RoP (C 30) (th0 N) N' n r') : N' 0 0 = z ∧ (z = 0 → v = (Int32.ofInt r').toInt64) ∧ Rel C' N' bl := by
  have e30 : (th0 N) 0 30 = C 29 1 := by rw [th0_f (by decide)]; exact h.2.2.2.1.1
  unfold RoP at c2
  rw [e30] at c2
  obtain ⟨t1, t2, t3, t4⟩ := h.2.2.2.1
  rcases c1 with ⟨a1, a2, a3⟩ | ⟨a1, a2, a3, a4⟩ | ⟨a1, a2, a3, r, a4, a5, a6⟩
  · rcases c2 with ⟨b1, b2⟩ | ⟨b1, b2⟩
    · subst a3; subst b2; subst a1
      exact ⟨up_same, fun z => by omega, r_0k h 1⟩
    · exact absurd b1 a2
  · exact absurd a3 (fun z => z)
  · rcases c2 with ⟨b1, b2⟩ | ⟨b1, ⟨rA, rB, rC⟩, b3⟩
    · exact absurd b1 a2
    · have z0 : N' 0 0 = 0 := by rw [rB 0 (Or.inl (by decide))]; exact th0_0
      have fN : ∀ j : Nat, (!(j == 0) && (decide (j < 25) || decide (30 < j))) = true → N' j = N j := fun j hj => by
        have h1 : j ≠ 0 ∧ (j < 25 ∨ 30 < j) := by simpa using hj
        rw [rA j (by omega) h1.2]; exact th0_c h1.1
      have f0 : ∀ i : Int, (!(i == 0) && (decide (i < 30) || decide (45 < i))) = true → N' 0 i = N 0 i := fun i hi => by
        have h1 : i ≠ 0 ∧ (i < 30 ∨ 45 < i) := by simpa using hi
        rw [rB i h1.2]; exact th0_f h1.1
      refine ⟨by rw [a1]; exact z0, ?_⟩
      rcases a6 with ⟨s1, s2, s3, s4, s5, s6⟩ | ⟨s1, s2, hC⟩
      · rcases b3 with ⟨u1, u2, u3, u4, u5⟩ | ⟨u1, _⟩
        · refine ⟨fun _ => by rw [a4, s2, u2], ?_⟩
          have fC : ∀ j : Nat, (!(j == 29) && (decide (j < 31) || decide (38 < j))) = true → C' j = C j := fun j hj => by
            have h1 : j ≠ 29 ∧ (j < 31 ∨ 38 < j) := by simpa using hj
            rw [s3.1 j h1.2]; exact up_ne h1.1
          have c29 : C' 29 1 = 0 := by rw [s3.1 29 (Or.inl (by decide))]; exact up_same
          have ag : ∀ i : Int, 0 ≤ i → i < n → C' 32 i = C 30 i := s6
          refine ⟨RlH_cg h.1 (congrFun (fC 1 rfl) 1) (fC 2 rfl) (f0 2 rfl) (fN 1 rfl), RlB_cg h.2.1 (congrFun (fC 3 rfl) 6) (fC 4 rfl) (fC 5 rfl) (fC 6 rfl) (fC 7 rfl) (f0 7 rfl) (fN 2 rfl) (fN 3 rfl) (fN 4 rfl) (fN 5 rfl), RlL_cg h.2.2.1 (congrFun (fC 23 rfl) 2) (fC 24 rfl) (fC 25 rfl) (f0 25 rfl) (fN 19 rfl) (fN 20 rfl), ⟨?_, ?_, ?_, ?_⟩, ⟨s4.2.2, Or.inr ⟨s4, ?_, ?_, ?_⟩⟩, RlK_cg h.2.2.2.2.2 (congrFun (fC 45 rfl) 1) (fC 46 rfl) (f0 50 rfl) (fN 34 rfl)⟩
          · rw [rC, c29]
          · rw [c29]; decide
          · rw [fC 30 rfl]; exact t3
          · rw [c29]; exact fun i a b => by omega
          · rw [s5, u3]; exact (ee_cg ag).symm
          · rw [s5, u4]; exact (cnt_cg ag).symm
          · rw [s5]; exact PZ_cg ag u5
        · exfalso; omega
      · rcases b3 with ⟨u1, _⟩ | ⟨u1, u2, u3, u4, u5, u6, u7⟩
        · exact absurd u1 s1
        · refine ⟨fun _ => by rw [a4, s2, u2], ?_⟩
          have fC : ∀ j : Nat, (!(j == 29)) = true → C' j = C j := fun j hj => by
            have h1 : j ≠ 29 := by simpa using hj
            rw [hC]; exact up_ne h1
          have c29 : C' 29 1 = 0 := by rw [hC]; exact up_same
          refine ⟨RlH_cg h.1 (congrFun (fC 1 rfl) 1) (fC 2 rfl) (f0 2 rfl) (fN 1 rfl), RlB_cg h.2.1 (congrFun (fC 3 rfl) 6) (fC 4 rfl) (fC 5 rfl) (fC 6 rfl) (fC 7 rfl) (f0 7 rfl) (fN 2 rfl) (fN 3 rfl) (fN 4 rfl) (fN 5 rfl), RlL_cg h.2.2.1 (congrFun (fC 23 rfl) 2) (fC 24 rfl) (fC 25 rfl) (f0 25 rfl) (fN 19 rfl) (fN 20 rfl), ⟨?_, ?_, ?_, ?_⟩, RlR_cg h.2.2.2.2.1 (congrFun (fC 31 rfl) 7) (fC 32 rfl) (fC 33 rfl) (fC 34 rfl) (fC 35 rfl) (fC 36 rfl) (by rw [u3]; exact th0_f (by decide)) (by rw [u4]; exact th0_f (by decide)) (by rw [u5]; exact th0_c (by decide)) (by rw [u6]; exact th0_c (by decide)) (by rw [u7]; exact th0_c (by decide)), RlK_cg h.2.2.2.2.2 (congrFun (fC 45 rfl) 1) (fC 46 rfl) (f0 50 rfl) (fN 34 rfl)⟩
          · rw [rC, c29]
          · rw [c29]; decide
          · rw [fC 30 rfl]; exact t3
          · rw [c29]; exact fun i a b => by omega
set_option maxHeartbeats 4000000 in
theorem r_holdN {C N C' : Mem} {bl : Nat} (h : Rel C N bl) (c1 : FbP C C') : HoN N (C' 45 1).toNat ∧ (C' 45 1).toNat ≤ 6031 ∧ 0 ≤ C' 45 1 := by
  obtain ⟨l1, l2, l3, l4, l5⟩ := h.2.2.1
  have hn : NxOk (C 23 2) (C 24) := ⟨⟨l3.1, l3.2.1⟩, l3.2.2⟩
  unfold HoN EpN StN
  rcases h.2.2.2.2.1.2 with ⟨z1, z2, z3⟩ | ⟨z1, z2, z3, z4⟩
  · rcases c1.2 with ⟨w1, w2⟩ | ⟨w, w1, w2, w3, w4⟩
    · rw [w1]; exact ⟨Or.inr ⟨rfl, Or.inl z1⟩, by decide, by decide⟩
    · exfalso
      cases w with
      | nil => exact w1.1
      | cons c w =>
        obtain ⟨p, p', x1, x2⟩ := w1.1.2.2
        have x3 : 0 ≤ p ∧ p < C 31 7 := x2.1
        omega
  · have same : ∀ v, Brk (EpC C) (StC C) (C 24) v ↔ Brk (EpM (N 0 37) (N 25) (N 26) (N 27)) (StM (N 0 37) (N 25) (N 26) (N 27)) (N 19) v := fun v => by
      rw [z2]
      refine (brk_same z1.1 z1.2.1 z4 (C 24) v).trans ?_
      exact (Brk_nx (fun p d q x => x.1) hn (fun i a b => (l2 i a b).1) v).symm
    have c0 := cnt_b (tx := C 32) z1.1.1.1
    rcases c1.2 with ⟨w1, w2⟩ | ⟨w, w1, w2, w3, w4⟩
    · rw [w1]; exact ⟨Or.inr ⟨rfl, Or.inr (fun v hv => w2 v ((same v).2 hv))⟩, by decide, by decide⟩
    · refine ⟨Or.inl ⟨by omega, by rw [z3]; exact c0.1, w, (BrkL_iff same w).1 w1, by omega⟩, by omega, by omega⟩
set_option maxHeartbeats 4000000 in
theorem r_hold {C N C' N' : Mem} {bl : Nat} (h : Rel C N bl) {r r' : Int} (c1 : FbP C C' ∧ r = C' 45 1) (c2 : HoP N (C' 45 1).toNat r' N') (hb : 1 ≤ bl) : r' = r ∧ Rel C' N' (gwB (C' 45 1).toNat (C' 45 1).toNat bl) := by
  obtain ⟨c1, er⟩ := c1
  have p0 : 0 ≤ C' 45 1 := (r_holdN h c1).2.2
  obtain ⟨l1, l2, l3, l4, l5⟩ := h.2.2.1
  have hN : NxOk (C 23 2) (C 24) := ⟨⟨l3.1, l3.2.1⟩, l3.2.2⟩
  obtain ⟨gA, gB, g0, g1, g2, g3⟩ := c2
  have fN : ∀ j : Nat, (!(j == 0) && decide (j < 31)) = true → N' j = N j := fun j hj => by
    have h1 : j ≠ 0 ∧ j < 31 := by simpa using hj
    exact gA j (by omega) h1.1 (by omega) (by omega) (by omega) (by omega)
  have f0 : ∀ i : Int, (!(i == 0) && !(i == 50)) = true → N' 0 i = N 0 i := fun i hi => by
    have h0 : i ≠ 0 := by intro z; subst z; simp at hi
    have h50 : i ≠ 50 := by intro z; subst z; simp at hi
    exact gB i h0 h50
  have fC : ∀ j : Nat, (decide (j < 39) || decide (46 < j)) = true → C' j = C j := fun j hj => c1.1 j (by simpa using hj)
  refine ⟨by rw [g1, er]; exact Int.toNat_of_nonneg p0, ⟨RlH_cg h.1 (congrFun (fC 1 rfl) 1) (fC 2 rfl) (f0 2 rfl) (fN 1 rfl), RlB_cg h.2.1 (congrFun (fC 3 rfl) 6) (fC 4 rfl) (fC 5 rfl) (fC 6 rfl) (fC 7 rfl) (f0 7 rfl) (fN 2 rfl) (fN 3 rfl) (fN 4 rfl) (fN 5 rfl), RlL_cg h.2.2.1 (congrFun (fC 23 rfl) 2) (fC 24 rfl) (fC 25 rfl) (f0 25 rfl) (fN 19 rfl) (fN 20 rfl), RlT_cg h.2.2.2.1 (congrFun (fC 29 rfl) 1) (fC 30 rfl) (f0 30 rfl) (fN 24 rfl), RlR_cg h.2.2.2.2.1 (congrFun (fC 31 rfl) 7) (fC 32 rfl) (fC 33 rfl) (fC 34 rfl) (fC 35 rfl) (fC 36 rfl) (f0 37 rfl) (f0 38 rfl) (fN 25 rfl) (fN 26 rfl) (fN 27 rfl), ?_⟩⟩
  rcases c1.2 with ⟨w1, w2⟩ | ⟨w, w1, w2, w3, w4⟩
  · have z : (C' 45 1).toNat = 0 := by rw [w1]; rfl
    rw [z] at g2
    exact ⟨[], by rw [w1]; rfl, by rw [g2]; rfl, Nat.zero_le _, Nat.zero_le _, trivial, trivial⟩
  · have e : (C' 45 1).toNat = w.length := by rw [w2]; rfl
    rw [e] at g2 g3 ⊢
    have ne : w.length ≠ 0 := by
      intro y
      cases w with
      | nil => exact w1.1
      | cons c w => rw [List.length_cons] at y; omega
    obtain ⟨w', x1, x2, x3⟩ := g3 ne
    unfold EpN StN at x1
    have ew : w = w' := by
      rcases h.2.2.2.2.1.2 with ⟨z1, z2, z3⟩ | ⟨z1, z2, z3, z4⟩
      · exfalso
        cases w with
        | nil => exact w1.1
        | cons c w =>
          obtain ⟨p, p', y1, y2⟩ := w1.1.2.2
          have y3 : 0 ≤ p ∧ p < C 31 7 := y2.1
          omega
      · have same : ∀ v, Brk (EpC C) (StC C) (C 24) v ↔ Brk (EpM (N 0 37) (N 25) (N 26) (N 27)) (StM (N 0 37) (N 25) (N 26) (N 27)) (N 19) v := fun v => by
          rw [z2]
          refine (brk_same z1.1 z1.2.1 z4 (C 24) v).trans ?_
          exact (Brk_nx (fun p d q x => x.1) hN (fun i a b => (l2 i a b).1) v).symm
        exact BrkL_one ((BrkL_iff same w).1 w1) x1
    subst ew
    exact ⟨w, w2, g2, by rw [w2] at w3; exact Int.ofNat_le.mp w3, gwB_n _ _ hb (Nat.le_add_left _ _), w4, x3⟩
set_option maxHeartbeats 4000000 in
theorem r_mend {C N C' N' : Mem} {bl : Nat} (h : Rel C N bl) {r r' : Int} (c1 : (∀ j, j ≠ 1 → j ≠ 2 → j ≠ 47 → j ≠ 48 → j ≠ 49 → j ≠ 50 → C' j = C j) ∧ MendP C (C' 1 1) (C' 2) r) (c2 : (∀ j, j ≠ 0 → j ≠ 1 → j ≠ 35 → j ≠ 36 → N' j = (th0 N) j) ∧ (∀ i, i ≠ 2 → N' 0 i = (th0 N) 0 i) ∧ MendM (th0 N) (N' 0 2) (N' 1) r') : r' = r ∧ Rel C' N' bl := by
  obtain ⟨fA, cost, k1, k2⟩ := c1
  obtain ⟨gA, gB, cost', j1, j2⟩ := c2
  obtain ⟨l1, l2, l3, l4, l5⟩ := h.2.2.1
  have e25 : (th0 N) 0 25 = C 23 2 := by rw [th0_f (by decide)]; exact l1
  have e2 : (th0 N) 0 2 = C 1 1 := by rw [th0_f (by decide)]; exact h.1.2.1
  have e1 : (th0 N) 1 = C 2 := by rw [th0_c (by decide)]; exact h.1.1
  have e19 : (th0 N) 19 = N 19 := th0_c (by decide)
  rw [e25, e2, e1, e19] at j1
  rw [e2, e1, e19] at j2
  have ag : ∀ i, 0 ≤ i → i < 8 * C 23 2 → N 19 i = C 24 i := fun i a b => (l2 i a b).1
  have hH := h.1.2.2
  have j1' := COk_nx hH.2.2 ag j1
  have ec : ∀ i s, 0 ≤ i → i ≤ C 1 1 → 0 ≤ s → s < C 23 2 → cost' i s = cost i s := fun i s a b x y => (COk_one l3 hH.2.2 k1 j1' (C 1 1 - i).toNat i s a b (by omega) x y).symm
  have wl := wlk_cg l3 hH.2.2 hH.1 ag k1 ec 24
  rw [wl, ec 0 0 (by omega) hH.1 (by omega) (by have := l3.1; omega)] at j2
  have ok := wlk_ok l3 hH.2.2 hH.1 k1 24
  generalize wlk (C 24) (C 2) cost (C 1 1) 24 = q at k2 j2 ok
  have fN : ∀ j : Nat, (!(j == 0) && !(j == 1) && !(j == 35) && !(j == 36)) = true → N' j = N j := fun j hj => by
    have h1 : ((j ≠ 0 ∧ j ≠ 1) ∧ j ≠ 35) ∧ j ≠ 36 := by simpa using hj
    rw [gA j h1.1.1.1 h1.1.1.2 h1.1.2 h1.2]; exact th0_c h1.1.1.1
  have f0 : ∀ i : Int, (!(i == 0) && !(i == 2)) = true → N' 0 i = N 0 i := fun i hi => by
    have h0 : i ≠ 0 := by intro z; subst z; simp at hi
    have h2 : i ≠ 2 := by intro z; subst z; simp at hi
    rw [gB i h2]; exact th0_f h0
  have fC : ∀ j : Nat, (!(j == 1) && !(j == 2) && (decide (j < 47) || decide (50 < j))) = true → C' j = C j := fun j hj => by
    have h1 : (j ≠ 1 ∧ j ≠ 2) ∧ (j < 47 ∨ 50 < j) := by simpa using hj
    exact fA j h1.1.1 h1.1.2 (by omega) (by omega) (by omega) (by omega)
  have res : r' = r ∧ N' 1 = C' 2 ∧ N' 0 2 = C' 1 1 ∧ HdC C' := by
    rcases k2 with ⟨a1, a2, a3, a4⟩ | ⟨a1, a2, a3, a4⟩
    · rcases j2 with ⟨b1, b2, b3, b4⟩ | ⟨b1, b2, b3, b4⟩
      · refine ⟨by rw [a2, b2], by rw [a4, b4], by rw [a3, b3], ?_⟩
        unfold HdC; rw [a3, a4]; exact hH
      · omega
    · rcases j2 with ⟨b1, b2, b3, b4⟩ | ⟨b1, b2, b3, b4⟩
      · omega
      · refine ⟨by rw [a2, b2], by rw [a4, b4], by rw [a3, b3], ?_⟩
        unfold HdC
        rw [a3, a4]
        refine ⟨ok.2.2.1.1, a1, fun i x y => ?_⟩
        simp only [if_pos (And.intro x y)]
        exact ok.2.2.2.2 i x y
  exact ⟨res.1, ⟨⟨res.2.1, res.2.2.1, res.2.2.2⟩, RlB_cg h.2.1 (congrFun (fC 3 rfl) 6) (fC 4 rfl) (fC 5 rfl) (fC 6 rfl) (fC 7 rfl) (f0 7 rfl) (fN 2 rfl) (fN 3 rfl) (fN 4 rfl) (fN 5 rfl), RlL_cg h.2.2.1 (congrFun (fC 23 rfl) 2) (fC 24 rfl) (fC 25 rfl) (f0 25 rfl) (fN 19 rfl) (fN 20 rfl), RlT_cg h.2.2.2.1 (congrFun (fC 29 rfl) 1) (fC 30 rfl) (f0 30 rfl) (fN 24 rfl), RlR_cg h.2.2.2.2.1 (congrFun (fC 31 rfl) 7) (fC 32 rfl) (fC 33 rfl) (fC 34 rfl) (fC 35 rfl) (fC 36 rfl) (f0 37 rfl) (f0 38 rfl) (fN 25 rfl) (fN 26 rfl) (fN 27 rfl), RlK_cg h.2.2.2.2.2 (congrFun (fC 45 rfl) 1) (fC 46 rfl) (f0 50 rfl) (fN 34 rfl)⟩⟩
set_option maxHeartbeats 4000000 in
theorem r_habit {C N C' N' : Mem} {bl : Nat} (h : Rel C N bl) {x0 y0 wh z r' : Int} {v : Int64} (c1 : WrP C (¬ ((0 ≤ x0 ∧ x0 < 8) ∧ (0 ≤ y0 ∧ y0 < 8) ∧ (wh = 0 ∨ wh = 1))) False (fun r M' => (∀ k, k ≠ 52 → k ≠ 53 → k ≠ 54 → M' k = C k) ∧ ((wh = 0 ∧ r = cnI (hvP (C 5) (C 6) (C 7) (C 4) x0) (C 3 6)) ∨ (wh = 1 ∧ r = cnI (hoP (C 5) (C 6) (C 7) (C 4) x0 y0) (C 3 6)))) z C' v) (c2 : (((0 ≤ x0 ∧ x0 < 8) ∧ (0 ≤ y0 ∧ y0 < 8) ∧ (wh = 0 ∨ wh = 1)) ∧ (∀ k, k ≠ 37 → k ≠ 38 → N' k = (th0 N) k) ∧ ((wh = 0 ∧ r' = hvM (th0 N) x0) ∨ (wh = 1 ∧ r' = hoM (th0 N) (8 * x0 + y0)))) ∨ (¬ ((0 ≤ x0 ∧ x0 < 8) ∧ (0 ≤ y0 ∧ y0 < 8) ∧ (wh = 0 ∨ wh = 1)) ∧ N' = up (th0 N) 0 0 1)) : N' 0 0 = z ∧ (z = 0 → v = (Int32.ofInt r').toInt64) ∧ Rel C' N' bl := by
  obtain ⟨q1, q2, q3, q4, q5, hB⟩ := h.2.1
  have e7 : (th0 N) 0 7 = C 3 6 := by rw [th0_f (by decide)]; exact q1
  have e : ∀ j : Nat, j ≠ 0 → (th0 N) j = N j := fun j hj => th0_c hj
  rcases c1 with ⟨a1, a2, a3⟩ | ⟨a1, a2, a3, a4⟩ | ⟨a1, a2, a3, r, a4, a5, a6, a7⟩
  · rcases c2 with ⟨b1, b2⟩ | ⟨b1, b2⟩
    · exact absurd b1 a2
    · subst a3; subst b2; subst a1
      exact ⟨up_same, fun z => by omega, r_0k h 1⟩
  · exact absurd a3 (fun z => z)
  · rcases c2 with ⟨b1, b2, b3⟩ | ⟨b1, b2⟩
    · have er : r' = r := by
        unfold hvM hoM hvF hoF at b3
        rw [e7, e 3 (by decide), e 4 (by decide), e 5 (by decide), e 2 (by decide), q2, q3, q4, q5, show (8 * x0 + y0) / 8 = x0 by omega, show (8 * x0 + y0) % 8 = y0 by omega] at b3
        omega
      refine ⟨by rw [a1, b2 0 (by decide) (by decide)]; exact th0_0, fun _ => by rw [a4, er], ?_⟩
      have fN : ∀ j : Nat, (!(j == 0) && !(j == 37) && !(j == 38)) = true → N' j = N j := fun j hj => by
        have h1 : (j ≠ 0 ∧ j ≠ 37) ∧ j ≠ 38 := by simpa using hj
        rw [b2 j h1.1.2 h1.2]; exact th0_c h1.1.1
      have f0 : ∀ i : Int, (!(i == 0)) = true → N' 0 i = N 0 i := fun i hi => by
        have h0 : i ≠ 0 := by intro z; subst z; simp at hi
        rw [b2 0 (by decide) (by decide)]; exact th0_f h0
      have fC : ∀ j : Nat, (decide (j < 52)) = true → C' j = C j := fun j hj => by
        have h1 : j < 52 := by simpa using hj
        exact a6 j (by omega) (by omega) (by omega)
      exact ⟨RlH_cg h.1 (congrFun (fC 1 rfl) 1) (fC 2 rfl) (f0 2 rfl) (fN 1 rfl), RlB_cg h.2.1 (congrFun (fC 3 rfl) 6) (fC 4 rfl) (fC 5 rfl) (fC 6 rfl) (fC 7 rfl) (f0 7 rfl) (fN 2 rfl) (fN 3 rfl) (fN 4 rfl) (fN 5 rfl), RlL_cg h.2.2.1 (congrFun (fC 23 rfl) 2) (fC 24 rfl) (fC 25 rfl) (f0 25 rfl) (fN 19 rfl) (fN 20 rfl), RlT_cg h.2.2.2.1 (congrFun (fC 29 rfl) 1) (fC 30 rfl) (f0 30 rfl) (fN 24 rfl), RlR_cg h.2.2.2.2.1 (congrFun (fC 31 rfl) 7) (fC 32 rfl) (fC 33 rfl) (fC 34 rfl) (fC 35 rfl) (fC 36 rfl) (f0 37 rfl) (f0 38 rfl) (fN 25 rfl) (fN 26 rfl) (fN 27 rfl), RlK_cg h.2.2.2.2.2 (congrFun (fC 45 rfl) 1) (fC 46 rfl) (f0 50 rfl) (fN 34 rfl)⟩
    · exact absurd b1 (fun z => a2 z)
set_option maxHeartbeats 4000000 in
theorem r_rank {C N C' N' : Mem} {bl : Nat} (h : Rel C N bl) {k0 wh z r' : Int} {v : Int64} (c1 : WrP C (¬ (wh = 0 ∨ wh = 1)) False (fun r M' => (∀ k, k ≠ 52 → k ≠ 53 → k ≠ 54 → M' k = C k) ∧ SvR C M' (C 3 6) ∧ ∃ q, RkP (M' 52) (M' 53) k0 q ∧ ((q = -1 ∧ r = -1) ∨ (0 ≤ q ∧ ((wh = 0 ∧ r = q / 8) ∨ (wh = 1 ∧ r = q % 8))))) z C' v) (c2 : ((wh = 0 ∨ wh = 1) ∧ (∀ k, k ≠ 37 → k ≠ 38 → N' k = (th0 N) k) ∧ ∃ q, RkP (hvM (th0 N)) (hoM (th0 N)) k0 q ∧ ((q = -1 ∧ r' = -1) ∨ (0 ≤ q ∧ ((wh = 0 ∧ r' = q / 8) ∨ (wh = 1 ∧ r' = q % 8))))) ∨ (¬ (wh = 0 ∨ wh = 1) ∧ N' = up (th0 N) 0 0 1)) : N' 0 0 = z ∧ (z = 0 → v = (Int32.ofInt r').toInt64) ∧ Rel C' N' bl := by
  obtain ⟨q1, q2, q3, q4, q5, hB⟩ := h.2.1
  have e7 : (th0 N) 0 7 = C 3 6 := by rw [th0_f (by decide)]; exact q1
  have e : ∀ j : Nat, j ≠ 0 → (th0 N) j = N j := fun j hj => th0_c hj
  rcases c1 with ⟨a1, a2, a3⟩ | ⟨a1, a2, a3, a4⟩ | ⟨a1, a2, a3, r, a4, a5, a6, a7, q, a8, a9⟩
  · rcases c2 with ⟨b1, b2⟩ | ⟨b1, b2⟩
    · exact absurd b1 a2
    · subst a3; subst b2; subst a1
      exact ⟨up_same, fun z => by omega, r_0k h 1⟩
  · exact absurd a3 (fun z => z)
  · rcases c2 with ⟨b1, b2, q', b3, b4⟩ | ⟨b1, b2⟩
    · have eq : q' = q := by
        refine RkP_one (fun x xa xb => ?_) (fun x xa xb => ?_) a8 b3
        · show cnI (hvP ((th0 N) 3) ((th0 N) 4) ((th0 N) 5) ((th0 N) 2) x) ((th0 N) 0 7) = C' 52 x
          rw [e7, e 3 (by decide), e 4 (by decide), e 5 (by decide), e 2 (by decide), q2, q3, q4, q5]
          exact (a7.1 x xa xb).symm
        · show cnI (hoP ((th0 N) 3) ((th0 N) 4) ((th0 N) 5) ((th0 N) 2) (x / 8) (x % 8)) ((th0 N) 0 7) = C' 53 x
          rw [e7, e 3 (by decide), e 4 (by decide), e 5 (by decide), e 2 (by decide), q2, q3, q4, q5]
          have z := a7.2 (x / 8) (x % 8) (by omega) (by omega) (by omega) (by omega)
          rw [show 8 * (x / 8) + x % 8 = x by omega] at z
          exact z.symm
      have er : r' = r := by
        rw [eq] at b4
        clear a8 b3 a7
        omega
      refine ⟨by rw [a1, b2 0 (by decide) (by decide)]; exact th0_0, fun _ => by rw [a4, er], ?_⟩
      have fN : ∀ j : Nat, (!(j == 0) && !(j == 37) && !(j == 38)) = true → N' j = N j := fun j hj => by
        have h1 : (j ≠ 0 ∧ j ≠ 37) ∧ j ≠ 38 := by simpa using hj
        rw [b2 j h1.1.2 h1.2]; exact th0_c h1.1.1
      have f0 : ∀ i : Int, (!(i == 0)) = true → N' 0 i = N 0 i := fun i hi => by
        have h0 : i ≠ 0 := by intro z; subst z; simp at hi
        rw [b2 0 (by decide) (by decide)]; exact th0_f h0
      have fC : ∀ j : Nat, (decide (j < 52)) = true → C' j = C j := fun j hj => by
        have h1 : j < 52 := by simpa using hj
        exact a6 j (by omega) (by omega) (by omega)
      exact ⟨RlH_cg h.1 (congrFun (fC 1 rfl) 1) (fC 2 rfl) (f0 2 rfl) (fN 1 rfl), RlB_cg h.2.1 (congrFun (fC 3 rfl) 6) (fC 4 rfl) (fC 5 rfl) (fC 6 rfl) (fC 7 rfl) (f0 7 rfl) (fN 2 rfl) (fN 3 rfl) (fN 4 rfl) (fN 5 rfl), RlL_cg h.2.2.1 (congrFun (fC 23 rfl) 2) (fC 24 rfl) (fC 25 rfl) (f0 25 rfl) (fN 19 rfl) (fN 20 rfl), RlT_cg h.2.2.2.1 (congrFun (fC 29 rfl) 1) (fC 30 rfl) (f0 30 rfl) (fN 24 rfl), RlR_cg h.2.2.2.2.1 (congrFun (fC 31 rfl) 7) (fC 32 rfl) (fC 33 rfl) (fC 34 rfl) (fC 35 rfl) (fC 36 rfl) (f0 37 rfl) (f0 38 rfl) (fN 25 rfl) (fN 26 rfl) (fN 27 rfl), RlK_cg h.2.2.2.2.2 (congrFun (fC 45 rfl) 1) (fC 46 rfl) (f0 50 rfl) (fN 34 rfl)⟩
    · exact absurd b1 (fun z => a2 z)
set_option maxHeartbeats 4000000 in
theorem r_count {C N C' N' : Mem} {bl : Nat} (h : Rel C N bl) {wh r r' : Int} (c1 : (wh = 0 ∧ C = C' ∧ r = cntI (C 7) (C 3 6)) ∨ (wh = 1 ∧ C = C' ∧ r = C 3 6) ∨ (wh = 2 ∧ C = C' ∧ r = C 23 2) ∨ (wh = 3 ∧ C = C' ∧ r = cnI (fun i => ¬ C 24 i = -1) 240) ∨ (wh = 4 ∧ C = C' ∧ r = C 1 1) ∨ (wh = 5 ∧ C = C' ∧ r = C 29 1) ∨ (wh = 6 ∧ GrP C C' ∧ r = C' 9 6) ∨ (¬ (0 ≤ wh ∧ wh ≤ 6) ∧ C = C' ∧ r = -1)) (c2 : (wh = 0 ∧ (th0 N) = N' ∧ r' = cntI ((th0 N) 5) ((th0 N) 0 7)) ∨ (wh = 1 ∧ (th0 N) = N' ∧ r' = (th0 N) 0 7) ∨ (wh = 2 ∧ (th0 N) = N' ∧ r' = (th0 N) 0 25) ∨ (wh = 3 ∧ (th0 N) = N' ∧ r' = cnI (fun i => 0 ≤ (th0 N) 19 i) (8 * (th0 N) 0 25)) ∨ (wh = 4 ∧ (th0 N) = N' ∧ r' = (th0 N) 0 2) ∨ (wh = 5 ∧ (th0 N) = N' ∧ r' = (th0 N) 0 30) ∨ (wh = 6 ∧ TrP (th0 N) N' ∧ r' = N' 0 13) ∨ (¬ (0 ≤ wh ∧ wh ≤ 6) ∧ (th0 N) = N' ∧ r' = -1)) : r' = r ∧ Rel C' N' bl := by
  have e : ∀ i : Int, i ≠ 0 → (th0 N) 0 i = N 0 i := fun i hi => th0_f hi
  by_cases w0 : wh = 0
  · have a := c1.resolve_right (by omega)
    have b := c2.resolve_right (by omega)
    obtain ⟨-, rfl, a2⟩ := a
    obtain ⟨-, rfl, b2⟩ := b
    exact ⟨by rw [a2, b2, e 7 (by decide), th0_c (by decide), h.2.1.1, h.2.1.2.2.2.2.1], r_0 h⟩
  have c1 := c1.resolve_left (fun z => w0 z.1)
  have c2 := c2.resolve_left (fun z => w0 z.1)
  by_cases w1 : wh = 1
  · have a := c1.resolve_right (by omega)
    have b := c2.resolve_right (by omega)
    obtain ⟨-, rfl, a2⟩ := a
    obtain ⟨-, rfl, b2⟩ := b
    exact ⟨by rw [a2, b2, e 7 (by decide), h.2.1.1], r_0 h⟩
  have c1 := c1.resolve_left (fun z => w1 z.1)
  have c2 := c2.resolve_left (fun z => w1 z.1)
  by_cases w2 : wh = 2
  · have a := c1.resolve_right (by omega)
    have b := c2.resolve_right (by omega)
    obtain ⟨-, rfl, a2⟩ := a
    obtain ⟨-, rfl, b2⟩ := b
    exact ⟨by rw [a2, b2, e 25 (by decide), h.2.2.1.1], r_0 h⟩
  have c1 := c1.resolve_left (fun z => w2 z.1)
  have c2 := c2.resolve_left (fun z => w2 z.1)
  by_cases w3 : wh = 3
  · have a := c1.resolve_right (by omega)
    have b := c2.resolve_right (by omega)
    obtain ⟨-, rfl, a2⟩ := a
    obtain ⟨-, rfl, b2⟩ := b
    exact ⟨r_steps h a2 b2, r_0 h⟩
  have c1 := c1.resolve_left (fun z => w3 z.1)
  have c2 := c2.resolve_left (fun z => w3 z.1)
  by_cases w4 : wh = 4
  · have a := c1.resolve_right (by omega)
    have b := c2.resolve_right (by omega)
    obtain ⟨-, rfl, a2⟩ := a
    obtain ⟨-, rfl, b2⟩ := b
    exact ⟨by rw [a2, b2, e 2 (by decide), h.1.2.1], r_0 h⟩
  have c1 := c1.resolve_left (fun z => w4 z.1)
  have c2 := c2.resolve_left (fun z => w4 z.1)
  by_cases w5 : wh = 5
  · have a := c1.resolve_right (by omega)
    have b := c2.resolve_right (by omega)
    obtain ⟨-, rfl, a2⟩ := a
    obtain ⟨-, rfl, b2⟩ := b
    exact ⟨by rw [a2, b2, e 30 (by decide), h.2.2.2.1.1], r_0 h⟩
  have c1 := c1.resolve_left (fun z => w5 z.1)
  have c2 := c2.resolve_left (fun z => w5 z.1)
  by_cases w6 : wh = 6
  · have a := c1.resolve_right (by omega)
    have b := c2.resolve_right (by omega)
    exact r_tree h a.2 b.2
  have c1 := c1.resolve_left (fun z => w6 z.1)
  have c2 := c2.resolve_left (fun z => w6 z.1)
  obtain ⟨-, rfl, a2⟩ := c1
  obtain ⟨-, rfl, b2⟩ := c2
  exact ⟨by rw [a2, b2], r_0 h⟩
