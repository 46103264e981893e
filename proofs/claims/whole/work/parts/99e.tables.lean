/-! UsageDesk$Routine: replaceBy, closeBracket -/
/-- x starts an S of the bracket that is opened at p -/
def AS (tx : Int → Int) (p x : Int) : Prop := x = p ∨ (tx x = 124 ∧ dep tx x = dep tx p + 1 ∧ lo tx (dep tx p) x = p ∧ 0 ≤ x)
/-- the tables, as far as the text was read: up to i -/
def RA (tx : Int → Int) (n i : Int) (sE pt bh rp : Int → Int) : Prop :=
  (∀ y, 0 ≤ y → y < i → (tx y = 124 ∨ tx y = 41) → sE (ls tx (dep tx y - 1) y) = y) ∧
  ∀ r, 0 ≤ r → r < i → tx r = 41 → pt r = opn tx r ∧ (∀ x, AS tx (opn tx r) x → x < r → pt x = r) ∧ ((rp r = 1 ∧ ∃ st, stA tx n r st ∧ bh r = st + 1) ∨ (rp r = 0 ∧ bh r = r + 1 ∧ ∀ st, ¬ stA tx n r st))
section RAS
variable {tx : Int → Int} {n : Int}
/-- the S behind the latest start ends at y alone -/
theorem ls_inj (hG : GT tx n) {y z : Int} (hy : 0 ≤ y ∧ y < z ∧ z < n) (ty : tx y = 124 ∨ tx y = 41) (tz : tx z = 124 ∨ tx z = 41) : ls tx (dep tx y - 1) y ≠ ls tx (dep tx z - 1) z := by
  intro e
  have gy := hG.2.2 y hy.1 (by omega)
  have gz := hG.2.2 z (by omega) hy.2.2
  have dy : 0 < dep tx y := by omega
  have dz : 0 < dep tx z := by omega
  obtain ⟨⟨a1, a2, a3⟩, a4⟩ := ls_ok (tx := tx) (p := y) (d := dep tx y - 1) hy.1 (by omega) (by omega)
  obtain ⟨⟨b1, b2, b3⟩, b4⟩ := ls_ok (tx := tx) (p := z) (d := dep tx z - 1) (by omega) (by omega) (by omega)
  have c1 := b4 y (by omega) (by omega)
  have c2 := c1.2 hy.2.1
  rw [e] at a3
  have de : dep tx y = dep tx z := by omega
  rw [show dep tx z - 1 + 1 = dep tx y by omega] at c2
  rcases ty with ty | ty
  · exact c2.1 ⟨ty, rfl⟩
  · exact c2.2 ⟨ty, rfl⟩
theorem opn_ok (hG : GT tx n) {r : Int} (hr : 0 ≤ r ∧ r < n) (tr : tx r = 124 ∨ tx r = 41) : (0 ≤ opn tx r ∧ opn tx r < r ∧ tx (opn tx r) = 40 ∧ dep tx (opn tx r) = dep tx r - 1) ∧ ∀ j, opn tx r < j → j ≤ r → dep tx r - 1 < dep tx j := by
  have g := hG.2.2 r hr.1 hr.2
  exact lo_ok hr.1 (by omega) (by omega)
/-- the starts of a bracket's S, from its last one back -/
theorem as_ls (hG : GT tx n) {r : Int} (hr : 0 ≤ r ∧ r < n) (tr : tx r = 124 ∨ tx r = 41) : AS tx (opn tx r) (ls tx (dep tx r - 1) r) := by
  have g := hG.2.2 r hr.1 hr.2
  obtain ⟨⟨o1, o2, o3, o4⟩, o5⟩ := opn_ok hG hr tr
  have a := ls_ok (tx := tx) (p := r) (d := dep tx r - 1) hr.1 (by omega) (by omega)
  rcases ls_lo (tx := tx) (p := r) (d := dep tx r - 1) hr.1 (by omega) (by omega) with z | z
  · exact Or.inl z
  · exact Or.inr ⟨z.1, by rw [o4]; exact z.2.1, by rw [o4]; exact z.2.2, a.1.1⟩
theorem as_le (hG : GT tx n) {r x : Int} (hr : 0 ≤ r ∧ r < n) (tr : tx r = 124 ∨ tx r = 41) (hx : AS tx (opn tx r) x) (hlt : x < r) : x ≤ ls tx (dep tx r - 1) r := by
  have g := hG.2.2 r hr.1 hr.2
  obtain ⟨⟨o1, o2, o3, o4⟩, o5⟩ := opn_ok hG hr tr
  obtain ⟨⟨a1, a2, a3⟩, a4⟩ := ls_ok (tx := tx) (p := r) (d := dep tx r - 1) hr.1 (by omega) (by omega)
  rcases hx with z | z
  · subst z
    rcases ls_lo (tx := tx) (p := r) (d := dep tx r - 1) hr.1 (by omega) (by omega) with w | w
    · unfold opn; omega
    · have q := hG.2.2 (ls tx (dep tx r - 1) r) a1 (by omega)
      have := lo_ok (tx := tx) (p := ls tx (dep tx r - 1) r) (d := dep tx r - 1) a1 (by omega) (by omega)
      rw [w.2.2] at this
      unfold opn; omega
  · by_cases c : x ≤ ls tx (dep tx r - 1) r
    · exact c
    · exfalso
      have := (a4 x (by omega) (by omega)).2 hlt
      exact this.1 ⟨z.1, by rw [z.2.1, o4]⟩
theorem opn_as (hG : GT tx n) {r x : Int} (hr : 0 ≤ r ∧ r < n) (tr : tx r = 124 ∨ tx r = 41) (hx : AS tx (opn tx r) x) (hn : tx x = 124) : opn tx x = opn tx r := by
  obtain ⟨⟨o1, o2, o3, o4⟩, o5⟩ := opn_ok hG hr tr
  rcases hx with z | z
  · rw [z] at hn; omega
  · have : dep tx x - 1 = dep tx (opn tx r) := by rw [z.2.1]; omega
    show lo tx (dep tx x - 1) x = opn tx r
    rw [this]; exact z.2.2.1
/-- the chain of ends reaches every start of the bracket -/
theorem chn_all (hG : GT tx n) {sE : Int → Int} {r : Int} (hr : 0 ≤ r ∧ r < n) (tr : tx r = 124 ∨ tx r = 41) (hE : ∀ y, 0 ≤ y → y ≤ r → (tx y = 124 ∨ tx y = 41) → sE (ls tx (dep tx y - 1) y) = y) : ∀ (N : Nat) (x : Int), x < N → x ≤ r → (AS tx (opn tx r) x ∨ x = r) → ∃ k : Nat, chn sE (opn tx r) k = x ∧ ∀ j : Nat, j < k → chn sE (opn tx r) j < x ∧ AS tx (opn tx r) (chn sE (opn tx r) j)
  | 0, x, hN, hxr, hx => by
    exfalso
    have o := (opn_ok hG hr tr).1
    rcases hx with (z | z) | z
    · omega
    · have := z.2.2.2; omega
    · omega
  | N + 1, x, hN, hxr, hx => by
    by_cases e : x = opn tx r
    · exact ⟨0, e.symm, fun j hj => by omega⟩
    · have tx1 : tx x = 124 ∨ tx x = 41 := by
        rcases hx with (z | z) | z
        · exact absurd z e
        · exact Or.inl z.1
        · rw [z]; exact tr
      have x0 : 0 ≤ x := by
        rcases hx with (z | z) | z
        · exact absurd z e
        · exact z.2.2.2
        · omega
      have ox : opn tx x = opn tx r := by
        rcases hx with z | z
        · rcases tx1 with w | w
          · exact opn_as hG hr tr z w
          · rcases z with z | z
            · exact absurd z e
            · omega
        · rw [z]
      have gx := hG.2.2 x x0 (by omega)
      obtain ⟨⟨a1, a2, a3⟩, a4⟩ := ls_ok (tx := tx) (p := x) (d := dep tx x - 1) x0 (by omega) (by omega)
      have as1 := as_ls hG (r := x) ⟨x0, by omega⟩ tx1
      rw [ox] at as1
      obtain ⟨k, k1, k2⟩ := chn_all hG hr tr hE N (ls tx (dep tx x - 1) x) (by omega) (by omega) (Or.inl as1)
      refine ⟨k + 1, ?_, fun j hj => ?_⟩
      · show sE (chn sE (opn tx r) k) = x
        rw [k1]; exact hE x x0 hxr tx1
      · by_cases z : j = k
        · rw [z, k1]; exact ⟨a2, as1⟩
        · have := k2 j (by omega); exact ⟨by omega, this.2⟩
/-- and nothing else ahead of the bracket's end -/
theorem chn_up2 {sE : Int → Int} {p : Int} {K0 : Nat} {r : Int} (h : chn sE p K0 = r) (hl : ∀ j : Nat, j < K0 → chn sE p j < r) : ∀ k : Nat, (∀ j : Nat, j ≤ k → chn sE p j < r) → k < K0 := fun k hk => by
  by_cases c : k < K0
  · exact c
  · exfalso
    have := hk K0 (by omega)
    omega
/-- the tables serve the search -/
theorem RA_tx (hG : GT tx n) {sE pt bh rp : Int → Int} (h : RA tx n n sE pt bh rp) (hb : ∀ p, 0 ≤ p → p < 200 → 0 ≤ tx p ∧ tx p < 256) : TxO n tx sE pt bh rp := by
  have cls : ∀ p, 0 ≤ p → p < n → tx p = 40 ∨ tx p = 124 → ∃ r, p < r ∧ r < n ∧ tx r = 41 ∧ AS tx (opn tx r) p := by
    intro p h0 h1 tp
    have gp := hG.2.2 p h0 h1
    -- the first place behind p whose depth is that outside the bracket
    have ex : ∀ (N : Nat) (j : Int), j = n - N → p < j → j ≤ n → (∀ x, p < x → x ≤ j → (if tx p = 40 then dep tx p + 1 else dep tx p) ≤ dep tx x) → ∃ r, p < r ∧ r < n ∧ tx r = 41 ∧ dep tx r = (if tx p = 40 then dep tx p + 1 else dep tx p) ∧ ∀ x, p < x → x ≤ r → (if tx p = 40 then dep tx p + 1 else dep tx p) ≤ dep tx x := by
      intro N
      induction N with
      | zero =>
        intro j e hp hj hd
        have := hd j hp (Int.le_refl j)
        rw [e] at this
        rw [show n - ((0 : Nat) : Int) = n by omega, hG.2.1] at this
        split at this <;> omega
      | succ N ih =>
        intro j e hp hj hd
        have dj := hd j hp (Int.le_refl j)
        have ds := dep_s (tx := tx) (p := j) (by omega)
        by_cases c : tx j = 41 ∧ dep tx j = (if tx p = 40 then dep tx p + 1 else dep tx p)
        · exact ⟨j, hp, by omega, c.1, c.2, hd⟩
        · refine ih (j + 1) (by omega) (by omega) (by omega) (fun x a b => ?_)
          by_cases z : x = j + 1
          · rw [z, ds]
            by_cases y : tx j = 40
            · rw [if_pos y]; omega
            · rw [if_neg y]
              by_cases w : tx j = 41
              · rw [if_pos w]; omega
              · rw [if_neg w]; omega
          · exact hd x a (by omega)
    have dp := dep_s (tx := tx) h0
    have d1 : dep tx (p + 1) = (if tx p = 40 then dep tx p + 1 else dep tx p) := by
      rw [dp]
      rcases tp with tp | tp
      · rw [if_pos tp, if_pos tp]
      · rw [if_neg (by omega), if_neg (by omega), if_neg (by omega)]; omega
    obtain ⟨r, r1, r2, r3, r4, r5⟩ := ex (n - (p + 1)).toNat (p + 1) (by omega) (by omega) (by omega) (fun x a b => by rw [show x = p + 1 by omega, d1]; exact Int.le_refl _)
    refine ⟨r, r1, r2, r3, ?_⟩
    rcases tp with tp | tp
    · left
      rw [if_pos tp] at r4 r5
      show p = lo tx (dep tx r - 1) r
      have := lo_eq (tx := tx) (d := dep tx p) (i := p + 1) (j := r) (by omega) (by omega) (fun x a b => by have := r5 x (by omega) (by omega); omega)
      rw [lo_s h0, if_pos ⟨tp, rfl⟩] at this
      rw [show dep tx r - 1 = dep tx p by omega]; exact this.symm
    · right
      rw [if_neg (by omega)] at r4 r5
      have hr := opn_ok hG (r := r) ⟨by omega, r2⟩ (Or.inr r3)
      have hq := opn_ok hG (r := p) ⟨h0, h1⟩ (Or.inl tp)
      have e := lo_eq (tx := tx) (d := dep tx r - 1) (i := p) (j := r) h0 (by omega) (fun x a b => by by_cases z : x = p; (rw [z]; omega); have := r5 x (by omega) (by omega); omega)
      refine ⟨tp, by rw [hr.1.2.2.2]; omega, ?_, h0⟩
      rw [hr.1.2.2.2]; exact e.symm
  refine ⟨hG.1, hb, fun p h0 h1 => ⟨fun e => ?_, fun e => ?_, fun e => ?_⟩⟩
  · obtain ⟨r, r1, r2, r3, r4⟩ := cls p h0 h1 (Or.inl e)
    obtain ⟨q1, q2, q3⟩ := h.2 r (by omega) r2 r3
    have op : opn tx r = p := by
      rcases r4 with z | z
      · exact z.symm
      · omega
    have pr := q2 p r4 r1
    rw [pr]
    obtain ⟨K0, k1, k2⟩ := chn_all hG ⟨by omega, r2⟩ (Or.inr r3) (fun y a b c => h.1 y a (by omega) c) (r.toNat + 1) r (by omega) (Int.le_refl r) (Or.inr rfl)
    rw [op] at k1 k2
    refine ⟨⟨r1, r2⟩, by omega, ?_, fun k hk => ?_⟩
    · rcases q3 with ⟨z, st, z1, z2⟩ | z
      · have := z1.2.1; have := z1.1; omega
      · omega
    · have kl := chn_up2 k1 (fun j hj => (k2 j hj).1) k hk
      have ask := (k2 k kl).2
      have kr := (k2 k kl).1
      -- the next of the chain
      obtain ⟨K1, m1, m2⟩ := chn_all hG (sE := sE) ⟨by omega, r2⟩ (Or.inr r3) (fun y a b c => h.1 y a (by omega) c) (r.toNat + 1) r (by omega) (Int.le_refl r) (Or.inr rfl)
      have key : ∀ (N : Nat) (y : Int), y < N → chn sE p k < y → y ≤ r → (AS tx (opn tx r) y ∨ y = r) → chn sE p k < sE (chn sE p k) := by
        intro N
        induction N with
        | zero => intro y a b c d; exfalso; have : p + (k : Int) ≤ chn sE p k ∨ True := Or.inr trivial; rcases d with (d | d) | d <;> omega
        | succ N ih =>
          intro y a b c d
          have ty : tx y = 124 ∨ tx y = 41 := by
            rcases d with (d | d) | d
            · exfalso
              rw [op] at d
              have : p ≤ chn sE p k := by
                rcases ask with z | z
                · omega
                · have o := lo_ok (tx := tx) (p := chn sE p k) (d := dep tx p) z.2.2.2 (hG.2.2 p h0 h1).2.1 (by rw [z.2.1]; omega)
                  rw [z.2.2.1] at o; omega
              omega
            · exact Or.inl d.1
            · rw [d]; exact Or.inr r3
          have y0 : 0 ≤ y := by
            rcases d with (d | d) | d
            · rw [d, op]; exact h0
            · exact d.2.2.2
            · omega
          have oy : opn tx y = p := by
            rcases d with d | d
            · rcases ty with w | w
              · rw [opn_as hG ⟨by omega, r2⟩ (Or.inr r3) d w]; exact op
              · rcases d with d | d
                · rw [op] at d; rw [d] at w; omega
                · omega
            · rw [d]; exact op
          have le := as_le hG (r := y) (x := chn sE p k) ⟨y0, by omega⟩ ty (by rw [oy]; exact ask) b
          by_cases z : chn sE p k = ls tx (dep tx y - 1) y
          · rw [z, h.1 y y0 (by omega) ty, ← z]; exact b
          · have l1 := ls_ok (tx := tx) (p := y) (d := dep tx y - 1) y0 (by have := hG.2.2 y y0 (by omega); omega) (by omega)
            have as2 := as_ls hG (r := y) ⟨y0, by omega⟩ ty
            rw [oy] at as2
            exact ih (ls tx (dep tx y - 1) y) (by omega) (by omega) (by omega) (Or.inl (by rw [op]; exact as2))
      exact key (r.toNat + 1) r (by omega) kr (Int.le_refl r) (Or.inr rfl)
  · obtain ⟨r, r1, r2, r3, r4⟩ := cls p h0 h1 (Or.inr e)
    obtain ⟨q1, q2, q3⟩ := h.2 r (by omega) r2 r3
    rw [q2 p r4 r1]; omega
  · obtain ⟨q1, q2, q3⟩ := h.2 p h0 h1 e
    have o := (opn_ok hG ⟨h0, h1⟩ (Or.inr e)).1
    rcases q3 with ⟨z, st, z1, z2⟩ | z
    · have := z1.2.1; have := z1.1; omega
    · omega
end RAS
