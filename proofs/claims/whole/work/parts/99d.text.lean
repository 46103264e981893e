/-! TEXTS: depth, whether a star may stand, the bracket of a depth that is open, the latest start of an S, states and steps that were made, the state here -/
def depN (tx : Int → Int) : Nat → Int
  | 0 => 0
  | i + 1 => depN tx i + (if tx i = 40 then 1 else if tx i = 41 then -1 else 0)
def staN (tx : Int → Int) : Nat → Int
  | 0 => 0
  | i + 1 => if tx i = 32 then staN tx i else if tx i = 41 then 1 else 0
def loN (tx : Int → Int) (d : Int) : Nat → Int
  | 0 => -1
  | i + 1 => if tx i = 40 ∧ depN tx i = d then i else loN tx d i
def lsN (tx : Int → Int) (d : Int) : Nat → Int
  | 0 => -1
  | i + 1 => if (tx i = 40 ∧ depN tx i = d) ∨ (tx i = 124 ∧ depN tx i = d + 1) then i else lsN tx d i
def cnN (tx : Int → Int) : Nat → Int
  | 0 => 1
  | i + 1 => cnN tx i + (if tx i = 40 then 2 else if 97 ≤ tx i ∧ tx i ≤ 104 then 1 else 0)
def eeN (tx : Int → Int) : Nat → Int
  | 0 => 0
  | i + 1 => eeN tx i + (if tx i = 42 then 2 else if tx i = 32 then 0 else 1)
def dep (tx : Int → Int) (p : Int) : Int := depN tx p.toNat
def sta (tx : Int → Int) (p : Int) : Int := staN tx p.toNat
def lo (tx : Int → Int) (d p : Int) : Int := loN tx d p.toNat
def ls (tx : Int → Int) (d p : Int) : Int := lsN tx d p.toNat
def cnt (tx : Int → Int) (p : Int) : Int := cnN tx p.toNat
def ee (tx : Int → Int) (p : Int) : Int := eeN tx p.toNat
/-- the bracket that a sign at p belongs to -/
def opn (tx : Int → Int) (p : Int) : Int := lo tx (dep tx p - 1) p
def fiN (tx : Int → Int) : Nat → Int
  | 0 => 0
  | i + 1 => if tx i = 40 then cnt tx i else if 97 ≤ tx i ∧ tx i ≤ 104 then cnt tx i else if tx i = 124 then cnt tx (opn tx i) else if tx i = 41 then cnt tx (opn tx i) + 1 else fiN tx i
def fi (tx : Int → Int) (p : Int) : Int := fiN tx p.toNat
section TEXT
variable {tx : Int → Int} {p : Int}
theorem tn_s (h : 0 ≤ p) : (p + 1).toNat = p.toNat + 1 ∧ ((p.toNat : Nat) : Int) = p := by omega
theorem dep_s (h : 0 ≤ p) : dep tx (p + 1) = dep tx p + (if tx p = 40 then 1 else if tx p = 41 then -1 else 0) := by
  unfold dep; rw [(tn_s h).1, depN, (tn_s h).2]
theorem sta_s (h : 0 ≤ p) : sta tx (p + 1) = if tx p = 32 then sta tx p else if tx p = 41 then 1 else 0 := by
  unfold sta; rw [(tn_s h).1, staN, (tn_s h).2]
theorem lo_s (h : 0 ≤ p) (d : Int) : lo tx d (p + 1) = if tx p = 40 ∧ dep tx p = d then p else lo tx d p := by
  unfold lo dep; rw [(tn_s h).1, loN, (tn_s h).2]
theorem ls_s (h : 0 ≤ p) (d : Int) : ls tx d (p + 1) = if (tx p = 40 ∧ dep tx p = d) ∨ (tx p = 124 ∧ dep tx p = d + 1) then p else ls tx d p := by
  unfold ls dep; rw [(tn_s h).1, lsN, (tn_s h).2]
theorem cnt_s (h : 0 ≤ p) : cnt tx (p + 1) = cnt tx p + (if tx p = 40 then 2 else if 97 ≤ tx p ∧ tx p ≤ 104 then 1 else 0) := by
  unfold cnt; rw [(tn_s h).1, cnN, (tn_s h).2]
theorem ee_s (h : 0 ≤ p) : ee tx (p + 1) = ee tx p + (if tx p = 42 then 2 else if tx p = 32 then 0 else 1) := by
  unfold ee; rw [(tn_s h).1, eeN, (tn_s h).2]
theorem fi_s (h : 0 ≤ p) : fi tx (p + 1) = if tx p = 40 then cnt tx p else if 97 ≤ tx p ∧ tx p ≤ 104 then cnt tx p else if tx p = 124 then cnt tx (opn tx p) else if tx p = 41 then cnt tx (opn tx p) + 1 else fi tx p := by
  unfold fi; rw [(tn_s h).1, fiN, (tn_s h).2]
theorem cnt_mono (h : 0 ≤ p) : ∀ k : Nat, cnt tx p ≤ cnt tx (p + k)
  | 0 => by rw [show p + ((0 : Nat) : Int) = p by omega]; omega
  | k + 1 => by
    have ih := cnt_mono h k
    rw [show p + ((k + 1 : Nat) : Int) = p + k + 1 by omega, cnt_s (by omega)]
    split <;> (try split) <;> omega
theorem cnt_le {q : Int} (h : 0 ≤ p) (hq : p ≤ q) : cnt tx p ≤ cnt tx q := by
  have := cnt_mono (tx := tx) h (q - p).toNat
  rw [show p + ((q - p).toNat : Int) = q by omega] at this; exact this
theorem cnt_b (h : 0 ≤ p) : 1 ≤ cnt tx p ∧ cnt tx p ≤ 1 + 2 * p := by
  obtain ⟨k, rfl⟩ : ∃ k : Nat, p = k := ⟨p.toNat, by omega⟩
  clear h
  induction k with
  | zero => exact ⟨Int.le_refl _, by show (1 : Int) ≤ 1 + 2 * ((0 : Nat) : Int); omega⟩
  | succ k ih =>
    rw [show ((k + 1 : Nat) : Int) = (k : Int) + 1 by omega, cnt_s (by omega)]
    split <;> (try split) <;> omega
theorem ee_mono (h : 0 ≤ p) : ∀ k : Nat, ee tx p ≤ ee tx (p + k)
  | 0 => by rw [show p + ((0 : Nat) : Int) = p by omega]; omega
  | k + 1 => by
    have ih := ee_mono h k
    rw [show p + ((k + 1 : Nat) : Int) = p + k + 1 by omega, ee_s (by omega)]
    split <;> (try split) <;> omega
theorem ee_le {q : Int} (h : 0 ≤ p) (hq : p ≤ q) : ee tx p ≤ ee tx q := by
  have := ee_mono (tx := tx) h (q - p).toNat
  rw [show p + ((q - p).toNat : Int) = q by omega] at this; exact this
theorem ee_b (h : 0 ≤ p) : 0 ≤ ee tx p ∧ ee tx p ≤ 2 * p := by
  obtain ⟨k, rfl⟩ : ∃ k : Nat, p = k := ⟨p.toNat, by omega⟩
  clear h
  induction k with
  | zero => exact ⟨Int.le_refl _, by show (0 : Int) ≤ 2 * ((0 : Nat) : Int); omega⟩
  | succ k ih =>
    rw [show ((k + 1 : Nat) : Int) = (k : Int) + 1 by omega, ee_s (by omega)]
    split <;> (try split) <;> omega
/-- what is open at p: the bracket of depth d -/
theorem lo_in {d : Int} : ∀ k : Nat, 0 ≤ d → d < dep tx k → (0 ≤ lo tx d k ∧ lo tx d k < k ∧ tx (lo tx d k) = 40 ∧ dep tx (lo tx d k) = d) ∧ ∀ j, lo tx d k < j → j ≤ k → d < dep tx j
  | 0, h0, h => by
    have : dep tx ((0 : Nat) : Int) = 0 := rfl
    omega
  | k + 1, h0, h => by
    rw [show ((k + 1 : Nat) : Int) = (k : Int) + 1 by omega] at h ⊢
    have ds := dep_s (tx := tx) (p := k) (by omega)
    rw [lo_s (by omega)]
    by_cases c : tx k = 40 ∧ dep tx k = d
    · rw [if_pos c]
      refine ⟨⟨by omega, by omega, c.1, c.2⟩, fun j a b => ?_⟩
      rw [show j = (k : Int) + 1 by omega]; exact h
    · rw [if_neg c]
      have hk : d < dep tx k := by
        by_cases e : tx k = 40
        · rw [if_pos e] at ds; omega
        · rw [if_neg e] at ds; split at ds <;> omega
      obtain ⟨⟨a1, a2, a3, a4⟩, a5⟩ := lo_in k h0 hk
      refine ⟨⟨a1, by omega, a3, a4⟩, fun j a b => ?_⟩
      by_cases z : j = (k : Int) + 1
      · rw [z]; exact h
      · exact a5 j a (by omega)
theorem lo_ok {d : Int} (h : 0 ≤ p) (h0 : 0 ≤ d) (hd : d < dep tx p) : (0 ≤ lo tx d p ∧ lo tx d p < p ∧ tx (lo tx d p) = 40 ∧ dep tx (lo tx d p) = d) ∧ ∀ j, lo tx d p < j → j ≤ p → d < dep tx j := by
  have := lo_in (tx := tx) (d := d) p.toNat h0
  rw [(tn_s h).2] at this
  exact this hd
/-- between two places with no sign of depth d or below the open bracket stays -/
theorem lo_st {d i : Int} (hi : 0 ≤ i) : ∀ k : Nat, (∀ j, i ≤ j → j < i + k → d < dep tx j) → lo tx d (i + k) = lo tx d i
  | 0, _ => by rw [show i + ((0 : Nat) : Int) = i by omega]
  | k + 1, h => by
    have ih := lo_st hi k (fun j a b => h j a (by omega))
    have := h (i + k) (by omega) (by omega)
    rw [show i + ((k + 1 : Nat) : Int) = i + k + 1 by omega, lo_s (by omega), if_neg (by omega)]
    exact ih
theorem lo_eq {d i j : Int} (hi : 0 ≤ i) (hj : i ≤ j) (h : ∀ x, i ≤ x → x < j → d < dep tx x) : lo tx d j = lo tx d i := by
  have := lo_st (tx := tx) (d := d) hi (j - i).toNat (fun x a b => h x a (by omega))
  rw [show i + ((j - i).toNat : Int) = j by omega] at this; exact this
/-- the latest start of an S of depth d -/
theorem ls_in {d : Int} : ∀ k : Nat, 0 ≤ d → d < dep tx k → (0 ≤ ls tx d k ∧ ls tx d k < k ∧ ((tx (ls tx d k) = 40 ∧ dep tx (ls tx d k) = d) ∨ (tx (ls tx d k) = 124 ∧ dep tx (ls tx d k) = d + 1))) ∧ ∀ j, ls tx d k < j → j ≤ k → d < dep tx j ∧ (j < k → ¬ (tx j = 124 ∧ dep tx j = d + 1) ∧ ¬ (tx j = 41 ∧ dep tx j = d + 1))
  | 0, h0, h => by
    have : dep tx ((0 : Nat) : Int) = 0 := rfl
    omega
  | k + 1, h0, h => by
    rw [show ((k + 1 : Nat) : Int) = (k : Int) + 1 by omega] at h ⊢
    have ds := dep_s (tx := tx) (p := k) (by omega)
    rw [ls_s (by omega)]
    by_cases c : (tx k = 40 ∧ dep tx k = d) ∨ (tx k = 124 ∧ dep tx k = d + 1)
    · rw [if_pos c]
      refine ⟨⟨by omega, by omega, c⟩, fun j a b => ?_⟩
      rw [show j = (k : Int) + 1 by omega]; exact ⟨h, fun q => by omega⟩
    · rw [if_neg c]
      have hk : d < dep tx k := by
        by_cases e : tx k = 40
        · rw [if_pos e] at ds; omega
        · rw [if_neg e] at ds; split at ds <;> omega
      obtain ⟨a1, a5⟩ := ls_in k h0 hk
      refine ⟨⟨a1.1, by omega, a1.2.2⟩, fun j a b => ?_⟩
      by_cases z : j = (k : Int) + 1
      · rw [z]; exact ⟨h, fun q => by omega⟩
      · by_cases y : j = k
        · refine ⟨by rw [y]; exact hk, fun _ => ⟨fun q => c (by rw [y] at q; exact Or.inr q), fun q => ?_⟩⟩
          rw [y] at q
          rw [if_neg (by omega), if_pos q.1] at ds
          omega
        · have := a5 j a (by omega)
          exact ⟨this.1, fun _ => this.2 (by omega)⟩
theorem ls_ok {d : Int} (h : 0 ≤ p) (h0 : 0 ≤ d) (hd : d < dep tx p) : (0 ≤ ls tx d p ∧ ls tx d p < p ∧ ((tx (ls tx d p) = 40 ∧ dep tx (ls tx d p) = d) ∨ (tx (ls tx d p) = 124 ∧ dep tx (ls tx d p) = d + 1))) ∧ ∀ j, ls tx d p < j → j ≤ p → d < dep tx j ∧ (j < p → ¬ (tx j = 124 ∧ dep tx j = d + 1) ∧ ¬ (tx j = 41 ∧ dep tx j = d + 1)) := by
  have := ls_in (tx := tx) (d := d) p.toNat h0
  rw [(tn_s h).2] at this
  exact this hd
/-- the bracket of the latest start is the one that is open -/
theorem ls_lo {d : Int} (h : 0 ≤ p) (h0 : 0 ≤ d) (hd : d < dep tx p) : ls tx d p = lo tx d p ∨ (tx (ls tx d p) = 124 ∧ dep tx (ls tx d p) = d + 1 ∧ lo tx d (ls tx d p) = lo tx d p) := by
  obtain ⟨⟨a1, a2, a3⟩, a4⟩ := ls_ok h h0 hd
  have st : lo tx d p = lo tx d (ls tx d p + 1) := lo_eq (by omega) (by omega) (fun x a b => (a4 x (by omega) (by omega)).1)
  rw [lo_s a1] at st
  rcases a3 with a3 | a3
  · rw [if_pos a3] at st; exact Or.inl st.symm
  · rw [if_neg (by omega)] at st; exact Or.inr ⟨a3.1, a3.2, st.symm⟩
/-- a good text -/
def GT (tx : Int → Int) (n : Int) : Prop := (0 ≤ n ∧ n ≤ 200) ∧ dep tx n = 0 ∧ ∀ i, 0 ≤ i → i < n → (tx i = 32 ∨ mayP (tx i) (dep tx i) (sta tx i)) ∧ 0 ≤ dep tx i ∧ dep tx i ≤ 10
theorem scf_gt {n : Int} : ∀ (f : Nat) (i : Int), 0 ≤ i → i ≤ n → n - i < f → scf tx n f i (dep tx i) (sta tx i) = -1 → 0 ≤ dep tx i → dep tx i ≤ 10 → dep tx n = 0 ∧ ∀ j, i ≤ j → j < n → (tx j = 32 ∨ mayP (tx j) (dep tx j) (sta tx j)) ∧ 0 ≤ dep tx j ∧ dep tx j ≤ 10
  | 0, i, h0, h1, h2, _, _, _ => by omega
  | f + 1, i, h0, h1, h2, h, d0, d1 => by
    have ds := dep_s (tx := tx) h0
    have ss := sta_s (tx := tx) h0
    unfold scf at h
    by_cases c : i < n
    · rw [if_pos c] at h
      by_cases e : tx i = 32
      · rw [if_pos e] at h
        rw [if_neg (by omega), if_neg (by omega)] at ds
        rw [if_pos e] at ss
        have ih := scf_gt (n := n) f (i + 1) (by omega) (by omega) (by omega) (by rw [ds, ss, show dep tx i + 0 = dep tx i by omega]; exact h) (by omega) (by omega)
        refine ⟨ih.1, fun j a b => ?_⟩
        by_cases z : j = i
        · rw [z]; exact ⟨Or.inl e, d0, d1⟩
        · exact ih.2 j (by omega) b
      · rw [if_neg e] at h
        by_cases m : mayP (tx i) (dep tx i) (sta tx i)
        · rw [if_pos m] at h
          rw [if_neg e] at ss
          have dd : 0 ≤ dep tx (i + 1) ∧ dep tx (i + 1) ≤ 10 := by
            rw [ds]
            split
            · omega
            · split <;> omega
          have ih := scf_gt (n := n) f (i + 1) (by omega) (by omega) (by omega) (by rw [ds, ss]; exact h) dd.1 dd.2
          refine ⟨ih.1, fun j a b => ?_⟩
          by_cases z : j = i
          · rw [z]; exact ⟨Or.inr m, d0, d1⟩
          · exact ih.2 j (by omega) b
        · rw [if_neg m] at h; omega
    · rw [if_neg c] at h
      have e : i = n := by omega
      subst e
      refine ⟨?_, fun j a b => by omega⟩
      by_cases z : dep tx i = 0
      · exact z
      · rw [if_neg z] at h; omega
theorem GT_of {n : Int} (hn : 0 ≤ n ∧ n ≤ 200) (h : scf tx n 201 0 0 0 = -1) : GT tx n := by
  have := scf_gt (tx := tx) 201 0 (by omega) hn.1 (by omega) h (by show (0 : Int) ≤ 0; omega) (by show (0 : Int) ≤ 10; omega)
  exact ⟨hn, this.1, fun i a b => this.2 i a b⟩
/-- a star behind the bracket that ends at r -/
def stA (tx : Int → Int) (n r st : Int) : Prop := r < st ∧ st < n ∧ tx st = 42 ∧ ∀ j, r < j → j < st → tx j = 32
theorem sta_r : ∀ k : Nat, sta tx k = 1 → ∃ r, 0 ≤ r ∧ r < (k : Int) ∧ tx r = 41 ∧ ∀ j, r < j → j < (k : Int) → tx j = 32
  | 0, h => by
    have : sta tx ((0 : Nat) : Int) = 0 := rfl
    omega
  | k + 1, h => by
    rw [show ((k + 1 : Nat) : Int) = (k : Int) + 1 by omega] at h ⊢
    rw [sta_s (by omega)] at h
    by_cases e : tx k = 32
    · rw [if_pos e] at h
      obtain ⟨r, r1, r2, r3, r4⟩ := sta_r k h
      refine ⟨r, r1, by omega, r3, fun j a b => ?_⟩
      by_cases z : j = k
      · rw [z]; exact e
      · exact r4 j a (by omega)
    · rw [if_neg e] at h
      by_cases c : tx k = 41
      · exact ⟨k, by omega, by omega, c, fun j a b => by omega⟩
      · rw [if_neg c] at h; omega
end TEXT
