/-! MEND, pure: ls states, nx their steps (8 s + c), a row g of costs, one a state -/
def stb (ls : Int) (nx g : Int → Int) : Prop := ∀ s c, 0 ≤ s → s < ls → 0 ≤ c → c < 8 → 0 ≤ nx (8 * s + c) → g s ≤ 1 + g (nx (8 * s + c))
/-- g is the greatest stable row below ini -/
def MS (ls : Int) (nx ini g : Int → Int) : Prop := (∀ s, 0 ≤ s → s < ls → g s ≤ ini s) ∧ stb ls nx g ∧ ∀ h : Int → Int, (∀ s, 0 ≤ s → s < ls → h s ≤ ini s) → stb ls nx h → ∀ s, 0 ≤ s → s < ls → h s ≤ g s
theorem MS_one {ls : Int} {nx ini g g' : Int → Int} (h : MS ls nx ini g) (h' : MS ls nx ini g') : ∀ s, 0 ≤ s → s < ls → g s = g' s := by
  intro s a b
  have h1 := h.2.2 g' h'.1 h'.2.1 s a b
  have h2 := h'.2.2 g h.1 h.2.1 s a b
  omega
theorem MS_congr {ls : Int} {nx nx' ini ini' g : Int → Int} (hx : ∀ s c, 0 ≤ s → s < ls → 0 ≤ c → c < 8 → nx' (8 * s + c) = nx (8 * s + c)) (hi : ∀ s, 0 ≤ s → s < ls → ini' s = ini s) (h : MS ls nx ini g) : MS ls nx' ini' g := by
  refine ⟨fun s a b => by rw [hi s a b]; exact h.1 s a b, fun s c a b a' b' => by rw [hx s c a b a' b']; exact h.2.1 s c a b a' b', fun q q1 q2 s a b => ?_⟩
  exact h.2.2 q (fun s a b => by rw [← hi s a b]; exact q1 s a b) (fun s c a b a' b' => by rw [← hx s c a b a' b']; exact q2 s c a b a' b') s a b
/-- k passes done: where an edge is still out of order, the cost behind it is k at least -/
def Uk (ls : Int) (nx g : Int → Int) (k : Int) : Prop := ∀ s c, 0 ≤ s → s < ls → 0 ≤ c → c < 8 → 0 ≤ nx (8 * s + c) → 1 + g (nx (8 * s + c)) < g s → k ≤ g (nx (8 * s + c))
def okN2 (ls : Int) (nx : Int → Int) : Prop := 1 ≤ ls ∧ ls ≤ 30 ∧ ∀ s c, 0 ≤ s → s < ls → 0 ≤ c → c < 8 → -1 ≤ nx (8 * s + c) ∧ nx (8 * s + c) < ls
def rw12 (ls : Int) (g : Int → Int) : Prop := ∀ s, 0 ≤ s → s < ls → 0 ≤ g s ∧ g s ≤ 12
def LBd (ls : Int) (nx ini g : Int → Int) : Prop := ∀ h : Int → Int, (∀ s, 0 ≤ s → s < ls → h s ≤ ini s) → stb ls nx h → ∀ s, 0 ≤ s → s < ls → h s ≤ g s
/-- within a pass that began with f, behind all pairs ahead of (s0, c0) -/
def PsI (ls : Int) (nx f g : Int → Int) (k s0 c0 : Int) : Prop := (∀ s, 0 ≤ s → s < ls → 0 ≤ g s ∧ g s ≤ f s) ∧ (∀ s, 0 ≤ s → s < ls → g s = f s ∨ k + 1 ≤ g s) ∧
  ∀ s c, 0 ≤ s → s < ls → 0 ≤ c → c < 8 → 0 ≤ nx (8 * s + c) → (s < s0 ∨ (s = s0 ∧ c < c0)) → g s ≤ 1 + g (nx (8 * s + c)) ∨ ¬ g (nx (8 * s + c)) = f (nx (8 * s + c))
theorem PsI_0 {ls : Int} {nx f : Int → Int} {k : Int} (h : rw12 ls f) : PsI ls nx f f k 0 0 :=
  ⟨fun s a b => ⟨(h s a b).1, Int.le_refl _⟩, fun s a b => Or.inl rfl, fun s c a b a' b' _ q => by omega⟩
theorem PsI_n {ls : Int} {nx f g : Int → Int} {k s0 : Int} (h : PsI ls nx f g k s0 8) : PsI ls nx f g k (s0 + 1) 0 :=
  ⟨h.1, h.2.1, fun s c a b a' b' d q => h.2.2 s c a b a' b' d (by omega)⟩
/-- no change at (s0, c0) -/
theorem PsI_k {ls : Int} {nx f g : Int → Int} {k s0 c0 : Int} (h : PsI ls nx f g k s0 c0) (hq : 0 ≤ nx (8 * s0 + c0) → g s0 ≤ 1 + g (nx (8 * s0 + c0))) : PsI ls nx f g k s0 (c0 + 1) := by
  refine ⟨h.1, h.2.1, fun s c a b a' b' d q => ?_⟩
  by_cases e : s = s0 ∧ c = c0
  · obtain ⟨rfl, rfl⟩ := e; exact Or.inl (hq d)
  · exact h.2.2 s c a b a' b' d (by omega)
/-- a change at (s0, c0) -/
theorem PsI_s {ls : Int} {nx f g g' : Int → Int} {k s0 c0 : Int} (hn : okN2 ls nx) (h : PsI ls nx f g k s0 c0) (hU : Uk ls nx f k) (h0 : 0 ≤ s0 ∧ s0 < ls) (hc : 0 ≤ c0 ∧ c0 < 8) (hx : 0 ≤ nx (8 * s0 + c0)) (hlt : 1 + g (nx (8 * s0 + c0)) < g s0) (e : ∀ s, 0 ≤ s → s < ls → g' s = if s = s0 then 1 + g (nx (8 * s0 + c0)) else g s) : PsI ls nx f g' k s0 (c0 + 1) := by
  have ht := hn.2.2 s0 c0 h0.1 h0.2 hc.1 hc.2
  have hne : ¬ nx (8 * s0 + c0) = s0 := by intro q; rw [q] at hlt; omega
  have h1 := h.1 s0 h0.1 h0.2
  have h2 := h.1 _ hx ht.2
  have hnew : k + 1 ≤ 1 + g (nx (8 * s0 + c0)) := by
    rcases h.2.1 _ hx ht.2 with q | q
    · have := hU s0 c0 h0.1 h0.2 hc.1 hc.2 hx (by omega); omega
    · omega
  refine ⟨fun s a b => ?_, fun s a b => ?_, fun s c a b a' b' d q => ?_⟩
  · rw [e s a b]; split
    · subst_vars; omega
    · exact h.1 s a b
  · rw [e s a b]; split
    · exact Or.inr hnew
    · exact h.2.1 s a b
  · have hd := hn.2.2 s c a b a' b'
    rw [e s a b, e _ d hd.2]
    by_cases e1 : s = s0
    · subst e1
      rw [if_pos rfl]
      by_cases e2 : nx (8 * s + c) = s
      · rw [if_pos e2]; left; omega
      · rw [if_neg e2]
        by_cases e3 : c = c0
        · subst e3; left; omega
        · rcases h.2.2 s c a b a' b' d (by omega) with z | z
          · left; omega
          · right; exact z
    · rw [if_neg e1]
      by_cases e2 : nx (8 * s + c) = s0
      · rw [if_pos e2]
        right
        intro z
        rw [e2] at z
        omega
      · rw [if_neg e2]
        exact h.2.2 s c a b a' b' d (by omega)
theorem PsI_end {ls : Int} {nx f g : Int → Int} {k : Int} (hn : okN2 ls nx) (h : PsI ls nx f g k ls 0) : Uk ls nx g (k + 1) := by
  intro s c a b a' b' d q
  have hd := hn.2.2 s c a b a' b'
  rcases h.2.2 s c a b a' b' d (Or.inl b) with z | z
  · omega
  · rcases h.2.1 _ d hd.2 with y | y
    · exact absurd y z
    · exact y
theorem Uk_stb {ls : Int} {nx g : Int → Int} {k : Int} (hn : okN2 ls nx) (hg : rw12 ls g) (hk : 11 ≤ k) (h : Uk ls nx g k) : stb ls nx g := by
  intro s c a b a' b' d
  have h1 := hg s a b
  by_cases q : 1 + g (nx (8 * s + c)) < g s
  · have := h s c a b a' b' d q; omega
  · omega
theorem LBd_s {ls : Int} {nx ini g g' : Int → Int} {s0 c0 : Int} (h : LBd ls nx ini g) (hn : okN2 ls nx) (h0 : 0 ≤ s0 ∧ s0 < ls) (hc : 0 ≤ c0 ∧ c0 < 8) (hx : 0 ≤ nx (8 * s0 + c0)) (e : ∀ s, 0 ≤ s → s < ls → g' s = if s = s0 then 1 + g (nx (8 * s0 + c0)) else g s) : LBd ls nx ini g' := by
  intro q q1 q2 s a b
  rw [e s a b]
  split
  · rename_i e1
    subst e1
    have := q2 s c0 a b hc.1 hc.2 hx
    have := h q q1 q2 _ hx (hn.2.2 s c0 a b hc.1 hc.2).2
    omega
  · exact h q q1 q2 s a b
/-- what the first cost of a place is, out of the next place's row -/
noncomputable def ini1 (nx g : Int → Int) (x : Int) (s : Int) : Int := iteP (0 ≤ nx (8 * s + x) ∧ g (nx (8 * s + x)) < 1 + g s) (g (nx (8 * s + x))) (1 + g s)
