/-! MEND, pure: all rows of costs, and the cheapest way -/
theorem ini1_cg {ls : Int} {nx g g' : Int → Int} (hn : okN2 ls nx) (hg : ∀ s, 0 ≤ s → s < ls → g' s = g s) {x : Int} (hx : 0 ≤ x ∧ x < 8) : ∀ s, 0 ≤ s → s < ls → ini1 nx g' x s = ini1 nx g x s := by
  intro s a b
  have ht := hn.2.2 s x a b hx.1 hx.2
  unfold ini1
  by_cases h0 : 0 ≤ nx (8 * s + x)
  · rw [hg _ h0 ht.2, hg s a b]
  · rw [iteP_neg (fun q => h0 q.1), iteP_neg (fun q => h0 q.1), hg s a b]
theorem MS_cg {ls : Int} {nx ini ini' g g' : Int → Int} (hn : okN2 ls nx) (hg : ∀ s, 0 ≤ s → s < ls → g' s = g s) (hi : ∀ s, 0 ≤ s → s < ls → ini' s = ini s) (h : MS ls nx ini g) : MS ls nx ini' g' := by
  refine ⟨fun s a b => by rw [hg s a b, hi s a b]; exact h.1 s a b, fun s c a b a' b' d => ?_, fun q q1 q2 s a b => ?_⟩
  · rw [hg s a b, hg _ d (hn.2.2 s c a b a' b').2]; exact h.2.1 s c a b a' b' d
  · rw [hg s a b]; exact h.2.2 q (fun s a b => by rw [← hi s a b]; exact q1 s a b) q2 s a b
def COk (ls : Int) (nx hd : Int → Int) (n i0 : Int) (cost : Int → Int → Int) : Prop := (∀ s, 0 ≤ s → s < ls → cost n s = 0) ∧ (∀ i, i0 ≤ i → i < n → MS ls nx (ini1 nx (cost (i + 1)) (hd i)) (cost i)) ∧ ∀ i s, i0 ≤ i → i ≤ n → 0 ≤ s → s < ls → 0 ≤ cost i s ∧ cost i s ≤ n - i
theorem COk_cg {ls : Int} {nx hd : Int → Int} {n i0 : Int} {cost cost' : Int → Int → Int} (hn : okN2 ls nx) (hh : ∀ i, 0 ≤ i → i < n → 0 ≤ hd i ∧ hd i < 8) (h0 : 0 ≤ i0) (hi : i0 ≤ n) (he : ∀ i s, i0 ≤ i → i ≤ n → 0 ≤ s → s < ls → cost' i s = cost i s) (h : COk ls nx hd n i0 cost) : COk ls nx hd n i0 cost' := by
  refine ⟨fun s a b => by rw [he n s hi (Int.le_refl _) a b]; exact h.1 s a b, fun i a b => ?_, fun i s a b a' b' => by rw [he i s a b a' b']; exact h.2.2 i s a b a' b'⟩
  exact MS_cg hn (fun s a' b' => he i s a (by omega) a' b') (ini1_cg hn (fun s a' b' => he (i + 1) s (by omega) (by omega) a' b') (hh i (by omega) b)) (h.2.1 i a b)
/-- two tables of costs of the same hand and law are the same -/
theorem COk_one {ls : Int} {nx hd : Int → Int} {n : Int} {cost cost' : Int → Int → Int} (hn : okN2 ls nx) (hh : ∀ i, 0 ≤ i → i < n → 0 ≤ hd i ∧ hd i < 8) (h : COk ls nx hd n 0 cost) (h' : COk ls nx hd n 0 cost') : ∀ (m : Nat) (i s : Int), 0 ≤ i → i ≤ n → n - i = m → 0 ≤ s → s < ls → cost i s = cost' i s := by
  intro m
  induction m with
  | zero => intro i s a b c d e; rw [show i = n by omega, h.1 s d e, h'.1 s d e]
  | succ m ih =>
    intro i s a b c d e
    refine MS_one (h.2.1 i a (by omega)) ?_ s d e
    exact MS_cg hn (fun _ _ _ => rfl) (ini1_cg hn (fun t h1 h2 => ih (i + 1) t (by omega) (by omega) (by omega) h1 h2) (hh i a (by omega))) (h'.2.1 i a (by omega))
/-- a cost comes of the next place's row, or of a put call -/
theorem MS_why {ls : Int} {nx ini g : Int → Int} (hn : okN2 ls nx) (h : MS ls nx ini g) {s : Int} (hs : 0 ≤ s ∧ s < ls) : g s = ini s ∨ ∃ c, 0 ≤ c ∧ c < 8 ∧ 0 ≤ nx (8 * s + c) ∧ g s = 1 + g (nx (8 * s + c)) := by
  by_cases q : g s = ini s ∨ ∃ c, 0 ≤ c ∧ c < 8 ∧ 0 ≤ nx (8 * s + c) ∧ g s = 1 + g (nx (8 * s + c))
  · exact q
  · exfalso
    have q1 : ¬ g s = ini s := fun z => q (Or.inl z)
    have q2 : ∀ c, 0 ≤ c → c < 8 → 0 ≤ nx (8 * s + c) → ¬ g s = 1 + g (nx (8 * s + c)) := fun c a b d z => q (Or.inr ⟨c, a, b, d, z⟩)
    have h1 := h.1 s hs.1 hs.2
    have key := h.2.2 (fun t => if t = s then g s + 1 else g t) (fun t a b => ?_) (fun t c a b a' b' d => ?_) s hs.1 hs.2
    · simp only [if_pos] at key; omega
    · show (if t = s then g s + 1 else g t) ≤ ini t
      split
      · rename_i e; rw [e]; omega
      · exact h.1 t a b
    · show (if t = s then g s + 1 else g t) ≤ 1 + (if nx (8 * t + c) = s then g s + 1 else g (nx (8 * t + c)))
      have h2 := h.2.1 t c a b a' b' d
      by_cases e1 : t = s
      · subst e1
        rw [if_pos rfl]
        have h3 := q2 c a' b' d
        split <;> omega
      · rw [if_neg e1]
        split
        · rename_i e2; rw [e2] at h2; omega
        · exact h2
noncomputable def fst8 (P : Int → Prop) : Int := iteP (P 0) 0 (iteP (P 1) 1 (iteP (P 2) 2 (iteP (P 3) 3 (iteP (P 4) 4 (iteP (P 5) 5 (iteP (P 6) 6 7))))))
theorem fst8_eq {P : Int → Prop} {c : Int} (hc : 0 ≤ c ∧ c < 8) (hP : P c) (hn : ∀ d, 0 ≤ d → d < c → ¬ P d) : fst8 P = c := by
  have h : c = 0 ∨ c = 1 ∨ c = 2 ∨ c = 3 ∨ c = 4 ∨ c = 5 ∨ c = 6 ∨ c = 7 := by omega
  unfold fst8
  rcases h with rfl | rfl | rfl | rfl | rfl | rfl | rfl | rfl <;>
    (repeat first | rfl | rw [iteP_pos hP] | rw [iteP_neg (hn _ (by decide) (by decide))])
def kpP (nx hd : Int → Int) (cost : Int → Int → Int) (i s : Int) : Prop := 0 ≤ nx (8 * s + hd i) ∧ cost (i + 1) (nx (8 * s + hd i)) = cost i s
def otP (cost : Int → Int → Int) (i s : Int) : Prop := 1 + cost (i + 1) s = cost i s
def ptP (nx : Int → Int) (cost : Int → Int → Int) (i s c : Int) : Prop := 0 ≤ nx (8 * s + c) ∧ 1 + cost i (nx (8 * s + c)) = cost i s
/-- one step of the cheapest way: place, state, how many are made, what they are -/
noncomputable def wst (nx hd : Int → Int) (cost : Int → Int → Int) (q : Int × Int × Int × (Int → Int)) : Int × Int × Int × (Int → Int) :=
  iteP (kpP nx hd cost q.1 q.2.1) (q.1 + 1, nx (8 * q.2.1 + hd q.1), q.2.2.1 + 1, fun j => if j = q.2.2.1 then hd q.1 else q.2.2.2 j)
    (iteP (otP cost q.1 q.2.1) (q.1 + 1, q.2.1, q.2.2.1, q.2.2.2)
      (q.1, nx (8 * q.2.1 + fst8 (ptP nx cost q.1 q.2.1)), q.2.2.1 + 1, fun j => if j = q.2.2.1 then fst8 (ptP nx cost q.1 q.2.1) else q.2.2.2 j))
noncomputable def wlk (nx hd : Int → Int) (cost : Int → Int → Int) (n : Int) : Nat → Int × Int × Int × (Int → Int)
  | 0 => (0, 0, 0, fun _ => 0)
  | t + 1 => iteP ((wlk nx hd cost n t).1 < n) (wst nx hd cost (wlk nx hd cost n t)) (wlk nx hd cost n t)
theorem wst_ok {ls : Int} {nx hd : Int → Int} {n : Int} {cost : Int → Int → Int} (hn : okN2 ls nx) (hh : ∀ i, 0 ≤ i → i < n → 0 ≤ hd i ∧ hd i < 8) (h : COk ls nx hd n 0 cost) {i s : Int} (hi : 0 ≤ i ∧ i < n) (hs : 0 ≤ s ∧ s < ls) (h1 : ¬ kpP nx hd cost i s) (h2 : ¬ otP cost i s) : ∃ c, 0 ≤ c ∧ c < 8 ∧ ptP nx cost i s c ∧ ∀ d, 0 ≤ d → d < c → ¬ ptP nx cost i s d := by
  have hex : ∃ c, 0 ≤ c ∧ c < 8 ∧ ptP nx cost i s c := by
    rcases MS_why hn (h.2.1 i hi.1 hi.2) hs with q | ⟨c, a, b, d, e⟩
    · exfalso
      unfold ini1 at q
      by_cases z : 0 ≤ nx (8 * s + hd i) ∧ cost (i + 1) (nx (8 * s + hd i)) < 1 + cost (i + 1) s
      · rw [iteP_pos z] at q; exact h1 ⟨z.1, q.symm⟩
      · rw [iteP_neg z] at q; exact h2 q.symm
    · exact ⟨c, a, b, d, e.symm⟩
  obtain ⟨c, a, b, d⟩ := hex
  obtain ⟨m, hm, hl⟩ := pk_least (fun k : Nat => k < 8 ∧ ptP nx cost i s k) ⟨c.toNat, by omega, by rw [show ((c.toNat : Nat) : Int) = c by omega]; exact d⟩
  refine ⟨m, by omega, by omega, hm.2, fun e a b z => ?_⟩
  have := hl e.toNat (by omega)
  exact this ⟨by omega, by rw [show ((e.toNat : Nat) : Int) = e by omega]; exact z⟩
theorem wlk_ok {ls : Int} {nx hd : Int → Int} {n : Int} {cost : Int → Int → Int} (hn : okN2 ls nx) (hh : ∀ i, 0 ≤ i → i < n → 0 ≤ hd i ∧ hd i < 8) (h0 : 0 ≤ n) (h : COk ls nx hd n 0 cost) : ∀ t : Nat,
    (0 ≤ (wlk nx hd cost n t).1 ∧ (wlk nx hd cost n t).1 ≤ n) ∧ (0 ≤ (wlk nx hd cost n t).2.1 ∧ (wlk nx hd cost n t).2.1 < ls) ∧ (0 ≤ (wlk nx hd cost n t).2.2.1 ∧ (wlk nx hd cost n t).2.2.1 ≤ t) ∧ ((wlk nx hd cost n t).1 < n → cost (wlk nx hd cost n t).1 (wlk nx hd cost n t).2.1 + (n - (wlk nx hd cost n t).1) + t ≤ 2 * n) ∧ ∀ j, 0 ≤ j → j < (wlk nx hd cost n t).2.2.1 → 0 ≤ (wlk nx hd cost n t).2.2.2 j ∧ (wlk nx hd cost n t).2.2.2 j < 8
  | 0 => by
    have h1 := hn.1
    refine ⟨⟨by simp [wlk], h0⟩, ⟨by simp [wlk], by simp [wlk]; omega⟩, ⟨by simp [wlk], by simp [wlk]⟩, fun q => ?_, fun j a b => ?_⟩
    · have := h.2.2 0 0 (by omega) h0 (by omega) (by omega)
      simp only [wlk]; omega
    · simp only [wlk] at b; omega
  | t + 1 => by
    have ih := wlk_ok hn hh h0 h t
    simp only [wlk]
    generalize hq : wlk nx hd cost n t = q at ih ⊢
    obtain ⟨i, s, m, md⟩ := q
    dsimp only at ih ⊢
    by_cases hi : i < n
    · rw [iteP_pos hi]
      obtain ⟨a1, a2, a3, a4, a5⟩ := ih
      have a4 := a4 hi
      unfold wst
      dsimp only
      have hhd := hh i a1.1 hi
      by_cases k1 : kpP nx hd cost i s
      · rw [iteP_pos k1]
        dsimp only
        have ht := hn.2.2 s (hd i) a2.1 a2.2 hhd.1 hhd.2
        refine ⟨by omega, ⟨k1.1, ht.2⟩, by omega, fun z => ?_, fun j b1 b2 => ?_⟩
        · rw [k1.2]; omega
        · split
          · exact hhd
          · exact a5 j b1 (by omega)
      · rw [iteP_neg k1]
        by_cases k2 : otP cost i s
        · rw [iteP_pos k2]
          dsimp only
          unfold otP at k2
          exact ⟨by omega, a2, by omega, fun z => by omega, a5⟩
        · rw [iteP_neg k2]
          obtain ⟨c, c1, c2, c3, c4⟩ := wst_ok hn hh h ⟨a1.1, hi⟩ a2 k1 k2
          rw [fst8_eq ⟨c1, c2⟩ c3 c4]
          dsimp only
          have ht := hn.2.2 s c a2.1 a2.2 c1 c2
          refine ⟨by omega, ⟨c3.1, ht.2⟩, by omega, fun z => ?_, fun j b1 b2 => ?_⟩
          · have := c3.2; omega
          · split
            · exact ⟨c1, c2⟩
            · exact a5 j b1 (by omega)
    · rw [iteP_neg hi]
      dsimp only
      obtain ⟨a1, a2, a3, a4, a5⟩ := ih
      exact ⟨a1, a2, by omega, fun z => absurd z hi, a5⟩
theorem wlk_end {ls : Int} {nx hd : Int → Int} {n : Int} {cost : Int → Int → Int} (hn : okN2 ls nx) (hh : ∀ i, 0 ≤ i → i < n → 0 ≤ hd i ∧ hd i < 8) (h0 : 0 ≤ n) (h : COk ls nx hd n 0 cost) {t : Nat} (ht : 2 * n ≤ t) : (wlk nx hd cost n t).1 = n := by
  obtain ⟨a1, a2, a3, a4, a5⟩ := wlk_ok hn hh h0 h t
  by_cases q : (wlk nx hd cost n t).1 < n
  · have := a4 q
    have := h.2.2 _ _ a1.1 a1.2 a2.1 a2.2
    omega
  · omega
theorem wlk_stay {nx hd : Int → Int} {cost : Int → Int → Int} {n : Int} {t : Nat} (h : ¬ (wlk nx hd cost n t).1 < n) : ∀ d : Nat, wlk nx hd cost n (t + d) = wlk nx hd cost n t
  | 0 => rfl
  | d + 1 => by
    have ih := wlk_stay h d
    show iteP ((wlk nx hd cost n (t + d)).1 < n) (wst nx hd cost (wlk nx hd cost n (t + d))) (wlk nx hd cost n (t + d)) = _
    rw [ih, iteP_neg h]
