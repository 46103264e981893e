/-! THE REFERENCE: hold, what a turn of its last loop means -/
/-- far is exact -/
def FE (N : Mem) : Prop := Real (EpN N) (StN N) (N 19) (N 31) (N 0 38) (N 0 25) ∧ (∀ x, 0 ≤ x → x < 30 * N 0 38 → 1 ≤ N 31 x ∧ N 31 x ≤ 1000000) ∧ ∀ x, 0 ≤ x → x < 30 * N 0 38 → ¬ NEf (EpN N) (StN N) (N 19) (N 31) (N 0 25) x
theorem FE_le {N : Mem} (h : FE N) (hm : N 0 25 ≤ 30) {q s : Int} (hq : 0 ≤ q ∧ q < N 0 38) (hs : 0 ≤ s ∧ s < N 0 25) {v : List Int} (hv : Fw (EpN N) (StN N) (N 19) v q s) : N 31 (30 * q + s) ≤ (v.length : Int) := by
  by_cases c : N 31 (30 * q + s) ≤ (v.length : Int)
  · exact c
  · exfalso
    refine h.2.2 (30 * q + s) (by omega) (by omega) ⟨by omega, v, ?_, by omega⟩
    rw [show (30 * q + s) / 30 = q by omega, show (30 * q + s) % 30 = s by omega]; exact hv
theorem Pre_rg {N : Mem} (hH : HkM N) (hQ : 1 ≤ N 0 38) {w : List Int} {q : Int} (h : Pre (EpN N) (StN N) w q) : 0 ≤ q ∧ q < N 0 38 := by
  cases w with
  | nil => have : q = 0 := h; omega
  | cons c w =>
    obtain ⟨p, h1, hc, e, e0, e1, e2⟩ := h
    have := (hH.1.2.2 e e0 e1).2.1
    have := e2.2.1
    omega
theorem Pth_rg {N : Mem} (hH : HkM N) (hQ : 1 ≤ N 0 38) {w : List Int} {q : Int} (h : Pth (EpN N) (StN N) w q) : 0 ≤ q ∧ q < N 0 38 := by
  obtain ⟨p, h1, h2⟩ := Pth_pre.1 h
  exact h2 (fun x => 0 ≤ x ∧ x < N 0 38) (Pre_rg hH hQ h1) (fun x y _ ⟨e, e0, e1, e2⟩ => by
    have := (hH.1.2.2 e e0 e1).2.1
    have := e2.2.1
    omega)
/-- closed: those that the word reaches -/
theorem cl_pth {N L : Mem} (hH : HkM N) (hQ : 1 ≤ N 0 38) {w : List Int} (hp : ∀ q, 0 ≤ q → q < N 0 38 → (N 32 q = 1 ↔ Pre (EpN N) (StN N) w q)) (hl : ∀ q, 0 ≤ q → q < N 0 38 → (L 32 q = 1 ↔ ∃ p, (0 ≤ p ∧ p < N 0 38) ∧ N 32 p = 1 ∧ Ecl (EpN N) p q)) : ∀ q, 0 ≤ q → q < N 0 38 → (L 32 q = 1 ↔ Pth (EpN N) (StN N) w q) := by
  intro q a b
  rw [hl q a b, Pth_pre]
  constructor
  · rintro ⟨p, p1, p2, p3⟩
    exact ⟨p, (hp p p1.1 p1.2).1 p2, p3⟩
  · rintro ⟨p, p1, p2⟩
    have r := Pre_rg hH hQ p1
    exact ⟨p, r, (hp p r.1 r.2).2 p1, p2⟩
/-- leads says whether a call leads on -/
theorem leads_ld {N : Mem} (hH : HkM N) (hQ : 1 ≤ N 0 38) (hE : FE N) {w : List Int} {lf : Nat} (hG : Gw (EpN N) (StN N) (N 19) w (lf + 1)) (hlt : (lf : Int) + 1 < 1000000) (hs : 0 ≤ lst (N 19) w ∧ lst (N 19) w < N 0 25) (hi : ∀ q, 0 ≤ q → q < N 0 38 → (N 32 q = 1 ↔ Pth (EpN N) (StN N) w q)) {c : Int} (hc : 0 ≤ c ∧ c < 8) :
    (∃ e, (0 ≤ e ∧ e < N 0 37) ∧ N 27 e = c ∧ N 32 (N 25 e) = 1 ∧ ((N 19 (8 * lst (N 19) w + c) < 0 ∧ ((lf + 1 : Nat) : Int) = 1) ∨ (0 ≤ N 19 (8 * lst (N 19) w + c) ∧ 1 + N 31 (30 * N 26 e + N 19 (8 * lst (N 19) w + c)) = ((lf + 1 : Nat) : Int)))) ↔ Ld (EpN N) (StN N) (N 19) w (lf + 1) c := by
  obtain ⟨e0, ex, mi⟩ := hG.2.1 (by omega)
  have m30 := hH.2.1
  have nr := hH.2.2 (lst (N 19) w) c hs.1 hs.2 hc.1 hc.2
  constructor
  · rintro ⟨e, e1, e2, e3, e4⟩
    obtain ⟨g1, g2, g3⟩ := hH.1.2.2 e e1.1 e1.2
    have hp := (hi (N 25 e) g1.1 g1.2).1 e3
    rcases e4 with e4 | e4
    · exact ⟨[], N 25 e, by rw [List.length_nil]; omega, hp, N 25 e, N 26 e, Ecl_r, ⟨hc, e, e1.1, e1.2, rfl, rfl, e2⟩, Or.inl ⟨rfl, by omega⟩⟩
    · have rl := (hE.1 (N 26 e) (N 19 (8 * lst (N 19) w + c)) g2.1 g2.2 e4.1 (by omega)).2 (by omega)
      obtain ⟨v, v1, v2⟩ := rl
      exact ⟨v, N 25 e, by omega, hp, N 25 e, N 26 e, Ecl_r, ⟨hc, e, e1.1, e1.2, rfl, rfl, e2⟩, Or.inr ⟨by omega, v1⟩⟩
  · rintro ⟨v, q, v1, v2, p, p', h1, ⟨_, e, e1, e2, e3⟩, h3⟩
    obtain ⟨g1, g2, g3⟩ := hH.1.2.2 e e1 e2
    have pp : Pth (EpN N) (StN N) w p := Pth_e v2 h1
    have pr := Pth_rg hH hQ pp
    refine ⟨e, ⟨e1, e2⟩, e3.2.2, by rw [e3.1]; exact (hi p pr.1 pr.2).2 pp, ?_⟩
    rcases h3 with h3 | h3
    · left
      rw [h3.1, List.length_nil] at v1
      exact ⟨by omega, by omega⟩
    · right
      have n0 : 0 ≤ N 19 (8 * lst (N 19) w + c) := by omega
      have le := FE_le hE (by omega) g2 ⟨n0, by omega⟩ (v := v) (by rw [e3.2.1]; exact h3.2)
      have rl := (hE.1 (N 26 e) (N 19 (8 * lst (N 19) w + c)) g2.1 g2.2 n0 (by omega)).2 (by omega)
      obtain ⟨u, u1, u2⟩ := rl
      have := mi (c :: u) p pp ⟨p, p', Ecl_r, ⟨hc, e, e1, e2, e3⟩, Or.inr ⟨h3.1, by rw [← e3.2.1]; exact u1⟩⟩
      rw [List.length_cons] at this
      exact ⟨n0, by omega⟩
/-- how often and by how much an array of bl cells must grow for n letters -/
def gwC (n : Nat) : Nat → Nat → Nat
  | 0, _ => 0
  | f + 1, bl => if n ≤ bl then 0 else 1 + gwC n f (2 * bl)
def gwS (n : Nat) : Nat → Nat → Nat
  | 0, _ => 0
  | f + 1, bl => if n ≤ bl then 0 else 2 * bl + gwS n f (2 * bl)
/-- the law's next state, behind a call that leads on -/
theorem gw_lst {N : Mem} (hH : HkM N) {w : List Int} {lf : Nat} {c : Int} (hs : 0 ≤ lst (N 19) w ∧ lst (N 19) w < N 0 25) (hc : 0 ≤ c ∧ c < 8) (hG : Gw (EpN N) (StN N) (N 19) (c :: w) (lf + 1)) : lst (N 19) (c :: w) = N 19 (8 * lst (N 19) w + c) ∧ 0 ≤ lst (N 19) (c :: w) ∧ lst (N 19) (c :: w) < N 0 25 := by
  have n1 := (hG.2.1 (by omega)).1
  have nr := hH.2.2 (lst (N 19) w) c hs.1 hs.2 hc.1 hc.2
  have e : lst (N 19) (c :: w) = N 19 (8 * lst (N 19) w + c) := by rw [lst, if_neg (by omega)]
  rw [e] at n1 ⊢
  exact ⟨rfl, by omega, by omega⟩
/-- from far to the word: the start -/
theorem gw_start {N : Mem} (hH : HkM N) (hQ : 1 ≤ N 0 38) (hE : FE N) (h0 : N 31 0 < 1000000) : Gw (EpN N) (StN N) (N 19) [] (N 31 0).toNat ∧ 1 ≤ N 31 0 := by
  have m30 := hH.2.1
  have r := hE.1 0 0 (by omega) (by omega) (by omega) (by omega)
  rw [show (30 : Int) * 0 + 0 = 0 by omega] at r
  obtain ⟨v, v1, v2⟩ := r.2 h0
  refine ⟨Gw_0 (by omega) ⟨v, v1, by omega⟩ (fun u hu => ?_), r.1.1⟩
  have := FE_le hE (by omega) (q := 0) (s := 0) (by omega) (by omega) hu
  rw [show (30 : Int) * 0 + 0 = 0 by omega] at this
  omega
/-- no break that is not very long -/
theorem brk_far {N : Mem} (hH : HkM N) (hQ : 1 ≤ N 0 38) (hE : FE N) (h0 : ¬ N 31 0 < 1000000) (u : List Int) (hu : Brk (EpN N) (StN N) (N 19) u) : 1000000 ≤ (u.length : Int) := by
  have m30 := hH.2.1
  have e0 : ¬ lst (N 19) [] = -1 := by show ¬ (0 : Int) = -1; decide
  have ap : ∀ (c : Int) (v w : List Int), rv (v ++ [c]) w = c :: rv v w := by
    intro c v
    induction v with
    | nil => intro w; rfl
    | cons d v ih => intro w; exact ih (d :: w)
  have ex : ∀ u : List Int, ∃ v, rv v [] = u := by
    intro u
    induction u with
    | nil => exact ⟨[], rfl⟩
    | cons c u ih => obtain ⟨v, hv⟩ := ih; exact ⟨v ++ [c], by rw [ap, hv]⟩
  obtain ⟨v, hv⟩ := ex u
  have vn : v ≠ [] := fun z => by rw [z] at hv; rw [← hv] at hu; exact hu
  rw [← hv] at hu
  obtain ⟨q, q1, q2⟩ := (fw_brk v [] vn e0).1 hu
  have le := FE_le hE (by omega) (q := 0) (s := 0) (by omega) (by omega) (Fw_e q1 q2)
  rw [show (30 : Int) * 0 + 0 = 0 by omega] at le
  rw [← hv, rv_len, List.length_nil]
  omega
