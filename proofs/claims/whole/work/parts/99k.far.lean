/-! HOLD in the reference, pure: how far a break is (words here from their first letter on) -/
def Fw (Ep : Int → Int → Prop) (St : Int → Int → Int → Prop) (nx : Int → Int) : List Int → Int → Int → Prop
  | [], _, _ => False
  | c :: v, q, s => ∃ p p', Ecl Ep q p ∧ St p c p' ∧ ((v = [] ∧ nx (8 * s + c) = -1) ∨ (¬ nx (8 * s + c) = -1 ∧ Fw Ep St nx v p' (nx (8 * s + c))))
/-- v behind the word w (its last letter first) -/
def rv : List Int → List Int → List Int
  | [], w => w
  | c :: v, w => rv v (c :: w)
theorem rv_len : ∀ (v w : List Int), (rv v w).length = v.length + w.length
  | [], w => by show w.length = 0 + w.length; omega
  | c :: v, w => by show (rv v (c :: w)).length = _; rw [rv_len v (c :: w), List.length_cons, List.length_cons]; omega
section FAR
variable {Ep : Int → Int → Prop} {St : Int → Int → Int → Prop} {nx : Int → Int}
theorem Fw_e {p q s : Int} {v : List Int} (e : Ecl Ep p q) (h : Fw Ep St nx v q s) : Fw Ep St nx v p s := by
  cases v with
  | nil => exact h
  | cons c v => obtain ⟨a, b, h1, h2, h3⟩ := h; exact ⟨a, b, Ecl_t e h1, h2, h3⟩
theorem lst_no : ∀ (v w : List Int), v ≠ [] → lst nx w = -1 → ¬ Brk Ep St nx (rv v w)
  | [], w, h, _ => absurd rfl h
  | [c], w, _, e => fun h => h.1 e
  | c :: d :: v, w, _, e => lst_no (d :: v) (c :: w) (by intro z; cases z) (by rw [lst, if_pos e])
theorem fw_brk : ∀ (v w : List Int), v ≠ [] → ¬ lst nx w = -1 → (Brk Ep St nx (rv v w) ↔ ∃ q, Pth Ep St w q ∧ Fw Ep St nx v q (lst nx w))
  | [], w, h, _ => absurd rfl h
  | [c], w, _, e => by
    constructor
    · rintro ⟨a, b, p, p', h1, h2⟩
      exact ⟨p, h1, p, p', Ecl_r, h2, Or.inl ⟨rfl, b⟩⟩
    · rintro ⟨q, h1, p, p', h2, h3, h4⟩
      refine ⟨e, ?_, p, p', Pth_e h1 h2, h3⟩
      rcases h4 with h4 | h4
      · exact h4.2
      · exact absurd h4.2 (fun z => z)
  | c :: d :: v, w, _, e => by
    by_cases n : nx (8 * lst nx w + c) = -1
    · refine ⟨fun h => absurd h (lst_no (d :: v) (c :: w) (by intro z; cases z) (by rw [lst, if_neg e]; exact n)), ?_⟩
      rintro ⟨q, h1, p, p', h2, h3, h4⟩
      rcases h4 with h4 | h4
      · cases h4.1
      · exact absurd n h4.1
    · have ih := fw_brk (d :: v) (c :: w) (by intro z; cases z) (by rw [lst, if_neg e]; exact n)
      rw [lst, if_neg e] at ih
      refine Iff.trans ih ⟨?_, ?_⟩
      · rintro ⟨q, ⟨p, p', a1, a2, a3⟩, h2⟩
        exact ⟨p, a1, p, p', Ecl_r, a2, Or.inr ⟨n, Fw_e a3 h2⟩⟩
      · rintro ⟨q, h1, p, p', h2, h3, h4⟩
        rcases h4 with h4 | h4
        · cases h4.1
        · exact ⟨p', ⟨p, p', Pth_e h1 h2, h3, Ecl_r⟩, h4.2⟩
/-- a crossing on the way of blanks -/
theorem cross {f : Int → Int} {b q p : Int} (h : Ecl Ep q p) (hq : b < f q) (hp : f p ≤ b) : ∃ z z', Ecl Ep q z ∧ Ep z z' ∧ Ecl Ep z' p ∧ b < f z ∧ f z' ≤ b := by
  have key := h (fun x => Ecl Ep q x ∧ (b < f x ∨ ∃ z z', Ecl Ep q z ∧ Ep z z' ∧ Ecl Ep z' x ∧ b < f z ∧ f z' ≤ b)) ⟨Ecl_r, Or.inl hq⟩ (by
    rintro x y ⟨e, g⟩ exy
    refine ⟨Ecl_s e exy, ?_⟩
    rcases g with g | ⟨z, z', g1, g2, g3, g4, g5⟩
    · by_cases c : b < f y
      · exact Or.inl c
      · exact Or.inr ⟨x, y, e, exy, Ecl_r, g, by omega⟩
    · exact Or.inr ⟨z, z', g1, g2, Ecl_s g3 exy, g4, g5⟩)
  rcases key.2 with k | k
  · omega
  · exact k
end FAR
/-! far over numbered steps: Q states, E steps -/
def FOk (Q E many : Int) (fr to by1 : Int → Int) : Prop := (0 ≤ Q ∧ Q ≤ 620) ∧ (0 ≤ E ∧ E ≤ 1200) ∧ ∀ e, 0 ≤ e → e < E → (0 ≤ fr e ∧ fr e < Q) ∧ (0 ≤ to e ∧ to e < Q) ∧ (0 ≤ by1 e ∧ by1 e ≤ 8)
def valE (nx fr to by1 far : Int → Int) (e s : Int) : Int := if by1 e = 8 then far (30 * to e + s) else if nx (8 * s + by1 e) < 0 then 1 else 1 + far (30 * to e + nx (8 * s + by1 e))
/-- not near enough yet -/
def NEf (Ep : Int → Int → Prop) (St : Int → Int → Int → Prop) (nx far : Int → Int) (many x : Int) : Prop := x % 30 < many ∧ ∃ v, Fw Ep St nx v (x / 30) (x % 30) ∧ (v.length : Int) < far x
def Real (Ep : Int → Int → Prop) (St : Int → Int → Int → Prop) (nx far : Int → Int) (Q many : Int) : Prop := ∀ q s, 0 ≤ q → q < Q → 0 ≤ s → s < many → (1 ≤ far (30 * q + s) ∧ far (30 * q + s) ≤ 1000000) ∧ (far (30 * q + s) < 1000000 → ∃ v, Fw Ep St nx v q s ∧ (v.length : Int) = far (30 * q + s))
section ROUND
variable {Q E many : Int} {fr to by1 nx far far' : Int → Int}
theorem cn_pos {P : Int → Prop} {n i : Int} (h : P i) (hi : 0 ≤ i ∧ i < n) : 1 ≤ cnI P n := by
  have := cn_del (P := P) (Q := fun _ => False) (i := i) hi.1 h n.toNat (fun j a b q => absurd q (fun z => z))
  rw [show ((n.toNat : Nat) : Int) = n by omega, if_pos hi.2] at this
  have r := (cnI_rg (fun _ : Int => False) (by omega : 0 ≤ n)).1
  omega
/-- a round brings one more node home -/
theorem rd_one (hF : FOk Q E many fr to by1) (hN : NxOk many nx) (hle : ∀ x, far' x ≤ far x) (hrd : ∀ e s, 0 ≤ e → e < E → 0 ≤ s → s < many → far' (30 * fr e + s) ≤ valE nx fr to by1 far e s) {x : Int} (hx : 0 ≤ x ∧ x < 30 * Q) (h : NEf (EpM E fr to by1) (StM E fr to by1) nx far many x) : cnI (NEf (EpM E fr to by1) (StM E fr to by1) nx far' many) (30 * Q) + 1 ≤ cnI (NEf (EpM E fr to by1) (StM E fr to by1) nx far many) (30 * Q) := by
  have m30 := hN.1
  -- the shortest of all
  have mn : ∀ (N : Nat) (x : Int), 0 ≤ x → x < 30 * Q → x % 30 < many → (∃ v, Fw (EpM E fr to by1) (StM E fr to by1) nx v (x / 30) (x % 30) ∧ (v.length : Int) < far x ∧ v.length ≤ N) → ∃ (y : Int) (v : List Int), (0 ≤ y ∧ y < 30 * Q) ∧ y % 30 < many ∧ Fw (EpM E fr to by1) (StM E fr to by1) nx v (y / 30) (y % 30) ∧ (v.length : Int) < far y ∧ ∀ (z : Int) (u : List Int), 0 ≤ z → z < 30 * Q → z % 30 < many → Fw (EpM E fr to by1) (StM E fr to by1) nx u (z / 30) (z % 30) → u.length < v.length → far z ≤ (u.length : Int) := by
    intro N
    induction N with
    | zero =>
      rintro x a b c ⟨v, v1, v2, v3⟩
      have : v = [] := List.eq_nil_of_length_eq_zero (by omega)
      rw [this] at v1
      exact absurd v1 (fun z => z)
    | succ N ih =>
      rintro x a b c ⟨v, v1, v2, v3⟩
      by_cases g : ∃ (z : Int) (u : List Int), (0 ≤ z ∧ z < 30 * Q) ∧ z % 30 < many ∧ Fw (EpM E fr to by1) (StM E fr to by1) nx u (z / 30) (z % 30) ∧ u.length < v.length ∧ (u.length : Int) < far z
      · obtain ⟨z, u, g1, g2, g3, g4, g5⟩ := g
        exact ih z g1.1 g1.2 g2 ⟨u, g3, g5, by omega⟩
      · refine ⟨x, v, ⟨a, b⟩, c, v1, v2, fun z u a1 a2 a3 a4 a5 => ?_⟩
        by_cases k : far z ≤ (u.length : Int)
        · exact k
        · exact absurd ⟨z, u, ⟨a1, a2⟩, a3, a4, a5, by omega⟩ g
  obtain ⟨xm, v0, v1, v2⟩ := h
  obtain ⟨y, v, y1, y2, y3, y4, y5⟩ := mn v0.length x hx.1 hx.2 xm ⟨v0, v1, v2, Nat.le_refl _⟩
  -- a node that comes home
  have home : ∃ z, (0 ≤ z ∧ z < Q) ∧ Fw (EpM E fr to by1) (StM E fr to by1) nx v z (y % 30) ∧ (v.length : Int) < far (30 * z + y % 30) ∧ far' (30 * z + y % 30) ≤ (v.length : Int) := by
    cases v with
    | nil => exact absurd y3 (fun z => z)
    | cons c v' =>
      obtain ⟨p, p', h1, h2, h3⟩ := y3
      have yd : 30 * (y / 30) + y % 30 = y := by omega
      obtain ⟨hc, e, e0, e1, e2⟩ := h2
      have ef := hF.2.2 e e0 e1
      have pr : 0 ≤ p ∧ p < Q := by have := e2.1; omega
      have p'r : 0 ≤ p' ∧ p' < Q := by have := e2.2.1; omega
      by_cases fp : (((c :: v').length : Nat) : Int) < far (30 * p + y % 30)
      · refine ⟨p, pr, ⟨p, p', Ecl_r, ⟨hc, e, e0, e1, e2⟩, h3⟩, fp, ?_⟩
        have r := hrd e (y % 30) e0 e1 (by omega) y2
        rw [e2.1] at r
        refine Int.le_trans r ?_
        unfold valE
        have nr := hN.2 (y % 30) c (by omega) y2 hc.1 hc.2
        rw [if_neg (by have := e2.2.2; omega), e2.2.2, e2.2.1]
        rcases h3 with h3 | h3
        · rw [if_pos (by omega), List.length_cons]; omega
        · rw [if_neg (by omega)]
          have := y5 (30 * p' + nx (8 * (y % 30) + c)) v' (by omega) (by omega) (by omega) (by rw [show (30 * p' + nx (8 * (y % 30) + c)) / 30 = p' by omega, show (30 * p' + nx (8 * (y % 30) + c)) % 30 = nx (8 * (y % 30) + c) by omega]; exact h3.2) (by rw [List.length_cons]; omega)
          rw [List.length_cons]; omega
      · obtain ⟨z, z', g1, g2, g3, g4, g5⟩ := cross (f := fun q => far (30 * q + y % 30)) (b := ((c :: v').length : Int)) h1 (by show _ < far (30 * (y / 30) + y % 30); rw [yd]; exact y4) (by show far (30 * p + y % 30) ≤ _; omega)
        obtain ⟨i, i0, i1, i2⟩ := g2
        have fi := hF.2.2 i i0 i1
        refine ⟨z, by have := i2.1; omega, ⟨p, p', Ecl_t (Ecl_s Ecl_r ⟨i, i0, i1, i2⟩) g3, ⟨hc, e, e0, e1, e2⟩, h3⟩, g4, ?_⟩
        have r := hrd i (y % 30) i0 i1 (by omega) y2
        rw [i2.1] at r
        refine Int.le_trans r ?_
        unfold valE
        rw [if_pos i2.2.2, i2.2.1]
        exact g5
  obtain ⟨z, z1, z2, z3, z4⟩ := home
  have d := cn_del (P := NEf (EpM E fr to by1) (StM E fr to by1) nx far many) (Q := NEf (EpM E fr to by1) (StM E fr to by1) nx far' many) (i := 30 * z + y % 30) (by omega) ⟨by rw [show (30 * z + y % 30) % 30 = y % 30 by omega]; exact y2, v, by rw [show (30 * z + y % 30) / 30 = z by omega, show (30 * z + y % 30) % 30 = y % 30 by omega]; exact z2, z3⟩ (30 * Q).toNat (fun j a b q => by
    obtain ⟨q1, u, q2, q3⟩ := q
    have hl := hle j
    refine ⟨⟨q1, u, q2, by omega⟩, fun ej => ?_⟩
    rw [ej] at q3 hl q2
    have := y5 (30 * z + y % 30) u (by omega) (by omega) (by omega) q2 (by omega)
    omega)
  rw [show (((30 * Q).toNat : Nat) : Int) = 30 * Q by omega, if_pos (by omega)] at d
  exact d
theorem cn_cols (many : Int) (hm : 0 ≤ many ∧ many ≤ 30) : ∀ k : Nat, cnI (fun i => i % 30 < many) k ≤ ((k : Int) / 30) * many + (if (k : Int) % 30 < many then (k : Int) % 30 else many)
  | 0 => by
    show (0 : Int) ≤ _
    rw [show (((0 : Nat) : Int) / 30) = 0 by decide, show (((0 : Nat) : Int) % 30) = 0 by decide]
    split <;> omega
  | k + 1 => by
    have ih := cn_cols many hm k
    rw [show ((k + 1 : Nat) : Int) = (k : Int) + 1 by omega, cnI_s _ (by omega)]
    by_cases w : (k : Int) % 30 = 29
    · have e1 : ((k : Int) + 1) / 30 = (k : Int) / 30 + 1 := by omega
      have e2 : ((k : Int) + 1) % 30 = 0 := by omega
      rw [e1, e2, Int.add_mul, Int.one_mul]
      generalize ((k : Int) / 30) * many = A at *
      by_cases p : (k : Int) % 30 < many
      · rw [iteP_pos p]; rw [if_pos p] at ih; split <;> omega
      · rw [iteP_neg p]; rw [if_neg p] at ih; split <;> omega
    · have e1 : ((k : Int) + 1) / 30 = (k : Int) / 30 := by omega
      have e2 : ((k : Int) + 1) % 30 = (k : Int) % 30 + 1 := by omega
      rw [e1, e2]
      generalize ((k : Int) / 30) * many = A at *
      by_cases p : (k : Int) % 30 < many
      · rw [iteP_pos p]; rw [if_pos p] at ih; split <;> omega
      · rw [iteP_neg p]; rw [if_neg p] at ih; rw [if_neg (by omega)]; omega
theorem ne_most (hF : FOk Q E many fr to by1) (hN : NxOk many nx) : cnI (NEf (EpM E fr to by1) (StM E fr to by1) nx far many) (30 * Q) ≤ Q * many := by
  have h1 := cn_le (P := NEf (EpM E fr to by1) (StM E fr to by1) nx far many) (Q := fun i => i % 30 < many) (30 * Q).toNat (fun j a b q => q.1)
  have h2 := cn_cols many (by have := hN.1; omega) (30 * Q).toNat
  have hq := hF.1
  rw [show (((30 * Q).toNat : Nat) : Int) = 30 * Q by omega] at h1 h2
  rw [show (30 * Q) / 30 = Q by omega, show (30 * Q) % 30 = 0 by omega] at h2
  have := hN.1
  generalize Q * many = A at *
  split at h2 <;> omega
end ROUND
/-! the word that is written: w so far (its last letter first), lf letters still wanting -/
def Pre (Ep : Int → Int → Prop) (St : Int → Int → Int → Prop) : List Int → Int → Prop
  | [], q => q = 0
  | c :: w, q => ∃ p, Pth Ep St w p ∧ St p c q
theorem Pth_pre {Ep : Int → Int → Prop} {St : Int → Int → Int → Prop} {w : List Int} {q : Int} : Pth Ep St w q ↔ ∃ p, Pre Ep St w p ∧ Ecl Ep p q := by
  cases w with
  | nil => exact ⟨fun h => ⟨0, rfl, h⟩, fun ⟨p, a, b⟩ => by rw [show p = 0 from a] at b; exact b⟩
  | cons c w => exact ⟨fun ⟨p, p', a, b, d⟩ => ⟨p', ⟨p, a, b⟩, d⟩, fun ⟨p', ⟨p, a, b⟩, d⟩ => ⟨p, p', a, b, d⟩⟩
def Gw (Ep : Int → Int → Prop) (St : Int → Int → Int → Prop) (nx : Int → Int) (w : List Int) (lf : Nat) : Prop :=
  (lf = 0 → Brk Ep St nx w) ∧ (0 < lf → ¬ lst nx w = -1 ∧ (∃ v q, v.length = lf ∧ Pth Ep St w q ∧ Fw Ep St nx v q (lst nx w)) ∧ ∀ v q, Pth Ep St w q → Fw Ep St nx v q (lst nx w) → lf ≤ v.length) ∧
  (∀ u, Brk Ep St nx u → w.length + lf ≤ u.length) ∧ ∀ v' w', w'.length = w.length → v'.length = lf → Brk Ep St nx (rv v' w') → w' = w ∨ Lx w w'
/-- call c leads on -/
def Ld (Ep : Int → Int → Prop) (St : Int → Int → Int → Prop) (nx : Int → Int) (w : List Int) (lf : Nat) (c : Int) : Prop := ∃ v q, v.length + 1 = lf ∧ Pth Ep St w q ∧ Fw Ep St nx (c :: v) q (lst nx w)
section GREEDY
variable {Ep : Int → Int → Prop} {St : Int → Int → Int → Prop} {nx : Int → Int}
theorem Gw_0 {lf : Nat} (h0 : 0 < lf) (h1 : ∃ v, Fw Ep St nx v 0 0 ∧ v.length = lf) (h2 : ∀ v, Fw Ep St nx v 0 0 → lf ≤ v.length) : Gw Ep St nx [] lf := by
  have e0 : ¬ lst nx [] = -1 := by show ¬ (0 : Int) = -1; decide
  have rvs : ∀ u : List Int, ∃ v, rv v [] = u := by
    have g : ∀ u w : List Int, ∃ v, rv v [] = u := by
      intro u
      induction u with
      | nil => intro _; exact ⟨[], rfl⟩
      | cons c u ih =>
        intro w
        obtain ⟨v, hv⟩ := ih w
        refine ⟨v ++ [c], ?_⟩
        have ap : ∀ (v w : List Int), rv (v ++ [c]) w = c :: rv v w := by
          intro v
          induction v with
          | nil => intro w; rfl
          | cons d v ih => intro w; exact ih (d :: w)
        rw [ap, hv]
    exact fun u => g u []
  have all : ∀ u, Brk Ep St nx u → lf ≤ u.length := fun u hu => by
    obtain ⟨v, hv⟩ := rvs u
    have vn : v ≠ [] := fun z => by rw [z] at hv; rw [← hv] at hu; exact hu
    rw [← hv] at hu
    obtain ⟨q, q1, q2⟩ := (fw_brk v [] vn e0).1 hu
    have := h2 v (Fw_e q1 q2)
    rw [← hv, rv_len]; omega
  refine ⟨fun z => by omega, fun _ => ⟨e0, ?_, fun v q a b => h2 v (Fw_e a b)⟩, fun u hu => by have := all u hu; rw [List.length_nil]; omega, fun v' w' a b c => Or.inl (List.eq_nil_of_length_eq_zero (by rw [a]; rfl))⟩
  obtain ⟨v, v1, v2⟩ := h1
  exact ⟨v, 0, v2, Ecl_r, v1⟩
theorem Ld_ex {w : List Int} {lf : Nat} (h : Gw Ep St nx w lf) (h0 : 0 < lf) (hst : ∀ p d q, St p d q → 0 ≤ d ∧ d < 8) : ∃ c, 0 ≤ c ∧ c < 8 ∧ Ld Ep St nx w lf c := by
  obtain ⟨a, ⟨v, q, v1, v2, v3⟩, b⟩ := h.2.1 h0
  cases v with
  | nil => exact absurd v3 (fun z => z)
  | cons c v =>
    obtain ⟨p, p', e1, e2, e3⟩ := id v3
    exact ⟨c, (hst _ _ _ e2).1, (hst _ _ _ e2).2, v, q, by rw [List.length_cons] at v1; exact v1, v2, v3⟩
/-- the least call that leads on is the next -/
theorem Gw_s {w : List Int} {lf : Nat} {c : Int} (h : Gw Ep St nx w (lf + 1)) (hc : Ld Ep St nx w (lf + 1) c) (hm : ∀ d, d < c → 0 ≤ d → ¬ Ld Ep St nx w (lf + 1) d) (hst : ∀ p d q, St p d q → 0 ≤ d ∧ d < 8) : Gw Ep St nx (c :: w) lf := by
  obtain ⟨h1, h2, h3, h4⟩ := h
  obtain ⟨e0, ex, mi⟩ := h2 (by omega)
  obtain ⟨v, q, v1, v2, v3⟩ := hc
  have v1 : v.length = lf := by omega
  obtain ⟨p, p', e1, e2, e3⟩ := id v3
  refine ⟨fun z => ?_, fun z => ?_, fun u hu => by have := h3 u hu; rw [List.length_cons]; omega, fun v' w' a b d => ?_⟩
  · have : v = [] := List.eq_nil_of_length_eq_zero (by omega)
    subst this
    exact (fw_brk [c] w (by intro y; cases y) e0).2 ⟨q, v2, v3⟩
  · have n1 : ¬ nx (8 * lst nx w + c) = -1 := by
      rcases e3 with e3 | e3
      · rw [e3.1] at v1; rw [List.length_nil] at v1; omega
      · exact e3.1
    have ls : lst nx (c :: w) = nx (8 * lst nx w + c) := by rw [lst, if_neg e0]
    rw [ls]
    refine ⟨n1, ⟨v, p', v1, ⟨p, p', Pth_e v2 e1, e2, Ecl_r⟩, ?_⟩, fun u r a b => ?_⟩
    · rcases e3 with e3 | e3
      · exact absurd e3.2 n1
      · exact e3.2
    · obtain ⟨x, x', a1, a2, a3⟩ := a
      have := mi (c :: u) x a1 ⟨x, x', Ecl_r, a2, Or.inr ⟨n1, Fw_e a3 b⟩⟩
      rw [List.length_cons] at this; omega
  · cases w' with
    | nil => rw [List.length_cons, List.length_nil] at a; omega
    | cons d' w2 =>
      rw [List.length_cons, List.length_cons] at a
      have hb : Brk Ep St nx (rv (d' :: v') w2) := d
      rcases h4 (d' :: v') w2 (by omega) (by rw [List.length_cons]; omega) hb with y | y
      · subst y
        obtain ⟨r, r1, r2⟩ := (fw_brk (d' :: v') w2 (by intro y; cases y) e0).1 hb
        obtain ⟨x, x', a1, a2, a3⟩ := id r2
        have s := hst _ _ _ a2
        have nd : ¬ d' < c := fun y => hm d' y s.1 ⟨v', r, by omega, r1, r2⟩
        by_cases z : d' = c
        · rw [z]; exact Or.inl rfl
        · exact Or.inr (Or.inr ⟨rfl, by omega⟩)
      · exact Or.inr (Or.inl y)
theorem Gw_end {w : List Int} (h : Gw Ep St nx w 0) : BrkL Ep St nx w := by
  refine ⟨h.1 rfl, fun u hu => ?_⟩
  have l := h.2.2.1 u hu
  by_cases e : u.length = w.length
  · rcases h.2.2.2 [] u e rfl hu with z | z
    · exact Or.inl z.symm
    · exact Or.inr (Or.inr ⟨e.symm, z⟩)
  · exact Or.inr (Or.inl (by omega))
end GREEDY
