/-! THE SAME WORDS: the class's text and the reference's steps -/
/-- every bracket and bar has its end -/
theorem cls_of {tx : Int → Int} {n : Int} (hG : GT tx n) : ∀ p, 0 ≤ p → p < n → tx p = 40 ∨ tx p = 124 → ∃ r, p < r ∧ r < n ∧ tx r = 41 ∧ AS tx (opn tx r) p := by
  intro p h0 h1 tp
  have gp := hG.2.2 p h0 h1
  -- the first place behind p whose depth is that outside the bracket
  have ex : ∀ (N : Nat) (j : Int), j = n - N → p < j → j ≤ n → (∀ x, p < x → x ≤ j → (if tx p = 40 then dep tx p + 1 else dep tx p) ≤ dep tx x) → ∃ r, p < r ∧ r < n ∧ tx r = 41 ∧ dep tx r = (if tx p = 40 then dep tx p + 1 else dep tx p) ∧ ∀ x, p < x → x ≤ r → (if tx p = 40 then dep tx p + 1 else dep tx p) ≤ dep tx x := by
    intro N
    induction N with
    | zero =>
      intro j e hp hj hd
      have := hd j hp (Int.le_refl j)
      rw [e] at this
      rw [show n - ((0 : Nat) : Int) = n by omega, hG.2.1] at this
      split at this <;> omega
    | succ N ih =>
      intro j e hp hj hd
      have dj := hd j hp (Int.le_refl j)
      have ds := dep_s (tx := tx) (p := j) (by omega)
      by_cases c : tx j = 41 ∧ dep tx j = (if tx p = 40 then dep tx p + 1 else dep tx p)
      · exact ⟨j, hp, by omega, c.1, c.2, hd⟩
      · refine ih (j + 1) (by omega) (by omega) (by omega) (fun x a b => ?_)
        by_cases z : x = j + 1
        · rw [z, ds]
          by_cases y : tx j = 40
          · rw [if_pos y]; omega
          · rw [if_neg y]
            by_cases w : tx j = 41
            · rw [if_pos w]; omega
            · rw [if_neg w]; omega
        · exact hd x a (by omega)
  have dp := dep_s (tx := tx) h0
  have d1 : dep tx (p + 1) = (if tx p = 40 then dep tx p + 1 else dep tx p) := by
    rw [dp]
    rcases tp with tp | tp
    · rw [if_pos tp, if_pos tp]
    · rw [if_neg (by omega), if_neg (by omega), if_neg (by omega)]; omega
  obtain ⟨r, r1, r2, r3, r4, r5⟩ := ex (n - (p + 1)).toNat (p + 1) (by omega) (by omega) (by omega) (fun x a b => by rw [show x = p + 1 by omega, d1]; exact Int.le_refl _)
  refine ⟨r, r1, r2, r3, ?_⟩
  rcases tp with tp | tp
  · left
    rw [if_pos tp] at r4 r5
    show p = lo tx (dep tx r - 1) r
    have := lo_eq (tx := tx) (d := dep tx p) (i := p + 1) (j := r) (by omega) (by omega) (fun x a b => by have := r5 x (by omega) (by omega); omega)
    rw [lo_s h0, if_pos ⟨tp, rfl⟩] at this
    rw [show dep tx r - 1 = dep tx p by omega]; exact this.symm
  · right
    rw [if_neg (by omega)] at r4 r5
    have hr := opn_ok hG (r := r) ⟨by omega, r2⟩ (Or.inr r3)
    have hq := opn_ok hG (r := p) ⟨h0, h1⟩ (Or.inl tp)
    have e := lo_eq (tx := tx) (d := dep tx r - 1) (i := p) (j := r) h0 (by omega) (fun x a b => by by_cases z : x = p; (rw [z]; omega); have := r5 x (by omega) (by omega); omega)
    refine ⟨tp, by rw [hr.1.2.2.2]; omega, ?_, h0⟩
    rw [hr.1.2.2.2]; exact e.symm
def EpM (E : Int) (fr to by1 : Int → Int) (q q' : Int) : Prop := ∃ e, 0 ≤ e ∧ e < E ∧ EdA fr to by1 e q q' 8
def StM (E : Int) (fr to by1 : Int → Int) (q c q' : Int) : Prop := (0 ≤ c ∧ c < 8) ∧ ∃ e, 0 ≤ e ∧ e < E ∧ EdA fr to by1 e q q' c
/-- every step comes of a sign -/
theorem ed_of {tx : Int → Int} : ∀ (k : Nat) (e : Int), 0 ≤ e → e < ee tx k → ∃ i, 0 ≤ i ∧ i < (k : Int) ∧ tx i ≠ 32 ∧ (e = ee tx i ∨ (tx i = 42 ∧ e = ee tx i + 1))
  | 0, e, h0, h1 => by
    have : ee tx ((0 : Nat) : Int) = 0 := rfl
    omega
  | k + 1, e, h0, h1 => by
    rw [show ((k + 1 : Nat) : Int) = (k : Int) + 1 by omega] at h1 ⊢
    have es := ee_s (tx := tx) (p := k) (by omega)
    by_cases z : e < ee tx k
    · obtain ⟨i, i1, i2, i3⟩ := ed_of k e h0 z
      exact ⟨i, i1, by omega, i3⟩
    · refine ⟨k, by omega, by omega, ?_, ?_⟩
      · intro q; rw [if_neg (by omega), if_pos q] at es; omega
      · by_cases q : tx k = 42
        · rw [if_pos q] at es
          by_cases y : e = ee tx k
          · exact Or.inl y
          · exact Or.inr ⟨q, by omega⟩
        · rw [if_neg q] at es; left; split at es <;> omega
section SAME
variable {tx sE pt bh rp fr to by1 : Int → Int} {n : Int}
/-- of an open bracket -/
theorem op_all (hG : GT tx n) (hR : RA tx n n sE pt bh rp) {p : Int} (h0 : 0 ≤ p) (h1 : p < n) (tp : tx p = 40) : ∃ r, p < r ∧ r < n ∧ tx r = 41 ∧ opn tx r = p ∧ pt p = r ∧ (∀ k : Nat, (∀ j : Nat, j ≤ k → chn sE p j < r) → AS tx p (chn sE p k)) ∧ ∀ x, AS tx p x → x < r → ∃ k : Nat, chn sE p k = x ∧ ∀ j : Nat, j ≤ k → chn sE p j < r := by
  obtain ⟨r, r1, r2, r3, r4⟩ := cls_of hG p h0 h1 (Or.inl tp)
  obtain ⟨q1, q2, q3⟩ := hR.2 r (by omega) r2 r3
  have op : opn tx r = p := by
    rcases r4 with z | z
    · exact z.symm
    · omega
  obtain ⟨K0, k1, k2⟩ := chn_all hG (sE := sE) ⟨by omega, r2⟩ (Or.inr r3) (fun y a b c => hR.1 y a (by omega) c) (r.toNat + 1) r (by omega) (Int.le_refl r) (Or.inr rfl)
  rw [op] at k1 k2
  refine ⟨r, r1, r2, r3, op, q2 p r4 r1, fun k hk => ?_, fun x ax xr => ?_⟩
  · exact (k2 k (chn_up2 k1 (fun j hj => (k2 j hj).1) k hk)).2
  · obtain ⟨k, m1, m2⟩ := chn_all hG (sE := sE) ⟨by omega, r2⟩ (Or.inr r3) (fun y a b c => hR.1 y a (by omega) c) (x.toNat + 1) x (by omega) (by omega) (Or.inl (by rw [op]; exact ax))
    rw [op] at m1 m2
    refine ⟨k, m1, fun j hj => ?_⟩
    by_cases z : j = k
    · rw [z, m1]; exact xr
    · have := (m2 j (by omega)).1; omega
theorem bar_all (hG : GT tx n) (hR : RA tx n n sE pt bh rp) {p : Int} (h0 : 0 ≤ p) (h1 : p < n) (tp : tx p = 124) : ∃ r, p < r ∧ r < n ∧ tx r = 41 ∧ opn tx r = opn tx p ∧ pt p = r := by
  obtain ⟨r, r1, r2, r3, r4⟩ := cls_of hG p h0 h1 (Or.inr tp)
  obtain ⟨q1, q2, q3⟩ := hR.2 r (by omega) r2 r3
  exact ⟨r, r1, r2, r3, (opn_as hG ⟨by omega, r2⟩ (Or.inr r3) r4 tp).symm, q2 p r4 r1⟩
/-- a bracket has one end -/
theorem end_one (hG : GT tx n) {r s : Int} (hr : 0 ≤ r ∧ r < n) (hs : 0 ≤ s ∧ s < n) (tr : tx r = 41) (ts : tx s = 41) (e : opn tx r = opn tx s) : r = s := by
  have key : ∀ a b : Int, 0 ≤ a ∧ a < n → 0 ≤ b ∧ b < n → tx a = 41 → tx b = 41 → opn tx a = opn tx b → ¬ a < b := by
    intro a b ha hb ta tb e hlt
    have oa := opn_ok hG ha (Or.inr ta)
    have ob := opn_ok hG hb (Or.inr tb)
    have ds := dep_s (tx := tx) ha.1
    rw [if_neg (by omega), if_pos ta] at ds
    have := ob.2 (a + 1) (by omega) (by omega)
    have e1 := oa.1.2.2.2
    have e2 := ob.1.2.2.2
    rw [e] at e1
    omega
  have k1 := key r s hr hs tr ts e
  have k2 := key s r hs hr ts tr e.symm
  omega
/-- a star has one bracket -/
theorem star_one {r s st : Int} (hr : r < st ∧ tx r = 41 ∧ ∀ j, r < j → j < st → tx j = 32) (hs : s < st ∧ tx s = 41 ∧ ∀ j, s < j → j < st → tx j = 32) : r = s := by
  rcases Int.lt_trichotomy r s with z | z | z
  · have := hr.2.2 s z hs.1; omega
  · exact z
  · have := hs.2.2 r z hr.1; omega
theorem fi_end {r : Int} (h0 : 0 ≤ r) (tr : tx r = 41) : fi tx (r + 1) = cnt tx (opn tx r) + 1 := by
  rw [fi_s h0, if_neg (by omega), if_neg (by omega), if_neg (by omega), if_pos tr]
theorem fi_st {r st : Int} (h0 : 0 ≤ r) (tr : tx r = 41) (hs : stA tx n r st) : fi tx (st + 1) = cnt tx (opn tx r) + 1 := by
  have e := sp_to (tx := tx) (i := r + 1) (j := st) (by omega) (by have := hs.1; omega) (fun k a b => hs.2.2.2 k (by omega) b)
  rw [fi_s (by have := hs.1; omega), if_neg (by have := hs.2.2.1; omega), if_neg (by have := hs.2.2.1; omega), if_neg (by have := hs.2.2.1; omega), if_neg (by have := hs.2.2.1; omega), e.2.2.2.2]
  exact fi_end h0 tr
theorem ee_lt {k : Int} (h0 : 0 ≤ k) (h1 : k < n) (h : tx k ≠ 32) : 0 ≤ ee tx k ∧ ee tx k < ee tx n ∧ (tx k = 42 → ee tx k + 1 < ee tx n) := by
  have b := ee_b (tx := tx) h0
  have m := ee_le (tx := tx) (p := k + 1) (q := n) (by omega) (by omega)
  rw [ee_s h0] at m
  refine ⟨b.1, ?_, fun q => ?_⟩
  · by_cases q : tx k = 42
    · rw [if_pos q] at m; omega
    · rw [if_neg q, if_neg h] at m; omega
  · rw [if_pos q] at m; omega
noncomputable def psi (tx : Int → Int) (n p : Int) : Int := if p < n ∧ tx p = 40 then cnt tx p else if p < n ∧ tx p = 41 then cnt tx (opn tx p) + 1 else fi tx p
theorem psi_e (hZ : PZ tx n fr to by1) {p : Int} (h0 : 0 ≤ p) : Ecl (EpM (ee tx n) fr to by1) (fi tx p) (psi tx n p) := by
  unfold psi
  by_cases c : p < n ∧ tx p = 40
  · rw [if_pos c]
    have l := ee_lt (tx := tx) h0 c.1 (by omega)
    exact Ecl_s Ecl_r ⟨ee tx p, l.1, l.2.1, (hZ p h0 c.1).2.1 c.2⟩
  · rw [if_neg c]
    by_cases d : p < n ∧ tx p = 41
    · rw [if_pos d]
      have l := ee_lt (tx := tx) h0 d.1 (by omega)
      exact Ecl_s Ecl_r ⟨ee tx p, l.1, l.2.1, (hZ p h0 d.1).2.2.1 (Or.inr d.2)⟩
    · rw [if_neg d]; exact Ecl_r
/-- the steps of a star -/
theorem star_e (hZ : PZ tx n fr to by1) {r st : Int} (h0 : 0 ≤ r) (tr : tx r = 41) (hs : stA tx n r st) : EpM (ee tx n) fr to by1 (cnt tx (opn tx r)) (cnt tx (opn tx r) + 1) ∧ EpM (ee tx n) fr to by1 (cnt tx (opn tx r) + 1) (cnt tx (opn tx r)) := by
  obtain ⟨s1, s2, s3, s4⟩ := hs
  obtain ⟨r', a1, a2, a3, a4, a5, a6⟩ := (hZ st (by omega) s2).2.2.2 s3
  have e : r' = r := star_one ⟨a2, a3, a4⟩ ⟨s1, tr, s4⟩
  rw [e] at a5 a6
  have l := ee_lt (tx := tx) (n := n) (k := st) (by omega) s2 (by omega)
  exact ⟨⟨_, l.1, l.2.1, a5⟩, ⟨_, by omega, l.2.2 s3, a6⟩⟩
theorem psi_ep (hG : GT tx n) (hR : RA tx n n sE pt bh rp) (hZ : PZ tx n fr to by1) {p q : Int} (h : CEp n tx sE pt bh rp p q) : Ecl (EpM (ee tx n) fr to by1) (psi tx n p) (psi tx n q) := by
  obtain ⟨hp, h⟩ := h
  rcases h with ⟨e, e2⟩ | ⟨e, e2⟩ | ⟨e, e2⟩ | ⟨e, e2⟩
  · have e1 : psi tx n p = fi tx (p + 1) := by
      unfold psi
      rw [if_neg (by omega), if_neg (by omega), fi_s hp.1, if_neg (by omega), if_neg (by omega), if_neg (by omega), if_neg (by omega)]
    rw [e1, e2]; exact psi_e hZ (by omega)
  · obtain ⟨r, r1, r2, r3, r4, r5, r6, r7⟩ := op_all hG hR hp.1 hp.2 e
    have e1 : psi tx n p = cnt tx p := by unfold psi; rw [if_pos ⟨hp.2, e⟩]
    rw [e1]
    rw [r5] at e2
    rcases e2 with ⟨k, k1, k2⟩ | ⟨k1, k2⟩
    · have ax := r6 k k1
      have x0 : 0 ≤ chn sE p k := by
        rcases ax with z | z
        · omega
        · exact z.2.2.2
      have f : fi tx (chn sE p k + 1) = cnt tx p := by
        rcases ax with z | z
        · rw [z, fi_s hp.1, if_pos e]
        · rw [fi_s x0, if_neg (by omega), if_neg (by omega), if_pos z.1]
          have : opn tx (chn sE p k) = p := by
            show lo tx (dep tx (chn sE p k) - 1) (chn sE p k) = p
            rw [z.2.1, show dep tx p + 1 - 1 = dep tx p by omega]; exact z.2.2.1
          rw [this]
      rw [k2, ← f]; exact psi_e hZ (by omega)
    · rcases (hR.2 r (by omega) r2 r3).2.2 with ⟨w, st, w1, w2⟩ | w
      · have se := star_e hZ (by omega) r3 w1
        rw [r4] at se
        have f := fi_st (tx := tx) (n := n) (by omega) r3 w1
        rw [r4] at f
        rw [k2, w2]
        refine Ecl_t (Ecl_s Ecl_r se.1) ?_
        rw [← f]; exact psi_e hZ (by have := w1.1; omega)
      · omega
  · obtain ⟨r, r1, r2, r3, r4, r5⟩ := bar_all hG hR hp.1 hp.2 e
    have e1 : psi tx n p = fi tx p := by unfold psi; rw [if_neg (by omega), if_neg (by omega)]
    have e3 : psi tx n r = cnt tx (opn tx p) + 1 := by unfold psi; rw [if_neg (by omega), if_pos ⟨r2, r3⟩, r4]
    rw [e1, e2, r5, e3]
    have l := ee_lt (tx := tx) hp.1 hp.2 (by omega)
    exact Ecl_s Ecl_r ⟨ee tx p, l.1, l.2.1, (hZ p hp.1 hp.2).2.2.1 (Or.inl e)⟩
  · have e1 : psi tx n p = cnt tx (opn tx p) + 1 := by unfold psi; rw [if_neg (by omega), if_pos ⟨hp.2, e⟩]
    obtain ⟨q1, q2, q3⟩ := hR.2 p hp.1 hp.2 e
    rw [e1]
    rcases e2 with e2 | e2
    · rw [e2]
      rcases q3 with ⟨w, st, w1, w2⟩ | w
      · rw [w2, ← fi_st (tx := tx) (n := n) hp.1 e w1]; exact psi_e hZ (by have := w1.1; omega)
      · rw [w.2.1, ← fi_end (tx := tx) hp.1 e]; exact psi_e hZ (by omega)
    · rw [e2.2, q1]
      rcases q3 with ⟨w, st, w1, w2⟩ | w
      · have o := (opn_ok hG hp (Or.inr e)).1
        have e3 : psi tx n (opn tx p) = cnt tx (opn tx p) := by unfold psi; rw [if_pos ⟨by omega, o.2.2.1⟩]
        rw [e3]
        exact Ecl_s Ecl_r (star_e hZ hp.1 e w1).2
      · omega
theorem psi_cl (hG : GT tx n) (hR : RA tx n n sE pt bh rp) (hZ : PZ tx n fr to by1) {p q : Int} (h : Ecl (CEp n tx sE pt bh rp) p q) : Ecl (EpM (ee tx n) fr to by1) (psi tx n p) (psi tx n q) :=
  h (fun x => Ecl (EpM (ee tx n) fr to by1) (psi tx n p) (psi tx n x)) Ecl_r (fun x y a b => Ecl_t a (psi_ep hG hR hZ b))
theorem let_e (hZ : PZ tx n fr to by1) {p c q : Int} (h : CSt n tx p c q) : psi tx n p = fi tx p ∧ StM (ee tx n) fr to by1 (fi tx p) c (fi tx q) := by
  obtain ⟨hp, hc, e, e2⟩ := h
  have l := ee_lt (tx := tx) hp.1 hp.2 (by omega)
  have z := (hZ p hp.1 hp.2).1 ⟨by omega, by omega⟩
  refine ⟨by unfold psi; rw [if_neg (by omega), if_neg (by omega)], hc, ee tx p, l.1, l.2.1, ?_⟩
  rw [e2, fi_s hp.1, if_neg (by omega), if_pos (by omega)]
  rw [show tx p - 97 = c by omega] at z
  exact z
theorem way_1 (hG : GT tx n) (hR : RA tx n n sE pt bh rp) (hZ : PZ tx n fr to by1) : ∀ (w : List Int) (p : Int), Pth (CEp n tx sE pt bh rp) (CSt n tx) w p → Pth (EpM (ee tx n) fr to by1) (StM (ee tx n) fr to by1) w (psi tx n p)
  | [], p, h => by
    have z := psi_e hZ (p := 0) (Int.le_refl 0)
    exact Ecl_t z (psi_cl hG hR hZ h)
  | c :: w, p, h => by
    obtain ⟨a, b, h1, h2, h3⟩ := h
    have ih := way_1 hG hR hZ w a h1
    have l := let_e hZ h2
    rw [l.1] at ih
    exact ⟨fi tx a, fi tx b, ih, l.2, Ecl_t (psi_e hZ (by have := h2.1; have := h2.2.2.2; omega)) (psi_cl hG hR hZ h3)⟩
/-- where a state of the reference lies in the text -/
def Src (tx bh rp : Int → Int) (n k u : Int) : Prop := (k = 0 ∧ u = 0) ∨ (1 ≤ k ∧ k ≤ n ∧ isL (tx (k - 1)) ∧ u = cnt tx (k - 1)) ∨ (0 ≤ k ∧ k < n ∧ tx k = 40 ∧ u = cnt tx k) ∨ ∃ r, 0 ≤ r ∧ r < n ∧ tx r = 41 ∧ u = cnt tx (opn tx r) + 1 ∧ (k = bh r ∨ (rp r = 1 ∧ k = opn tx r))
def Rep (tx sE pt bh rp : Int → Int) (n u q : Int) : Prop := ∀ k, Src tx bh rp n k u → Ecl (CEp n tx sE pt bh rp) q k
theorem cnt_up {i j : Int} (h0 : 0 ≤ i) (h : i < j) (hc : tx i = 40 ∨ isL (tx i)) : (tx i = 40 → cnt tx i + 2 ≤ cnt tx j) ∧ cnt tx i + 1 ≤ cnt tx j := by
  have m := cnt_le (tx := tx) (p := i + 1) (q := j) (by omega) (by omega)
  rw [cnt_s h0] at m
  unfold isL at hc
  by_cases z : tx i = 40
  · rw [if_pos z] at m; exact ⟨fun _ => by omega, by omega⟩
  · rw [if_neg z, if_pos (by omega)] at m; exact ⟨fun q => absurd q z, by omega⟩
/-- the state of a letter lies behind it alone -/
theorem src_l (hG : GT tx n) {k s : Int} (h0 : 0 ≤ k) (h1 : k < n) (hl : isL (tx k)) (h : Src tx bh rp n s (cnt tx k)) : s = k + 1 := by
  have cb := cnt_b (tx := tx) h0
  have hl2 := hl
  unfold isL at hl2
  rcases h with h | ⟨a, b, c, d⟩ | ⟨a, b, c, d⟩ | ⟨r, a, b, c, d, _⟩
  · omega
  · rcases Int.lt_trichotomy k (s - 1) with z | z | z
    · have := (cnt_up (tx := tx) h0 z (Or.inr hl)).2; omega
    · omega
    · have := (cnt_up (tx := tx) (by omega : 0 ≤ s - 1) z (Or.inr c)).2; omega
  · rcases Int.lt_trichotomy k s with z | z | z
    · have := (cnt_up (tx := tx) h0 z (Or.inr hl)).2; omega
    · rw [z] at hl2; omega
    · have := (cnt_up (tx := tx) a z (Or.inl c)).2; omega
  · have o := (opn_ok hG ⟨a, b⟩ (Or.inr c)).1
    rcases Int.lt_trichotomy k (opn tx r) with z | z | z
    · have := (cnt_up (tx := tx) h0 z (Or.inr hl)).2; omega
    · rw [z] at hl2; omega
    · have := (cnt_up (tx := tx) o.1 z (Or.inl o.2.2.1)).1 o.2.2.1; omega
theorem src_o (hG : GT tx n) {k s : Int} (h0 : 0 ≤ k) (h1 : k < n) (hl : tx k = 40) (h : Src tx bh rp n s (cnt tx k)) : s = k := by
  have cb := cnt_b (tx := tx) h0
  rcases h with h | ⟨a, b, c, d⟩ | ⟨a, b, c, d⟩ | ⟨r, a, b, c, d, _⟩
  · omega
  · have c2 := c
    unfold isL at c2
    rcases Int.lt_trichotomy k (s - 1) with z | z | z
    · have := (cnt_up (tx := tx) h0 z (Or.inl hl)).2; omega
    · rw [← z] at c2; omega
    · have := (cnt_up (tx := tx) (by omega : 0 ≤ s - 1) z (Or.inr c)).2; omega
  · rcases Int.lt_trichotomy k s with z | z | z
    · have := (cnt_up (tx := tx) h0 z (Or.inl hl)).2; omega
    · exact z.symm
    · have := (cnt_up (tx := tx) a z (Or.inl c)).2; omega
  · have o := (opn_ok hG ⟨a, b⟩ (Or.inr c)).1
    rcases Int.lt_trichotomy k (opn tx r) with z | z | z
    · have := (cnt_up (tx := tx) h0 z (Or.inl hl)).2; omega
    · rw [z] at d; omega
    · have := (cnt_up (tx := tx) o.1 z (Or.inl o.2.2.1)).1 o.2.2.1; omega
theorem src_e (hG : GT tx n) {r s : Int} (hr : 0 ≤ r ∧ r < n) (tr : tx r = 41) (h : Src tx bh rp n s (cnt tx (opn tx r) + 1)) : s = bh r ∨ (rp r = 1 ∧ s = opn tx r) := by
  have o := (opn_ok hG hr (Or.inr tr)).1
  have cb := cnt_b (tx := tx) o.1
  rcases h with h | ⟨a, b, c, d⟩ | ⟨a, b, c, d⟩ | ⟨r', a, b, c, d, e⟩
  · omega
  · have c2 := c
    unfold isL at c2
    rcases Int.lt_trichotomy (opn tx r) (s - 1) with z | z | z
    · have := (cnt_up (tx := tx) o.1 z (Or.inl o.2.2.1)).1 o.2.2.1; omega
    · have := o.2.2.1; rw [z] at this; omega
    · have := (cnt_up (tx := tx) (by omega : 0 ≤ s - 1) z (Or.inr c)).2; omega
  · rcases Int.lt_trichotomy (opn tx r) s with z | z | z
    · have := (cnt_up (tx := tx) o.1 z (Or.inl o.2.2.1)).1 o.2.2.1; omega
    · rw [z] at d; omega
    · have := (cnt_up (tx := tx) a z (Or.inl c)).1 c; omega
  · have o' := (opn_ok hG ⟨a, b⟩ (Or.inr c)).1
    have e1 : opn tx r = opn tx r' := by
      rcases Int.lt_trichotomy (opn tx r) (opn tx r') with z | z | z
      · have := (cnt_up (tx := tx) o.1 z (Or.inl o.2.2.1)).1 o.2.2.1; omega
      · exact z
      · have := (cnt_up (tx := tx) o'.1 z (Or.inl o'.2.2.1)).1 o'.2.2.1; omega
    have e2 := end_one hG hr ⟨a, b⟩ tr c e1
    rw [← e2] at e; exact e
def dead (tx : Int → Int) (n k : Int) : Prop := ∃ r st, 0 ≤ r ∧ tx r = 41 ∧ stA tx n r st ∧ r < k ∧ k ≤ st
/-- from where the state here comes -/
theorem src_fi (hG : GT tx n) (hR : RA tx n n sE pt bh rp) : ∀ k : Nat, (k : Int) ≤ n → ¬ dead tx n k → ∃ s, Src tx bh rp n s (fi tx k) ∧ Ecl (CEp n tx sE pt bh rp) s k
  | 0, _, _ => ⟨0, Or.inl ⟨rfl, rfl⟩, Ecl_r⟩
  | k + 1, hk, hd => by
    rw [show ((k + 1 : Nat) : Int) = (k : Int) + 1 by omega] at hk hd ⊢
    have g := (hG.2.2 k (by omega) (by omega)).1
    have fs := fi_s (tx := tx) (p := k) (by omega)
    by_cases c1 : tx k = 32
    · have hd2 : ¬ dead tx n k := fun ⟨r, st, a, b, c, d, e⟩ => hd ⟨r, st, a, b, c, by omega, by
        by_cases z : (k : Int) = st
        · have := c.2.2.1; rw [← z] at this; omega
        · omega⟩
      obtain ⟨s, s1, s2⟩ := src_fi hG hR k (by omega) hd2
      rw [if_neg (by omega), if_neg (by omega), if_neg (by omega), if_neg (by omega)] at fs
      exact ⟨s, by rw [fs]; exact s1, Ecl_s s2 ⟨⟨by omega, by omega⟩, Or.inl ⟨c1, rfl⟩⟩⟩
    · by_cases c2 : tx k = 40
      · rw [if_pos c2] at fs
        obtain ⟨r, r1, r2, r3, r4, r5, r6, r7⟩ := op_all hG hR (by omega) (by omega) c2
        refine ⟨k, Or.inr (Or.inr (Or.inl ⟨by omega, by omega, c2, fs⟩)), Ecl_s Ecl_r ⟨⟨by omega, by omega⟩, Or.inr (Or.inl ⟨c2, Or.inl ⟨0, fun j hj => ?_, rfl⟩⟩)⟩⟩
        rw [show j = 0 by omega, r5]; exact r1
      · by_cases c3 : 97 ≤ tx k ∧ tx k ≤ 104
        · rw [if_neg c2, if_pos c3] at fs
          exact ⟨k + 1, Or.inr (Or.inl ⟨by omega, hk, by rw [show (k : Int) + 1 - 1 = k by omega]; exact c3, by rw [show (k : Int) + 1 - 1 = k by omega]; exact fs⟩), Ecl_r⟩
        · by_cases c4 : tx k = 124
          · rw [if_neg c2, if_neg c3, if_pos c4] at fs
            have o := (opn_ok hG (r := k) ⟨by omega, by omega⟩ (Or.inl c4)).1
            obtain ⟨r0, b1, b2, b3, b4, b5⟩ := bar_all hG hR (by omega) (by omega) c4
            obtain ⟨r, r1, r2, r3, r4, r5, r6, r7⟩ := op_all hG hR o.1 (by omega) o.2.2.1
            have rr : r = r0 := end_one hG ⟨by omega, r2⟩ ⟨by omega, b2⟩ r3 b3 (by rw [r4, b4])
            have ask : AS tx (opn tx k) k := Or.inr ⟨c4, by omega, by rw [o.2.2.2]; rfl, by omega⟩
            obtain ⟨j, j1, j2⟩ := r7 k ask (by omega)
            refine ⟨opn tx k, Or.inr (Or.inr (Or.inl ⟨o.1, by omega, o.2.2.1, fs⟩)), Ecl_s Ecl_r ⟨⟨o.1, by omega⟩, Or.inr (Or.inl ⟨o.2.2.1, Or.inl ⟨j, fun i hi => by rw [r5]; exact j2 i hi, by rw [j1]⟩⟩)⟩⟩
          · by_cases c5 : tx k = 41
            · rw [if_neg c2, if_neg c3, if_neg c4, if_pos c5] at fs
              rcases (hR.2 k (by omega) (by omega) c5).2.2 with ⟨w, st, w1, w2⟩ | w
              · exact absurd ⟨k, st, by omega, c5, w1, by omega, by have := w1.1; omega⟩ hd
              · exact ⟨bh k, Or.inr (Or.inr (Or.inr ⟨k, by omega, by omega, c5, fs, Or.inl rfl⟩)), by rw [w.2.1]; exact Ecl_r⟩
            · rw [if_neg c2, if_neg c3, if_neg c4, if_neg c5] at fs
              have c6 : tx k = 42 ∧ sta tx k = 1 := by
                rcases g with g | g | g | g | g
                · exact absurd g c1
                · exact absurd g.1 c2
                · omega
                · exact g
                · exact absurd g c3
              obtain ⟨r, a1, a2, a3, a4⟩ := sta_r k c6.2
              have sa : stA tx n r k := ⟨a2, by omega, c6.1, a4⟩
              rcases (hR.2 r a1 (by omega) a3).2.2 with ⟨w, st, w1, w2⟩ | w
              · have es : st = k := by
                  rcases Int.lt_trichotomy st k with z | z | z
                  · have := a4 st w1.1 z; have := w1.2.2.1; omega
                  · exact z
                  · have := w1.2.2.2 k a2 z; omega
                refine ⟨bh r, Or.inr (Or.inr (Or.inr ⟨r, a1, by omega, a3, ?_, Or.inl rfl⟩)), by rw [w2, es]; exact Ecl_r⟩
                have := fi_st (tx := tx) (n := n) a1 a3 sa
                exact this
              · exact absurd sa (w.2.2 k)
theorem rep_at (hG : GT tx n) (hR : RA tx n n sE pt bh rp) {k q : Int} (h0 : 0 ≤ k) (h1 : k < n) (hc : tx k ≠ 32 ∧ tx k ≠ 42) (h : Rep tx sE pt bh rp n (fi tx k) q) : Ecl (CEp n tx sE pt bh rp) q k := by
  have nd : ¬ dead tx n k := fun ⟨r, st, a, b, c, d, e⟩ => by
    by_cases z : k = st
    · have := c.2.2.1; rw [← z] at this; exact hc.2 this
    · exact hc.1 (c.2.2.2 k d (by omega))
  have key := src_fi hG hR k.toNat (by omega)
  rw [show ((k.toNat : Nat) : Int) = k by omega] at key
  obtain ⟨s, s1, s2⟩ := key nd
  exact Ecl_t (h s s1) s2
theorem rep_o (hG : GT tx n) {k q : Int} (h0 : 0 ≤ k) (h1 : k < n) (hl : tx k = 40) (h : Ecl (CEp n tx sE pt bh rp) q k) : Rep tx sE pt bh rp n (cnt tx k) q := fun s hs => by rw [src_o hG h0 h1 hl hs]; exact h
/-- at a bracket's end -/
theorem rep_r (hG : GT tx n) (hR : RA tx n n sE pt bh rp) {r q : Int} (hr : 0 ≤ r ∧ r < n) (tr : tx r = 41) (h : Ecl (CEp n tx sE pt bh rp) q r) : Rep tx sE pt bh rp n (cnt tx (opn tx r) + 1) q := fun s hs => by
  rcases src_e hG hr tr hs with z | z
  · rw [z]; exact Ecl_s h ⟨hr, Or.inr (Or.inr (Or.inr ⟨tr, Or.inl rfl⟩))⟩
  · rw [z.2]; exact Ecl_s h ⟨hr, Or.inr (Or.inr (Or.inr ⟨tr, Or.inr ⟨z.1, (hR.2 r hr.1 hr.2 tr).1.symm⟩⟩))⟩
theorem rep_ep (hG : GT tx n) (hR : RA tx n n sE pt bh rp) (hZ : PZ tx n fr to by1) {u v q : Int} (h : Rep tx sE pt bh rp n u q) (e : EpM (ee tx n) fr to by1 u v) : Rep tx sE pt bh rp n v q := by
  obtain ⟨i, i0, i1, i2⟩ := e
  have n0 := hG.1.1
  have key := ed_of (tx := tx) n.toNat i i0
  rw [show ((n.toNat : Nat) : Int) = n by omega] at key
  obtain ⟨k, k0, k1, k2, k3⟩ := key i1
  obtain ⟨z1, z2, z3, z4⟩ := hZ k k0 k1
  have g := (hG.2.2 k k0 k1).1
  by_cases c42 : tx k = 42
  · obtain ⟨r, r1, r2, r3, r4, r5, r6⟩ := z4 c42
    have sa : stA tx n r k := ⟨r2, k1, c42, r4⟩
    have o := (opn_ok hG (r := r) ⟨r1, by omega⟩ (Or.inr r3)).1
    have rp1 : rp r = 1 ∧ bh r = k + 1 := by
      rcases (hR.2 r r1 (by omega) r3).2.2 with ⟨w, st, w1, w2⟩ | w
      · have es : st = k := by
          rcases Int.lt_trichotomy st k with z | z | z
          · have := r4 st w1.1 z; have := w1.2.2.1; omega
          · exact z
          · have := w1.2.2.2 k r2 z; omega
        exact ⟨w, by rw [w2, es]⟩
      · exact absurd sa (w.2.2 k)
    rcases k3 with k3 | ⟨_, k3⟩
    · rw [k3] at i2
      have e1 := i2.1.symm.trans r5.1
      have e2 := i2.2.1.symm.trans r5.2.1
      rw [e1] at h
      have hb := h (opn tx r) (Or.inr (Or.inr (Or.inl ⟨o.1, by omega, o.2.2.1, rfl⟩)))
      obtain ⟨r0, a1, a2, a3, a4, a5, a6, a7⟩ := op_all hG hR o.1 (by omega) o.2.2.1
      have er : r0 = r := end_one hG ⟨by omega, a2⟩ ⟨r1, by omega⟩ a3 r3 a4
      rw [e2]
      intro s hs
      rcases src_e hG ⟨r1, by omega⟩ r3 hs with z | z
      · rw [z]; exact Ecl_s hb ⟨⟨o.1, by omega⟩, Or.inr (Or.inl ⟨o.2.2.1, Or.inr ⟨by rw [a5, er]; exact rp1.1, by rw [a5, er]⟩⟩)⟩
      · rw [z.2]; exact hb
    · rw [k3] at i2
      have e1 := i2.1.symm.trans r6.1
      have e2 := i2.2.1.symm.trans r6.2.1
      rw [e1] at h
      have hb := h (opn tx r) (Or.inr (Or.inr (Or.inr ⟨r, r1, by omega, r3, rfl, Or.inr ⟨rp1.1, rfl⟩⟩)))
      rw [e2]
      exact rep_o hG o.1 (by omega) o.2.2.1 hb
  · have k3 : i = ee tx k := by
      rcases k3 with z | z
      · exact z
      · exact absurd z.1 c42
    rw [k3] at i2
    rcases g with g | g | g | g | g
    · exact absurd g k2
    · have w := z2 g.1
      have e1 := i2.1.symm.trans w.1
      have e2 := i2.2.1.symm.trans w.2.1
      rw [e1] at h
      rw [e2]
      exact rep_o hG k0 k1 g.1 (rep_at hG hR k0 k1 ⟨k2, c42⟩ h)
    · have w := z3 (by omega)
      have e1 := i2.1.symm.trans w.1
      have e2 := i2.2.1.symm.trans w.2.1
      rw [e1] at h
      rw [e2]
      have hk := rep_at hG hR k0 k1 ⟨k2, c42⟩ h
      rcases g.1 with c | c
      · exact rep_r hG hR ⟨k0, k1⟩ c hk
      · obtain ⟨r0, b1, b2, b3, b4, b5⟩ := bar_all hG hR k0 k1 c
        rw [← b4]
        exact rep_r hG hR ⟨by omega, b2⟩ b3 (Ecl_s hk ⟨⟨k0, k1⟩, Or.inr (Or.inr (Or.inl ⟨c, b5.symm⟩))⟩)
    · exact absurd g.1 c42
    · have w := (z1 g).2.2
      have := i2.2.2.symm.trans w
      omega
theorem rep_cl (hG : GT tx n) (hR : RA tx n n sE pt bh rp) (hZ : PZ tx n fr to by1) {u v q : Int} (h : Rep tx sE pt bh rp n u q) (e : Ecl (EpM (ee tx n) fr to by1) u v) : Rep tx sE pt bh rp n v q :=
  e (fun x => Rep tx sE pt bh rp n x q) h (fun x y a b => rep_ep hG hR hZ a b)
theorem let_r (hG : GT tx n) (hZ : PZ tx n fr to by1) {u c v : Int} (h : StM (ee tx n) fr to by1 u c v) : ∃ k, (0 ≤ k ∧ k < n) ∧ u = fi tx k ∧ v = cnt tx k ∧ isL (tx k) ∧ CSt n tx k c (k + 1) := by
  obtain ⟨hc, i, i0, i1, i2⟩ := h
  have n0 := hG.1.1
  have key := ed_of (tx := tx) n.toNat i i0
  rw [show ((n.toNat : Nat) : Int) = n by omega] at key
  obtain ⟨k, k0, k1, k2, k3⟩ := key i1
  obtain ⟨z1, z2, z3, z4⟩ := hZ k k0 k1
  have g := (hG.2.2 k k0 k1).1
  have b8 : by1 i = c := i2.2.2
  by_cases c42 : tx k = 42
  · exfalso
    obtain ⟨r, r1, r2, r3, r4, r5, r6⟩ := z4 c42
    rcases k3 with k3 | ⟨_, k3⟩
    · rw [k3] at b8; have := r5.2.2; omega
    · rw [k3] at b8; have := r6.2.2; omega
  · have k3 : i = ee tx k := by
      rcases k3 with z | z
      · exact z
      · exact absurd z.1 c42
    rw [k3] at i2 b8
    rcases g with g | g | g | g | g
    · exact absurd g k2
    · have := (z2 g.1).2.2; omega
    · have := (z3 (by omega)).2.2; omega
    · exact absurd g.1 c42
    · have w := z1 g
      have w3 := w.2.2
      exact ⟨k, ⟨k0, k1⟩, i2.1.symm.trans w.1, i2.2.1.symm.trans w.2.1, g, ⟨k0, k1⟩, hc, by omega, rfl⟩
theorem way_2 (hG : GT tx n) (hR : RA tx n n sE pt bh rp) (hZ : PZ tx n fr to by1) : ∀ (w : List Int) (u : Int), Pth (EpM (ee tx n) fr to by1) (StM (ee tx n) fr to by1) w u → ∃ q, Pth (CEp n tx sE pt bh rp) (CSt n tx) w q ∧ Rep tx sE pt bh rp n u q
  | [], u, h => by
    refine ⟨0, Ecl_r, rep_cl hG hR hZ (u := 0) (fun k hk => ?_) h⟩
    have cb : ∀ x : Int, 0 ≤ x → 1 ≤ cnt tx x := fun x hx => (cnt_b (tx := tx) hx).1
    rcases hk with z | ⟨a, b, c, d⟩ | ⟨a, b, c, d⟩ | ⟨r, a, b, c, d, _⟩
    · rw [z.1]; exact Ecl_r
    · have := cb (k - 1) (by omega); omega
    · have := cb k a; omega
    · have o := (opn_ok hG ⟨a, b⟩ (Or.inr c)).1
      have := cb (opn tx r) o.1; omega
  | c :: w, u, h => by
    obtain ⟨a, b, h1, h2, h3⟩ := h
    obtain ⟨q, q1, q2⟩ := way_2 hG hR hZ w a h1
    obtain ⟨k, k1, k2, k3, k4, k5⟩ := let_r hG hZ h2
    rw [k2] at q2
    have k4b := k4
    unfold isL at k4b
    have qk := rep_at hG hR k1.1 k1.2 ⟨by omega, by omega⟩ q2
    refine ⟨k + 1, ⟨k, k + 1, Pth_e q1 qk, k5, Ecl_r⟩, rep_cl hG hR hZ (u := b) (fun s hs => ?_) h3⟩
    rw [k3] at hs
    rw [src_l hG k1.1 k1.2 k4 hs]; exact Ecl_r
/-- the same breaks -/
theorem brk_same (hG : GT tx n) (hR : RA tx n n sE pt bh rp) (hZ : PZ tx n fr to by1) (nx : Int → Int) (v : List Int) : Brk (CEp n tx sE pt bh rp) (CSt n tx) nx v ↔ Brk (EpM (ee tx n) fr to by1) (StM (ee tx n) fr to by1) nx v := by
  cases v with
  | nil => exact Iff.rfl
  | cons c w =>
    constructor
    · rintro ⟨a1, a2, p, p', a3, a4⟩
      have l := let_e hZ a4
      have wy := way_1 hG hR hZ w p a3
      rw [l.1] at wy
      exact ⟨a1, a2, fi tx p, fi tx p', wy, l.2⟩
    · rintro ⟨a1, a2, p, p', a3, a4⟩
      obtain ⟨q, q1, q2⟩ := way_2 hG hR hZ w p a3
      obtain ⟨k, k1, k2, k3, k4, k5⟩ := let_r hG hZ a4
      rw [k2] at q2
      unfold isL at k4
      exact ⟨a1, a2, k, k + 1, Pth_e q1 (rep_at hG hR k1.1 k1.2 ⟨by omega, by omega⟩ q2), k5⟩
end SAME
