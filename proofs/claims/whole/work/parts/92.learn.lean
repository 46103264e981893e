/-! LEARNING, pure: node after node, melted with the first kept one with which no wrong row is taken, or kept -/
noncomputable def tryK (T : (Int → Int) → (Int → Int) → Prop) (kept : Int → Int) (k : Int) (it ch : Int → Int) : Nat → Int → Option ((Int → Int) × (Int → Int))
  | 0, _ => none
  | f + 1, i => iteP (T (mst 721 it ch [(kept i, k)]).1 (mst 721 it ch [(kept i, k)]).2) (tryK T kept k it ch f (i + 1)) (some (mst 721 it ch [(kept i, k)]))
noncomputable def lrn (T : (Int → Int) → (Int → Int) → Prop) : Nat → Int → (Int → Int) → (Int → Int) → (Int → Int) → Int → Option (((Int → Int) × (Int → Int)) × (Int → Int) × Int)
  | 0, _, it, ch, kept, many => some ((it, ch), kept, many)
  | f + 1, k, it, ch, kept, many =>
    if it k = k then
      match tryK T kept k it ch many.toNat 0 with
      | some r => lrn T f (k + 1) r.1 r.2 kept many
      | none => if many = 30 then none else lrn T f (k + 1) it ch (updI kept many k) (many + 1)
    else lrn T f (k + 1) it ch kept many
section LEARN
variable {T : (Int → Int) → (Int → Int) → Prop} {f : Nat} {k many : Int} {it ch kept : Int → Int}
theorem tryK_yes {i : Int} (h : ¬ T (mst 721 it ch [(kept i, k)]).1 (mst 721 it ch [(kept i, k)]).2) : tryK T kept k it ch (f + 1) i = some (mst 721 it ch [(kept i, k)]) := by rw [tryK, iteP_neg h]
theorem tryK_no {i : Int} (h : T (mst 721 it ch [(kept i, k)]).1 (mst 721 it ch [(kept i, k)]).2) : tryK T kept k it ch (f + 1) i = tryK T kept k it ch f (i + 1) := by rw [tryK, iteP_pos h]
theorem lrn_skip (h : ¬ it k = k) : lrn T (f + 1) k it ch kept many = lrn T f (k + 1) it ch kept many := by rw [lrn, if_neg h]
theorem lrn_some {r : (Int → Int) × (Int → Int)} (h : it k = k) (ht : tryK T kept k it ch many.toNat 0 = some r) : lrn T (f + 1) k it ch kept many = lrn T f (k + 1) r.1 r.2 kept many := by rw [lrn, if_pos h, ht]
theorem lrn_full (h : it k = k) (ht : tryK T kept k it ch many.toNat 0 = none) (hm : many = 30) : lrn T (f + 1) k it ch kept many = none := by
  rw [lrn, if_pos h, ht]; simp only [if_pos hm]
theorem lrn_keep (h : it k = k) (ht : tryK T kept k it ch many.toNat 0 = none) (hm : ¬ many = 30) : lrn T (f + 1) k it ch kept many = lrn T f (k + 1) it ch (updI kept many k) (many + 1) := by
  rw [lrn, if_pos h, ht]; simp only [if_neg hm]
end LEARN
def LI (m : Int) (c0 it ch kept : Int → Int) (many k : Int) : Prop := Fo m it ∧ ChOk m ch ∧ Eg m it ch ≤ 720 ∧ EH m c0 it ch [] ∧ (1 ≤ many ∧ many ≤ 30) ∧ (∀ i, 0 ≤ i → i < many → 0 ≤ kept i ∧ kept i < k) ∧ (∀ i j, 0 ≤ i → i < j → j < many → kept i < kept j) ∧ (∀ x, 0 ≤ x → x < k → it x = x → ∃ i, 0 ≤ i ∧ i < many ∧ kept i = x) ∧ kept 0 = 0
theorem EH_w {m : Int} {c0 it ch : Int → Int} {st : List (Int × Int)} (h : EH m c0 it ch []) : EH m c0 it ch st := fun f a _ => h f a (fun p hp => by cases hp)
theorem LI_mi {m : Int} {c0 it ch kept : Int → Int} {many k : Int} (h : LI m c0 it ch kept many k) (hk : k < m) {i : Int} (hi : 0 ≤ i ∧ i < many) : MI m it ch [(kept i, k)] 0 ∧ kept i < k := by
  obtain ⟨a, b, c, d, e, f, g, q, w⟩ := h
  have fi := f i hi.1 hi.2
  refine ⟨⟨a, b, fun p hp => ?_, by show (0 : Int) + ((0 + 1 : Nat) : Int) + _ ≤ 721; omega⟩, fi.2⟩
  rcases List.mem_cons.1 hp with z | z
  · rw [z]; exact ⟨by show 0 ≤ kept i ∧ kept i < m; omega, by show 0 ≤ k ∧ k < m; omega⟩
  · cases z
theorem mst_one {m : Int} {c0 it ch : Int → Int} {a k : Int} (h : MI m it ch [(a, k)] 0) (e : EH m c0 it ch []) (hk : a < k) (hx : it k = k) :
    Fo m (mst 721 it ch [(a, k)]).1 ∧ ChOk m (mst 721 it ch [(a, k)]).2 ∧ Eg m (mst 721 it ch [(a, k)]).1 (mst 721 it ch [(a, k)]).2 ≤ 720 ∧ EH m c0 (mst 721 it ch [(a, k)]).1 (mst 721 it ch [(a, k)]).2 [] ∧ (∀ x, ¬ it x = x → ¬ (mst 721 it ch [(a, k)]).1 x = x) ∧ ¬ (mst 721 it ch [(a, k)]).1 k = k := by
  have g := h.2.2.1 (a, k) (List.mem_cons_self ..)
  have rk := rt_ok h.1 g.1.1 g.1.2
  have hp : isP it a k (rt it a) k := Or.inl ⟨rfl, rt_self hx⟩
  have hk2 : rt it a ≤ a := rk.2.1
  have hl : rt it a < k := by omega
  have es : mst 721 it ch [(a, k)] = mst 720 (updI it k (rt it a)) (jn ch (rt it a) k 8) (pshI ch (rt it a) k 8 ++ []) := mst_ne hp hl
  rw [es]
  obtain ⟨⟨t2, t3, q⟩, q2, q3⟩ := mst_ok (c0 := c0) 720 _ _ _ 1 (by omega) (MI_ne h hp hl) (EH_ne h.1 g.1 g.2 (EH_w e) hp hl)
  refine ⟨q.1, q.2.1, ?_, q2, fun x hx2 => q3 x ?_, q3 k ?_⟩
  · have := q.2.2.2
    rw [List.length_nil] at this
    omega
  · unfold updI
    by_cases z : x = k
    · rw [if_pos z]; omega
    · rw [if_neg z]; exact hx2
  · rw [updI_at]; omega
theorem tryK_ok {T : (Int → Int) → (Int → Int) → Prop} {m : Int} {c0 it ch kept : Int → Int} {many k : Int} {r : (Int → Int) × (Int → Int)} (h : LI m c0 it ch kept many k) (hk : k < m) (hx : it k = k) : ∀ (f : Nat) (i : Int), 0 ≤ i → i + f = many → tryK T kept k it ch f i = some r → LI m c0 r.1 r.2 kept many (k + 1)
  | 0, i, _, _, e => by cases e
  | f + 1, i, h0, h1, e => by
    by_cases t : T (mst 721 it ch [(kept i, k)]).1 (mst 721 it ch [(kept i, k)]).2
    · rw [tryK_no t] at e; exact tryK_ok h hk hx f (i + 1) (by omega) (by omega) e
    · rw [tryK_yes t] at e
      have e := Option.some.inj e
      obtain ⟨q1, q2⟩ := LI_mi h hk (i := i) ⟨h0, by omega⟩
      obtain ⟨p1, p2, p3, p4, p5, p6⟩ := mst_one q1 h.2.2.2.1 q2 hx
      rw [e] at p1 p2 p3 p4 p5 p6
      obtain ⟨a, b, c, d, ee, ff, g, q, w⟩ := h
      refine ⟨p1, p2, p3, p4, ee, fun j x y => ⟨(ff j x y).1, by have := (ff j x y).2; omega⟩, g, fun x y z u => ?_, w⟩
      by_cases xk : x = k
      · rw [xk] at u; exact absurd u p6
      · exact q x y (by omega) (by by_cases v : it x = x; exact v; exact absurd u (p5 x v))
theorem LI_skip {m : Int} {c0 it ch kept : Int → Int} {many k : Int} (h : LI m c0 it ch kept many k) (hx : ¬ it k = k) : LI m c0 it ch kept many (k + 1) := by
  obtain ⟨a, b, c, d, ee, ff, g, q, w⟩ := h
  refine ⟨a, b, c, d, ee, fun j x y => ⟨(ff j x y).1, by have := (ff j x y).2; omega⟩, g, fun x y z u => ?_, w⟩
  by_cases xk : x = k
  · rw [xk] at u; exact absurd u hx
  · exact q x y (by omega) u
theorem LI_keep {m : Int} {c0 it ch kept : Int → Int} {many k : Int} (h : LI m c0 it ch kept many k) (h0 : 0 ≤ k) (hm : ¬ many = 30) : LI m c0 it ch (updI kept many k) (many + 1) (k + 1) := by
  obtain ⟨a, b, c, d, ee, ff, g, q, w⟩ := h
  refine ⟨a, b, c, d, by omega, fun j x y => ?_, fun i j x y z => ?_, fun x y z u => ?_, by rw [updI_ne (by omega)]; exact w⟩
  · by_cases e : j = many
    · rw [e, updI_at]; omega
    · rw [updI_ne e]; have := ff j x (by omega); omega
  · rw [updI_ne (show i ≠ many by omega)]
    by_cases e : j = many
    · rw [e, updI_at]; exact (ff i x (by omega)).2
    · rw [updI_ne e]; exact g i j x y (by omega)
  · by_cases xk : x = k
    · exact ⟨many, by omega, by omega, by rw [updI_at, xk]⟩
    · obtain ⟨i, i1, i2, i3⟩ := q x y (by omega) u
      exact ⟨i, i1, by omega, by rw [updI_ne (by omega)]; exact i3⟩
theorem lrn_ok {T : (Int → Int) → (Int → Int) → Prop} {m : Int} {c0 : Int → Int} {r : ((Int → Int) × (Int → Int)) × (Int → Int) × Int} : ∀ (f : Nat) (k : Int) (it ch kept : Int → Int) (many : Int), 0 ≤ k → k + f = m → LI m c0 it ch kept many k → lrn T f k it ch kept many = some r → LI m c0 r.1.1 r.1.2 r.2.1 r.2.2 m
  | 0, k, it, ch, kept, many, h0, h1, h, e => by
    have e := Option.some.inj e
    rw [show k = m by omega] at h
    rw [← e]; exact h
  | f + 1, k, it, ch, kept, many, h0, h1, h, e => by
    by_cases z : it k = k
    · cases t : tryK T kept k it ch many.toNat 0 with
      | some q =>
        rw [lrn_some z t] at e
        exact lrn_ok f (k + 1) _ _ _ _ (by omega) (by omega) (tryK_ok h (by omega) z many.toNat 0 (by omega) (by have := h.2.2.2.2.1; omega) t) e
      | none =>
        by_cases m30 : many = 30
        · rw [lrn_full z t m30] at e; cases e
        · rw [lrn_keep z t m30] at e
          exact lrn_ok f (k + 1) _ _ _ _ (by omega) (by omega) (LI_keep h h0 m30) e
    · rw [lrn_skip z] at e
      exact lrn_ok f (k + 1) _ _ _ _ (by omega) (by omega) (LI_skip h z) e
theorem LI_0 {n m : Int} {cu ca ch pr lc kept : Int → Int} (h : TrOk n cu ca m ch pr lc) (hm : m ≤ 721) (hk : kept 0 = 0) {it ch' : Int → Int} (hi : ∀ x, 0 ≤ x → x < m → it x = x) (hc : ∀ i, 0 ≤ i → i < 8 * m → ch' i = ch i) : LI m ch it ch' kept 1 1 := by
  have h1 := h.1
  have hFo : Fo m it := fun x a b => by rw [hi x a b]; omega
  refine ⟨hFo, fun i a b => ?_, ?_, fun f _ _ x c a b a' b' q => ?_, by omega, fun i a b => by rw [show i = 0 by omega, hk]; omega, fun i j a b c => by omega, fun x a b _ => ⟨0, by omega, by omega, by rw [hk]; omega⟩, hk⟩
  · rw [hc i a b]
    have := h.2.2.1 (i / 8) (i % 8) (by omega) (by omega) (by omega) (by omega)
    rw [show 8 * (i / 8) + i % 8 = i by omega] at this
    omega
  · have := eg_tree h
    have e2 : Eg m it ch' ≤ Eg m (fun x => x) ch := by
      unfold Eg
      have := cn_le (P := fun i => it (i / 8) = i / 8 ∧ ¬ ch' i = -1) (Q := fun i => (fun x : Int => x) (i / 8) = i / 8 ∧ ¬ ch i = -1) (8 * m).toNat (fun j a b ⟨p, q⟩ => ⟨rfl, by rw [← hc j a (by omega)]; exact q⟩)
      rw [show ((8 * m).toNat : Int) = 8 * m by omega] at this
      exact this
    omega
  · rw [rt_self (hi x a b), hc _ (by omega) (by omega)]; exact ⟨q, rfl⟩
/-- the law that comes of it -/
def LwP (it ch kept : Int → Int) (many : Int) (nx : Int → Int) : Prop := ∀ s c, 0 ≤ s → s < many → 0 ≤ c → c < 8 → (ch (8 * kept s + c) = -1 ∧ nx (8 * s + c) = -1) ∨ (¬ ch (8 * kept s + c) = -1 ∧ 0 ≤ nx (8 * s + c) ∧ nx (8 * s + c) < many ∧ kept (nx (8 * s + c)) = rt it (ch (8 * kept s + c)))
theorem kp_one {m : Int} {c0 it ch kept : Int → Int} {many k : Int} (h : LI m c0 it ch kept many k) {i j : Int} (hi : 0 ≤ i ∧ i < many) (hj : 0 ≤ j ∧ j < many) (e : kept i = kept j) : i = j := by
  rcases Int.lt_trichotomy i j with z | z | z
  · have := h.2.2.2.2.2.2.1 i j hi.1 z hj.2; omega
  · exact z
  · have := h.2.2.2.2.2.2.1 j i hj.1 z hi.2; omega
theorem LwP_one {m : Int} {c0 it ch kept : Int → Int} {many k : Int} (h : LI m c0 it ch kept many k) {nx nx' : Int → Int} (a : LwP it ch kept many nx) (b : LwP it ch kept many nx') : ∀ i, 0 ≤ i → i < 8 * many → nx' i = nx i := by
  intro i p q
  have x := a (i / 8) (i % 8) (by omega) (by omega) (by omega) (by omega)
  have y := b (i / 8) (i % 8) (by omega) (by omega) (by omega) (by omega)
  rw [show 8 * (i / 8) + i % 8 = i by omega] at x y
  rcases x with x | x
  · rcases y with y | y
    · rw [x.2, y.2]
    · exact absurd x.1 y.1
  · rcases y with y | y
    · exact absurd y.1 x.1
    · exact kp_one h ⟨y.2.1, y.2.2.1⟩ ⟨x.2.1, x.2.2.1⟩ (by rw [y.2.2.2, x.2.2.2])
/-- the counting of the steps -/
def crw (nx tm ca : Int → Int) (r : Int) : Nat → (Int → Int) × Int
  | 0 => (tm, 0)
  | l + 1 => (updI (crw nx tm ca r l).1 (8 * (crw nx tm ca r l).2 + ca (12 * r + l)) ((crw nx tm ca r l).1 (8 * (crw nx tm ca r l).2 + ca (12 * r + l)) + 1), nx (8 * (crw nx tm ca r l).2 + ca (12 * r + l)))
def cfo (nx ca cu tm : Int → Int) : Nat → (Int → Int)
  | 0 => tm
  | r + 1 => (crw nx (cfo nx ca cu tm r) ca r (cu r).toNat).1
/-- a cut row's state is that of its node: the law takes it -/
theorem crw_st {n m : Int} {cu ca c0 pr lc it ch kept nx : Int → Int} {many : Int} (hc : CuOk n cu ca) (hT : TrOk n cu ca m c0 pr lc) (h : LI m c0 it ch kept many m) (hL : LwP it ch kept many nx) {r : Int} (hr : 0 ≤ r ∧ r < n) (tm : Int → Int) : ∀ l : Nat, (l : Int) ≤ cu r ∨ l = 0 → 0 ≤ (crw nx tm ca r l).2 ∧ (crw nx tm ca r l).2 < many ∧ kept (crw nx tm ca r l).2 = rt it (ndf c0 ca r l)
  | 0, _ => by
    have e : rt it 0 = 0 := by
      have m1 := hT.1
      have := rt_ok h.1 (x := 0) (by omega) (by omega)
      omega
    refine ⟨Int.le_refl _, ?_, ?_⟩
    · show (0 : Int) < many; have := h.2.2.2.2.1; omega
    · show kept 0 = rt it 0; rw [e]; exact h.2.2.2.2.2.2.2.2
  | l + 1, hl => by
    have ih := crw_st hc hT h hL hr tm l (by omega)
    have h1 := hc r hr.1 hr.2 l (by omega)
    have h2 := hT.2.2.2.2.1 r hr.1 hr.2 l (by omega)
    have i1 := nd_in hc hT hr l (by omega)
    have e := h.2.2.2.1 (rt it) (fun x a b => rt_self (rt_ok h.1 a b).2.2) (fun p hp => by cases hp) (ndf c0 ca r l) (ca (12 * r + l)) i1.1 i1.2 h1.1 h1.2 h2
    have w := hL _ (ca (12 * r + l)) ih.1 ih.2.1 h1.1 h1.2
    rw [ih.2.2] at w
    rcases w with w | w
    · exact absurd w.1 e.1
    · refine ⟨w.2.1, w.2.2.1, ?_⟩
      show kept (nx _) = rt it (c0 _)
      rw [w.2.2.2, e.2]
theorem crw_rg {nx tm ca : Int → Int} {r b w : Int} (h : ∀ i, 0 ≤ i → i < w → 0 ≤ tm i ∧ tm i ≤ b) : ∀ l : Nat, ∀ i, 0 ≤ i → i < w → 0 ≤ (crw nx tm ca r l).1 i ∧ (crw nx tm ca r l).1 i ≤ b + l
  | 0, i, p, q => by have := h i p q; show 0 ≤ tm i ∧ tm i ≤ b + ((0 : Nat) : Int); omega
  | l + 1, i, p, q => by
    have ih := crw_rg (nx := nx) (ca := ca) (r := r) h l i p q
    show 0 ≤ updI _ _ _ i ∧ updI _ _ _ i ≤ _
    unfold updI
    by_cases e : i = 8 * (crw nx tm ca r l).2 + ca (12 * r + l)
    · rw [if_pos e, ← e]; omega
    · rw [if_neg e]; omega
theorem crw_cg {n m : Int} {cu ca c0 pr lc it ch kept nx nx' : Int → Int} {many : Int} (hc : CuOk n cu ca) (hT : TrOk n cu ca m c0 pr lc) (h : LI m c0 it ch kept many m) (hL : LwP it ch kept many nx) (hn : ∀ i, 0 ≤ i → i < 8 * many → nx' i = nx i) {r : Int} (hr : 0 ≤ r ∧ r < n) {tm tm' : Int → Int} (ht : ∀ i, 0 ≤ i → i < 8 * many → tm' i = tm i) : ∀ l : Nat, (l : Int) ≤ cu r ∨ l = 0 → (crw nx' tm' ca r l).2 = (crw nx tm ca r l).2 ∧ ∀ i, 0 ≤ i → i < 8 * many → (crw nx' tm' ca r l).1 i = (crw nx tm ca r l).1 i
  | 0, _ => ⟨rfl, ht⟩
  | l + 1, hl => by
    have ih := crw_cg hc hT h hL hn hr ht l (by omega)
    have s := crw_st hc hT h hL hr tm l (by omega)
    have h1 := hc r hr.1 hr.2 l (by omega)
    refine ⟨?_, fun i a b => ?_⟩
    · show nx' _ = nx _
      rw [ih.1]; exact hn _ (by omega) (by omega)
    · show updI _ _ _ i = updI _ _ _ i
      rw [ih.1]
      unfold updI
      split
      · rw [ih.2 _ (by omega) (by omega)]
      · exact ih.2 i a b
theorem rt_cg {m : Int} {it it' : Int → Int} (hF : Fo m it) (h : ∀ x, 0 ≤ x → x < m → it' x = it x) : ∀ (N : Nat) (x : Int), x < N → 0 ≤ x → x < m → rt it' x = rt it x
  | 0, x, a, b, _ => by omega
  | N + 1, x, a, b, c => by
    have hF' : Fo m it' := fun y p q => by rw [h y p q]; exact hF y p q
    by_cases e : it x = x
    · rw [rt_self e, rt_self (by rw [h x b c]; exact e)]
    · have f := hF x b c
      rw [rt_go hF' b c, rt_go hF b c, h x b c]
      exact rt_cg hF h N (it x) (by omega) f.1 (by omega)
def AG (m : Int) (it ch it' ch' : Int → Int) : Prop := (∀ x, 0 ≤ x → x < m → it' x = it x) ∧ ∀ i, 0 ≤ i → i < 8 * m → ch' i = ch i
theorem AG.rt {m : Int} {it ch it' ch' : Int → Int} (hF : Fo m it) (h : AG m it ch it' ch') {x : Int} (a : 0 ≤ x) (b : x < m) : rt it' x = rt it x := rt_cg hF h.1 (x.toNat + 1) x (by omega) a b
theorem mst_cg {m : Int} : ∀ (f : Nat) (it ch it' ch' : Int → Int) (st : List (Int × Int)), Fo m it → ChOk m ch → StOk m st → AG m it ch it' ch' → AG m (mst f it ch st).1 (mst f it ch st).2 (mst f it' ch' st).1 (mst f it' ch' st).2
  | 0, it, ch, it', ch', st, _, _, _, h => h
  | f + 1, it, ch, it', ch', [], _, _, _, h => h
  | f + 1, it, ch, it', ch', (x, y) :: st, hF, hC, hS, h => by
    have g := hS (x, y) (List.mem_cons_self ..)
    have ex := h.rt hF g.1.1 g.1.2
    have ey := h.rt hF g.2.1 g.2.2
    have hS2 : StOk m st := fun p hp => hS p (List.mem_cons_of_mem _ hp)
    by_cases q : rt it x = rt it y
    · rw [mst_eq q, mst_eq (by rw [ex, ey]; exact q)]
      exact mst_cg f it ch it' ch' st hF hC hS2 h
    · obtain ⟨lo, hi, hp, hl⟩ : ∃ lo hi, isP it x y lo hi ∧ lo < hi := by
        rcases Int.lt_or_gt_of_ne q with z | z
        · exact ⟨_, _, Or.inl ⟨rfl, rfl⟩, z⟩
        · exact ⟨_, _, Or.inr ⟨rfl, rfl⟩, z⟩
      have hp' : isP it' x y lo hi := by unfold isP; rw [ex, ey]; exact hp
      obtain ⟨q1, q2, q3, q4⟩ := isP_ok hF g.1 g.2 hp hl
      rw [mst_ne hp hl, mst_ne hp' hl, psh_cg h.2 ⟨q1, by omega⟩ ⟨by omega, q2⟩ 8 (by omega)]
      refine mst_cg f _ _ _ _ _ (updI_fo hF q1 hl) (jn_ok hC (by omega) (by omega)) (fun p hp => ?_) ⟨fun z a b => ?_, jn_cg h.2 ⟨q1, by omega⟩ ⟨by omega, q2⟩ (by omega)⟩
      · rcases List.mem_append.1 hp with w | w
        · exact pshI_ok hC (by omega) (by omega) 8 (by omega) p w
        · exact hS2 p w
      · unfold updI
        split
        · rfl
        · exact h.1 z a b
theorem cfo_cg {n m : Int} {cu cu' ca c0 pr lc it ch kept nx nx' : Int → Int} {many : Int} (hc : CuOk n cu ca) (hT : TrOk n cu ca m c0 pr lc) (h : LI m c0 it ch kept many m) (hL : LwP it ch kept many nx) (hn : ∀ i, 0 ≤ i → i < 8 * many → nx' i = nx i) (hu : ∀ r, 0 ≤ r → r < n → (cu' r).toNat = (cu r).toNat) {tm tm' : Int → Int} (ht : ∀ i, 0 ≤ i → i < 8 * many → tm' i = tm i) : ∀ r : Nat, (r : Int) ≤ n → ∀ i, 0 ≤ i → i < 8 * many → cfo nx' ca cu' tm' r i = cfo nx ca cu tm r i
  | 0, _ => ht
  | r + 1, hr => by
    have ih := cfo_cg hc hT h hL hn hu ht r (by omega)
    intro i a b
    rw [cfo, cfo, hu r (by omega) (by omega)]
    exact (crw_cg hc hT h hL hn ⟨by omega, by omega⟩ ih (cu r).toNat (by omega)).2 i a b
def clp (m : Int) (f : Int → Int) : Int → Int := fun i => if 0 ≤ i ∧ i < 8 * m then f i else 0
theorem clp_at {m : Int} {f : Int → Int} {i : Int} (a : 0 ≤ i) (b : i < 8 * m) : clp m f i = f i := by unfold clp; rw [if_pos ⟨a, b⟩]
theorem ndf_cg {m n : Int} {cu ca ch ch' pr lc : Int → Int} (hc : CuOk n cu ca) (h : TrOk n cu ca m ch pr lc) (he : ∀ i, 0 ≤ i → i < 8 * m → ch' i = ch i) {r : Int} (hr : 0 ≤ r ∧ r < n) : ∀ l : Nat, (l : Int) ≤ cu r → ndf ch' ca r l = ndf ch ca r l
  | 0, _ => rfl
  | l + 1, hl => by
    have ih := ndf_cg hc h he hr l (by omega)
    have i1 := nd_in hc h hr l (by omega)
    have h1 := hc r hr.1 hr.2 l (by omega)
    show ch' (8 * ndf ch' ca r l + ca (12 * r + l)) = ch (8 * ndf ch ca r l + ca (12 * r + l))
    rw [ih]; exact he _ (by omega) (by omega)
theorem TrOk_cg {m n : Int} {cu ca ch ch' pr lc : Int → Int} (hc : CuOk n cu ca) (h : TrOk n cu ca m ch pr lc) (he : ∀ i, 0 ≤ i → i < 8 * m → ch' i = ch i) : TrOk n cu ca m ch' pr lc := by
  obtain ⟨a, b, c, d, e, f⟩ := id h
  refine ⟨a, fun k p q => ?_, fun k x p q s t => ?_, d, fun r p q l hl => ?_, fun k p q => ?_⟩
  · have := b k p q
    rw [he _ (by omega) (by omega)]; exact this
  · rw [he _ (by omega) (by omega)]; exact c k x p q s t
  · rw [ndf_cg hc h he ⟨p, q⟩ (l + 1) (by omega)]; exact e r p q l hl
  · obtain ⟨r, l, z1, z2, z3, z4⟩ := f k p q
    exact ⟨r, l, z1, z2, z3, by rw [ndf_cg hc h he ⟨z1, z2⟩ l z3]; exact z4⟩
