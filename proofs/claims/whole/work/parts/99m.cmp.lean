/-! COMPARING: what both sides say of learn, least, and of the steps of a routine -/
theorem TrOk_n {n : Int} {cu cu' ca : Int → Int} {m : Int} {ch pr lc : Int → Int} (hn : n ≤ 60) (h : TrOk 60 cu ca m ch pr lc) (h1 : ∀ r, 0 ≤ r → r < n → cu' r = cu r ∨ (cu' r = -1 ∧ cu r = 0)) (h2 : ∀ r, n ≤ r → r < 60 → cu r = 0) : TrOk n cu' ca m ch pr lc := by
  obtain ⟨a, b, c, d, e, f⟩ := h
  refine ⟨a, b, c, d, fun r p q l hl => e r p (by omega) l (by have := h1 r p q; omega), fun k p q => ?_⟩
  obtain ⟨r, l, r1, r2, r3, r4⟩ := f k p q
  have l0 : l = 0 → False := fun z => by rw [z] at r4; have : (0 : Int) = k := r4; omega
  by_cases z : r < n
  · refine ⟨r, l, r1, z, ?_, r4⟩
    rcases h1 r r1 z with y | y
    · omega
    · exact absurd (by omega) l0
  · exact absurd (by have := h2 r (by omega) r2; omega) l0
theorem cut_cmp {n : Int} {sz ri th ca : Int → Int} (r : Int) : (0 ≤ r → r < n → cutN n sz ri th ca r = cutR n sz ri th ca r ∨ (cutN n sz ri th ca r = -1 ∧ cutR n sz ri th ca r = 0)) ∧ (n ≤ r → cutR n sz ri th ca r = 0) := by
  constructor
  · intro a b
    unfold cutN cutR
    by_cases z : ¬ th r = 0 ∧ ¬ ri r = 0
    · rw [iteP_pos z, iteP_pos ⟨a, b, z.1, z.2⟩]; exact Or.inl rfl
    · rw [iteP_neg z, iteP_neg (fun q => z ⟨q.2.2.1, q.2.2.2⟩)]; exact Or.inr ⟨rfl, rfl⟩
  · intro a
    unfold cutR
    rw [iteP_neg (fun q => by have := q.2.1; omega)]
theorem tr_cmp {n : Int} {sz ri th ca : Int → Int} (hB : BkOk n sz ri th ca) {m m' : Int} {ch pr lc ch' pr' lc' : Int → Int} (h : TrOk 60 (cutR n sz ri th ca) ca m ch pr lc) (h' : TrOk n (cutN n sz ri th ca) ca m' ch' pr' lc') : TrOk n (cutN n sz ri th ca) ca m ch pr lc ∧ m' = m ∧ clp m ch' = clp m ch ∧ ∀ k, 1 ≤ k → k < m → pr' k = pr k ∧ lc' k = lc k := by
  have hT := TrOk_n (cu' := cutN n sz ri th ca) hB.2.1 h (fun r a b => (cut_cmp r).1 a b) (fun r a _ => (cut_cmp r).2 a)
  obtain ⟨e1, e2, e3⟩ := tr_one (cutN_ok hB) hT h'
  refine ⟨hT, e1, ?_, e2⟩
  funext i
  unfold clp
  by_cases z : 0 ≤ i ∧ i < 8 * m
  · rw [if_pos z, if_pos z]
    have := e3 (i / 8) (i % 8) (by omega) (by omega) (by omega) (by omega)
    rw [show 8 * (i / 8) + i % 8 = i by omega] at this; exact this
  · rw [if_neg z, if_neg z]
/-- the same law is learnt -/
theorem ln_cmp {n : Int} {sz ri th ca : Int → Int} (hB : BkOk n sz ri th ca) {m m' : Int} {ch pr lc ch' pr' lc' : Int → Int} (hm : m ≤ 721) (h : TrOk 60 (cutR n sz ri th ca) ca m ch pr lc) (h' : TrOk n (cutN n sz ri th ca) ca m' ch' pr' lc') {r r' st0 st0' st st' : Int} {nx0 nx0' nx nx' tm0 tm0' tm tm' : Int → Int}
    (p : LnP n sz ri th ca (cutR n sz ri th ca) m ch r st0 st nx0 tm0 nx tm) (p' : LnP n sz ri th ca (cutN n sz ri th ca) m' ch' r' st0' st' nx0' tm0' nx' tm') (h0 : st0' = st0 ∧ ∀ i, 0 ≤ i → i < 8 * st0 → nx0' i = nx0 i ∧ tm0' i = tm0 i) : r' = r ∧ st' = st ∧ (∀ i, 0 ≤ i → i < 8 * st → nx' i = nx i ∧ tm' i = tm i) ∧ ((r = -1 ∧ st = st0 ∧ nx = nx0) ∨ (r = st ∧ NxOk st nx)) := by
  obtain ⟨hT, e1, e2, e3⟩ := tr_cmp hB h h'
  rw [e1] at p'
  unfold LnP at p p'
  rw [e2] at p'
  have hCu := cutN_ok hB
  have hT2 := TrOk_cg hCu hT (fun i a b => clp_at (f := ch) a b)
  have hLI := LI_0 hT2 hm (kept := fun _ => 0) rfl (it := fun x => x) (fun x _ _ => rfl) (fun i _ _ => rfl)
  rcases p with ⟨p1, p2, p3, p4, p5⟩ | ⟨R, p1, p2, p3, p4, p5⟩
  · rcases p' with ⟨q1, q2, q3, q4, q5⟩ | ⟨R', q1, _⟩
    · rw [p2, q2, p3, q3, p4, q4, p5, q5]; exact ⟨rfl, h0.1, h0.2, Or.inl ⟨rfl, rfl, rfl⟩⟩
    · rw [p1] at q1; cases q1
  · rcases p' with ⟨q1, _⟩ | ⟨R', q1, q2, q3, q4, q5⟩
    · rw [p1] at q1; cases q1
    · rw [p1] at q1
      have eR := Option.some.inj q1
      rw [← eR] at q2 q3 q4 q5
      have hLR := lrn_ok (m - 1).toNat 1 _ _ _ _ (by omega) (by have := hT.1; omega) hLI p1
      have eq1 := LwP_one hLR p4 q4
      refine ⟨by rw [p2, q2], by rw [p3, q3], fun i a b => ⟨eq1 i a (by rw [← p3]; exact b), ?_⟩, Or.inr ⟨by rw [p2, p3], ?_⟩⟩
      · rw [p3] at b
        rw [q5 i a b, p5 i a b]
        have c1 := cfo_cg hCu hT2 hLR p4 eq1 (fun r _ _ => rfl) (tm := fun _ => 0) (tm' := fun _ => 0) (fun _ _ _ => rfl) n.toNat (by have := hB.1; omega) i a b
        have c2 := cfo_cg hCu hT2 hLR p4 (fun _ _ _ => rfl) (cu' := cutR n sz ri th ca) (fun r x y => by have := (cut_cmp (sz := sz) (ri := ri) (th := th) (ca := ca) r).1 x y; omega) (tm := fun _ => 0) (tm' := fun _ => 0) (fun _ _ _ => rfl) n.toNat (by have := hB.1; omega) i a b
        rw [c1, c2]
      · rw [p3]
        refine ⟨hLR.2.2.2.2.1, fun s c a b a' b' => ?_⟩
        rcases p4 s c a b a' b' with z | z
        · have := hLR.2.2.2.2.1; omega
        · omega
/-- the same least number -/
theorem ls_cmp {n : Int} {sz ri th ca : Int → Int} (hB : BkOk n sz ri th ca) {m m' : Int} {ch pr lc ch' pr' lc' : Int → Int} (h : TrOk 60 (cutR n sz ri th ca) ca m ch pr lc) (h' : TrOk n (cutN n sz ri th ca) ca m' ch' pr' lc') {r r' : Int} (p : LsP (TW n sz ri th ca (fun x => x)) pr lc m r) (p' : LsP (TW n sz ri th ca (fun x => x)) pr' lc' m' r') : r' = r := by
  obtain ⟨hT, e1, e2, e3⟩ := tr_cmp hB h h'
  rw [e1] at p'
  have key : m ≤ 16 → ∀ a, 1 ≤ a → a ≤ 3 → (lsP (TW n sz ri th ca (fun x => x)) pr lc m a ↔ lsP (TW n sz ri th ca (fun x => x)) pr' lc' m a) := by
    intro m16 a a1 a3
    have m1 := hT.1
    have rg : ∀ k, 1 ≤ k → k < m → (0 ≤ pr k ∧ pr k < k) ∧ (0 ≤ lc k ∧ lc k < 8) := fun k x y => by
      have := hT.2.1 k x y; omega
    unfold lsP
    constructor
    · exact canP_cg hB a3 _ 1 _ _ _ _ 1 (fun k x y => ⟨(rg k x (by omega)).1, (rg k x (by omega)).2, (e3 k x (by omega)).1, (e3 k x (by omega)).2⟩) (fun i _ _ => Or.inl rfl) (fun _ _ _ => rfl) (fun k x y => ⟨by show (0 : Int) ≤ 0 ∧ (0 : Int) < 3; omega, rfl⟩)
    · exact canP_cg hB a3 _ 1 _ _ _ _ 1 (fun k x y => by
        have q := e3 k x (by omega)
        have w := rg k x (by omega)
        rw [q.1, q.2]; exact ⟨w.1, w.2, rfl, rfl⟩) (fun i _ _ => Or.inl rfl) (fun _ _ _ => rfl) (fun k x y => ⟨by show (0 : Int) ≤ 0 ∧ (0 : Int) < 3; omega, rfl⟩)
  rcases p with p | ⟨p1, p2, p3, p4⟩
  · rcases p' with q | q
    · rw [p.2, q.2]
    · omega
  · rcases p' with q | ⟨q1, q2, q3, q4⟩
    · omega
    · rcases Int.lt_trichotomy r r' with z | z | z
      · exact absurd ((key p1 r p2.1 (by omega)).1 (p4 (by omega))) (q3 r p2.1 z)
      · exact z.symm
      · exact absurd ((key p1 r' q2.1 (by omega)).2 (q4 (by omega))) (p3 r' q2.1 z)
/-- the steps of a good text are in their room -/
theorem fi_lt {tx : Int → Int} {n : Int} (hG : GT tx n) : ∀ k : Nat, (k : Int) ≤ n → 0 ≤ fi tx k ∧ fi tx k < cnt tx k
  | 0, _ => by show (0 : Int) ≤ 0 ∧ (0 : Int) < 1; omega
  | k + 1, hk => by
    have ih := fi_lt hG k (by omega)
    rw [show ((k + 1 : Nat) : Int) = (k : Int) + 1 by omega, fi_s (by omega), cnt_s (by omega)]
    have cb := cnt_b (tx := tx) (p := k) (by omega)
    by_cases c1 : tx k = 40
    · rw [if_pos c1, if_pos c1]; omega
    · rw [if_neg c1, if_neg c1]
      by_cases c2 : 97 ≤ tx k ∧ tx k ≤ 104
      · rw [if_pos c2, if_pos c2]; omega
      · rw [if_neg c2, if_neg c2]
        by_cases c3 : tx k = 124
        · rw [if_pos c3]
          have o := (opn_ok hG (r := k) ⟨by omega, by omega⟩ (Or.inl c3)).1
          have u := (cnt_up (tx := tx) o.1 o.2.1 (Or.inl o.2.2.1)).1 o.2.2.1
          have ob := cnt_b (tx := tx) o.1
          omega
        · rw [if_neg c3]
          by_cases c4 : tx k = 41
          · rw [if_pos c4]
            have o := (opn_ok hG (r := k) ⟨by omega, by omega⟩ (Or.inr c4)).1
            have u := (cnt_up (tx := tx) o.1 o.2.1 (Or.inl o.2.2.1)).1 o.2.2.1
            have ob := cnt_b (tx := tx) o.1
            omega
          · rw [if_neg c4]; omega
theorem PZ_ok {tx fr to by1 : Int → Int} {n many : Int} (hG : GT tx n) (hZ : PZ tx n fr to by1) : FOk (cnt tx n) (ee tx n) many fr to by1 := by
  have n0 := hG.1
  have cb := cnt_b (tx := tx) n0.1
  have eb := ee_b (tx := tx) n0.1
  refine ⟨by omega, by omega, fun e e0 e1 => ?_⟩
  have key := ed_of (tx := tx) n.toNat e e0
  rw [show ((n.toNat : Nat) : Int) = n by omega] at key
  obtain ⟨k, k0, k1, k2, k3⟩ := key e1
  obtain ⟨z1, z2, z3, z4⟩ := hZ k k0 k1
  have g := (hG.2.2 k k0 k1).1
  have fl := fi_lt hG k.toNat (by omega)
  rw [show ((k.toNat : Nat) : Int) = k by omega] at fl
  have cl := cnt_le (tx := tx) (p := k) (q := n) k0 (by omega)
  have c1 := cnt_le (tx := tx) (p := k + 1) (q := n) (by omega) (by omega)
  have cs := cnt_s (tx := tx) k0
  have opb : ∀ r, 0 ≤ r → r < n → (tx r = 124 ∨ tx r = 41) → 0 ≤ cnt tx (opn tx r) ∧ cnt tx (opn tx r) + 1 < cnt tx n := fun r a b c => by
    have o := (opn_ok hG (r := r) ⟨a, b⟩ c).1
    have u := (cnt_up (tx := tx) o.1 (by omega : opn tx r < n) (Or.inl o.2.2.1)).1 o.2.2.1
    have ob := cnt_b (tx := tx) o.1
    omega
  have ckb := cnt_b (tx := tx) k0
  by_cases c42 : tx k = 42
  · obtain ⟨r, r1, r2, r3, r4, r5, r6⟩ := z4 c42
    have ob := opb r r1 (by omega) (Or.inr r3)
    rcases k3 with k3 | ⟨_, k3⟩
    · rw [k3, r5.1, r5.2.1, r5.2.2]; omega
    · rw [k3, r6.1, r6.2.1, r6.2.2]; omega
  · have k3 : e = ee tx k := by
      rcases k3 with z | z
      · exact z
      · exact absurd z.1 c42
    rw [k3]
    rcases g with g | g | g | g | g
    · exact absurd g k2
    · have w := z2 g.1
      rw [if_pos g.1] at cs
      rw [w.1, w.2.1, w.2.2]; omega
    · have w := z3 (by omega)
      have ob := opb k k0 k1 (by omega)
      rw [w.1, w.2.1, w.2.2]; omega
    · exact absurd g.1 c42
    · have w := z1 g
      rw [if_neg (by omega), if_pos g] at cs
      rw [w.1, w.2.1, w.2.2]; omega
