/-! COMPARING, pure: a text is what stands ahead of its end; steps that are not there were not seen -/
section TC
variable {tx tx' : Int → Int}
theorem tc_cg : ∀ k : Nat, (∀ i : Int, 0 ≤ i → i < k → tx' i = tx i) → depN tx' k = depN tx k ∧ cnN tx' k = cnN tx k ∧ eeN tx' k = eeN tx k ∧ ∀ d, loN tx' d k = loN tx d k
  | 0, _ => ⟨rfl, rfl, rfl, fun _ => rfl⟩
  | k + 1, h => by
    obtain ⟨i1, i2, i3, i4⟩ := tc_cg k (fun i a b => h i a (by omega))
    have e := h k (by omega) (by omega)
    refine ⟨?_, ?_, ?_, fun d => ?_⟩
    · unfold depN; rw [i1, e]
    · unfold cnN; rw [i2, e]
    · unfold eeN; rw [i3, e]
    · unfold loN; rw [i1, e, i4 d]
theorem lo_b {d : Int} : ∀ k : Nat, -1 ≤ loN tx d k ∧ loN tx d k < k
  | 0 => ⟨Int.le_refl _, by show (-1 : Int) < 0; decide⟩
  | k + 1 => by
    have := lo_b (d := d) k
    unfold loN
    split <;> omega
theorem cnt_cg {p : Int} (h : ∀ i : Int, 0 ≤ i → i < p → tx' i = tx i) : cnt tx' p = cnt tx p := (tc_cg p.toNat (fun i a b => h i a (by omega))).2.1
theorem ee_cg {p : Int} (h : ∀ i : Int, 0 ≤ i → i < p → tx' i = tx i) : ee tx' p = ee tx p := (tc_cg p.toNat (fun i a b => h i a (by omega))).2.2.1
theorem opn_cg {p : Int} (h : ∀ i : Int, 0 ≤ i → i < p → tx' i = tx i) : opn tx' p = opn tx p ∧ cnt tx' (opn tx' p) = cnt tx (opn tx p) := by
  have a := tc_cg p.toNat (fun i a b => h i a (by omega))
  have e : opn tx' p = opn tx p := by
    unfold opn lo dep
    rw [a.1, a.2.2.2]
  rw [e]
  refine ⟨rfl, cnt_cg (fun i x y => h i x ?_)⟩
  have b := lo_b (tx := tx) (d := dep tx p - 1) p.toNat
  unfold opn lo at y
  omega
theorem fi_cg : ∀ k : Nat, (∀ i : Int, 0 ≤ i → i < k → tx' i = tx i) → fiN tx' k = fiN tx k
  | 0, _ => rfl
  | k + 1, h => by
    have ih := fi_cg k (fun i a b => h i a (by omega))
    have e := h k (by omega) (by omega)
    have c := cnt_cg (p := (k : Int)) (fun i a b => h i a (by omega))
    have o := (opn_cg (p := (k : Int)) (fun i a b => h i a (by omega))).2
    unfold fiN
    rw [e, c, o, ih]
theorem PZ_cg {n : Int} {fr to by1 : Int → Int} (h : ∀ i : Int, 0 ≤ i → i < n → tx' i = tx i) (z : PZ tx n fr to by1) : PZ tx' n fr to by1 := by
  intro k a b
  have hk : ∀ i : Int, 0 ≤ i → i < k → tx' i = tx i := fun i x y => h i x (by omega)
  obtain ⟨z1, z2, z3, z4⟩ := z k a b
  have e1 := h k a b
  have e2 := ee_cg hk
  have e3 := cnt_cg hk
  have e4 := (opn_cg hk).2
  have e5 : fi tx' k = fi tx k := fi_cg k.toNat (fun i x y => hk i x (by omega))
  rw [e1, e2, e3, e4, e5]
  refine ⟨z1, z2, z3, fun q => ?_⟩
  obtain ⟨r, r1, r2, r3, r4, r5, r6⟩ := z4 q
  have o := (opn_cg (tx := tx) (tx' := tx') (p := r) (fun i x y => hk i x (by omega))).2
  refine ⟨r, r1, r2, by rw [hk r r1 r2]; exact r3, fun j x y => by rw [hk j (by omega) y]; exact r4 j x y, ?_, ?_⟩
  · rw [o]; exact r5
  · rw [o]; exact r6
end TC
theorem crw_z {n m : Int} {cu ca c0 pr lc it ch kept nx : Int → Int} {many : Int} (hc : CuOk n cu ca) (hT : TrOk n cu ca m c0 pr lc) (h : LI m c0 it ch kept many m) (hL : LwP it ch kept many nx) {r : Int} (hr : 0 ≤ r ∧ r < n) (tm : Int → Int) {i : Int} (hi : nx i = -1) : ∀ l : Nat, (l : Int) ≤ cu r ∨ l = 0 → (crw nx tm ca r l).1 i = tm i
  | 0, _ => rfl
  | l + 1, g => by
    have g2 : ((l + 1 : Nat) : Int) ≤ cu r := by omega
    have ih := crw_z hc hT h hL hr tm hi l (Or.inl (by omega))
    have s := crw_st hc hT h hL hr tm (l + 1) (Or.inl g2)
    have e : (crw nx tm ca r (l + 1)).2 = nx (8 * (crw nx tm ca r l).2 + ca (12 * r + l)) := rfl
    rw [e] at s
    show updI (crw nx tm ca r l).1 (8 * (crw nx tm ca r l).2 + ca (12 * r + l)) _ i = tm i
    have ne : ¬ i = 8 * (crw nx tm ca r l).2 + ca (12 * r + l) := fun z => by rw [← z] at s; omega
    unfold updI
    rw [if_neg ne]
    exact ih
theorem cfo_z {n m : Int} {cu ca c0 pr lc it ch kept nx : Int → Int} {many : Int} (hc : CuOk n cu ca) (hT : TrOk n cu ca m c0 pr lc) (h : LI m c0 it ch kept many m) (hL : LwP it ch kept many nx) {i : Int} (hi : nx i = -1) : ∀ r : Nat, (r : Int) ≤ n → cfo nx ca cu (fun _ => 0) r i = 0
  | 0, _ => rfl
  | r + 1, g => by
    have ih := cfo_z hc hT h hL hi r (by omega)
    show (crw nx (cfo nx ca cu (fun _ => 0) r) ca r (cu r).toNat).1 i = 0
    rw [crw_z hc hT h hL (r := (r : Int)) ⟨by omega, by omega⟩ _ hi (cu r).toNat (by omega)]
    exact ih
theorem ln_zero {n : Int} {sz ri th ca : Int → Int} (hB : BkOk n sz ri th ca) {m m' : Int} {ch pr lc ch' pr' lc' : Int → Int} (hm : m ≤ 721) (h : TrOk 60 (cutR n sz ri th ca) ca m ch pr lc) (h' : TrOk n (cutN n sz ri th ca) ca m' ch' pr' lc') {r st0 st : Int} {nx0 nx tm0 tm : Int → Int}
    (p : LnP n sz ri th ca (cutR n sz ri th ca) m ch r st0 st nx0 tm0 nx tm) : (r = -1 ∧ st = st0 ∧ nx = nx0 ∧ tm = tm0) ∨ (r = st ∧ ∀ i, 0 ≤ i → i < 8 * st → nx i = -1 → tm i = 0) := by
  obtain ⟨hT, e1, e2, e3⟩ := tr_cmp hB h h'
  unfold LnP at p
  have hCu := cutN_ok hB
  have hT2 := TrOk_cg hCu hT (fun i a b => clp_at (f := ch) a b)
  have hLI := LI_0 hT2 hm (kept := fun _ => 0) rfl (it := fun x => x) (fun x _ _ => rfl) (fun i _ _ => rfl)
  rcases p with ⟨p1, p2, p3, p4, p5⟩ | ⟨R, p1, p2, p3, p4, p5⟩
  · exact Or.inl ⟨p2, p3, p4, p5⟩
  · right
    refine ⟨by rw [p2, p3], fun i a b z => ?_⟩
    have hLR := lrn_ok (m - 1).toNat 1 _ _ _ _ (by omega) (by have := hT.1; omega) hLI p1
    rw [p3] at b
    rw [p5 i a b]
    have c2 := cfo_cg hCu hT2 hLR p4 (fun _ _ _ => rfl) (cu' := cutR n sz ri th ca) (fun r x y => by have := (cut_cmp (sz := sz) (ri := ri) (th := th) (ca := ca) r).1 x y; omega) (tm := fun _ => 0) (tm' := fun _ => 0) (fun _ _ _ => rfl) n.toNat (by have := hB.1; omega) i a b
    rw [c2]
    exact cfo_z hCu hT2 hLR p4 z n.toNat (by have := hB.1; omega)
theorem WR_at {f g : Int → Int} : ∀ w : List Int, WR f w → WR g w → ∀ i : Int, 0 ≤ i → i < (w.length : Int) → f i = g i
  | [], _, _, i, a, b => by rw [List.length_nil] at b; omega
  | c :: w, h1, h2, i, a, b => by
    rw [List.length_cons] at b
    by_cases z : i = (w.length : Int)
    · rw [z, h1.1, h2.1]
    · exact WR_at w h1.2 h2.2 i a (by omega)
