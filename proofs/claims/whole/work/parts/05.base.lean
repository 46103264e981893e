/-! BASE: a world of fixed shape, its numbers as one function M (cell, place) of whole numbers; an abstract machine K over it; a row of K an instruction. -/
/-- the tables' words that every method may be given -/
def tbg : List Cond := lw_tbl.filter goodWord
/-- the calls of a nest mate's own members -/
def nst : List (String × Nat × MethodName × String) := [(RX10, 20, yX0_init, RX10), (RX10, 62, yX8_init, RX10), (RX1, 83, yX10_isCall, RX10), (RX2, 25, yX10_isCall, RX10), (RX4, 32, yX10_isCall, RX10), (RX8, 49, yX10_isCall, RX10), (RX9, 63, yX10_isCall, RX10)]
def NS (U : State) : Prop := ∀ q ∈ nst, va_Nw (.methodLinkNest q.1 q.2.1 q.2.2.1 q.2.2.2) U
theorem NS.warm {s U : State} (h : NS s) (hW : s.WarmedH U.vm) : NS U := fun q hq => va_Nw.warmM hW (h q hq)
theorem NS.same {s U : State} (h : NS s) (hv : s.vm = U.vm) : NS U := fun q hq => va_Nw.same rfl hv (h q hq)
abbrev V : Type := Int ⊕ Nat
abbrev Mem : Type := Nat → Int → Int
abbrev Lv : Type := List (Nat × V)
/-- a cell's shape: an array (type, length), or an object (class, its fields: a cell or a number) -/
abbrev Sh : Type := (FieldType × Nat) ⊕ (Nat × List (Option Nat))
def up (M : Mem) (k : Nat) (i v : Int) : Mem := fun k' i' => if k' = k ∧ i' = i then v else M k' i'
abbrev inR (z : Int) : Prop := -2147483648 ≤ z ∧ z < 2147483648
def Rg (M : Mem) : Prop := ∀ k i, inR (M k i)
def vv (ad : Nat → Nat) : V → Value
  | .inl z => .int (Int32.ofInt z)
  | .inr k => .ref (ad k)
def cA (cI cZ cB : ClassId) : FieldType → ClassId
  | .boolean => cZ
  | .byte => cB
  | _ => cI
def fv (ad : Nat → Nat) (M : Mem) (k : Nat) (j : Nat) : Option Nat → Value
  | some r => .ref (ad r)
  | none => .int (Int32.ofInt (M k j))
def cellOf (cI cZ cB : ClassId) (ad : Nat → Nat) (M : Mem) (k : Nat) : Sh → va_E
  | .inl (ty, n) => .inl (cA cI cZ cB ty, n, .inl (fun j => Int32.ofInt (M k j)))
  | .inr (ci, fs) => .inr (ci, fs.mapIdx (fun j f => fv ad M k j f))
def wsOf (sh : Nat → Sh) (N : Nat) (cI cZ cB : ClassId) (ad : Nat → Nat) (M : Mem) : va_W := (List.range N).map (fun k => (ad k, cellOf cI cZ cB ad M k (sh k)))
abbrev tyl (cI cZ cB : ClassId) : List (ClassId × FieldType) := [(cI, .int), (cZ, .boolean), (cB, .byte)]
theorem wsOf_at {sh : Nat → Sh} {N : Nat} {cI cZ cB : ClassId} {ad : Nat → Nat} {M : Mem} {k : Nat} (hk : k < N) : (wsOf sh N cI cZ cB ad M)[k]? = some (ad k, cellOf cI cZ cB ad M k (sh k)) := by
  simp [wsOf, hk]
theorem wsOf_len {sh : Nat → Sh} {N : Nat} {cI cZ cB : ClassId} {ad : Nat → Nat} {M : Mem} : (wsOf sh N cI cZ cB ad M).length = N := by simp [wsOf]
theorem wsOf_set {sh : Nat → Sh} {N : Nat} {cI cZ cB : ClassId} {ad : Nat → Nat} {M M' : Mem} {k : Nat} {e : va_E} (hk : k < N) (he : cellOf cI cZ cB ad M' k (sh k) = e) (ho : ∀ j, j ≠ k → M' j = M j) : (wsOf sh N cI cZ cB ad M).set k (ad k, e) = wsOf sh N cI cZ cB ad M' := by
  apply List.ext_getElem?
  intro j
  by_cases hj : j = k
  · subst hj
    rw [List.getElem?_set_self (by rw [wsOf_len]; exact hk), wsOf_at hk, he]
  · rw [List.getElem?_set_ne (Ne.symm hj)]
    by_cases hjN : j < N
    · rw [wsOf_at hjN, wsOf_at hjN]
      have := ho j hj
      congr 2
      unfold cellOf fv
      rw [this]
    · rw [List.getElem?_eq_none (by rw [wsOf_len]; omega), List.getElem?_eq_none (by rw [wsOf_len]; omega)]
theorem up_ne {M : Mem} {k : Nat} {i v : Int} {j : Nat} (h : j ≠ k) : up M k i v j = M j := by
  funext x; simp [up, h]
theorem up_same {M : Mem} {k : Nat} {i v : Int} : up M k i v k i = v := by simp [up]
theorem up_at {M : Mem} {k : Nat} {i v : Int} {j : Int} : up M k i v k j = if j = i then v else M k j := by simp [up]
theorem Rg.up {M : Mem} (h : Rg M) {k : Nat} {i v : Int} (hv : inR v) : Rg (up M k i v) := by
  intro k' i'; unfold Jvm.Pilot.CUsageDeskLaw_law_r3463_3d926f.up; split
  · exact hv
  · exact h _ _
/-! locals -/
def lk : Lv → Nat → Option V
  | [], _ => none
  | (j, w) :: t, i => match Nat.beq j i with
    | true => some w
    | false => lk t i
def rml : Lv → Nat → Lv
  | [], _ => []
  | (j, w) :: t, i => match Nat.beq j i with
    | true => rml t i
    | false => (j, w) :: rml t i
def inl : Lv → Nat → V → Lv
  | [], i, v => [(i, v)]
  | (j, w) :: t, i, v => match Nat.blt i j with
    | true => (i, v) :: (j, w) :: t
    | false => (j, w) :: inl t i v
def sl (lv : Lv) (i : Nat) (v : V) : Lv := inl (rml lv i) i v
theorem lk_mem : ∀ {lv : Lv} {i : Nat} {v : V}, lk lv i = some v → (i, v) ∈ lv
  | [], i, v, h => by simp [lk] at h
  | (j, w) :: t, i, v, h => by
    unfold lk at h
    cases hb : Nat.beq j i with
    | true => rw [hb] at h; simp at h; have := Nat.eq_of_beq_eq_true hb; subst this; subst h; exact List.mem_cons_self
    | false => rw [hb] at h; exact List.mem_cons_of_mem _ (lk_mem h)
theorem rml_mem : ∀ {lv : Lv} {i : Nat} {q : Nat × V}, q ∈ rml lv i → q ∈ lv ∧ q.1 ≠ i
  | [], i, q, h => by simp [rml] at h
  | (j, w) :: t, i, q, h => by
    unfold rml at h
    cases hb : Nat.beq j i with
    | true => rw [hb] at h; have := rml_mem (lv := t) h; exact ⟨List.mem_cons_of_mem _ this.1, this.2⟩
    | false =>
      rw [hb] at h
      rcases List.mem_cons.mp h with h | h
      · subst h; exact ⟨List.mem_cons_self, Nat.ne_of_beq_eq_false hb⟩
      · have := rml_mem (lv := t) h; exact ⟨List.mem_cons_of_mem _ this.1, this.2⟩
theorem inl_mem : ∀ {lv : Lv} {i : Nat} {v : V} {q : Nat × V}, q ∈ inl lv i v → q = (i, v) ∨ q ∈ lv
  | [], i, v, q, h => by simp [inl] at h; exact Or.inl h
  | (j, w) :: t, i, v, q, h => by
    unfold inl at h
    cases hb : Nat.blt i j with
    | true =>
      rw [hb] at h
      rcases List.mem_cons.mp h with h | h
      · exact Or.inl h
      · exact Or.inr h
    | false =>
      rw [hb] at h
      rcases List.mem_cons.mp h with h | h
      · exact Or.inr (by rw [h]; exact List.mem_cons_self)
      · rcases inl_mem (lv := t) h with h | h
        · exact Or.inl h
        · exact Or.inr (List.mem_cons_of_mem _ h)
theorem sl_mem {lv : Lv} {i : Nat} {v : V} {q : Nat × V} (h : q ∈ sl lv i v) : q = (i, v) ∨ (q ∈ lv ∧ q.1 ≠ i) := by
  rcases inl_mem h with h | h
  · exact Or.inl h
  · exact Or.inr (rml_mem h)
def lm (ad : Nat → Nat) (lv : Lv) : List (Nat × Value) := lv.map (fun q => (q.1, vv ad q.2))
theorem lm_at {ad : Nat → Nat} {ls : Array Slot} {n : Nat} {lv : Lv} (h : lv_has ls n (lm ad lv)) {i : Nat} {v : V} (hl : lk lv i = some v) : ls[i]? = some (.val (vv ad v)) :=
  h.2.2 (i, vv ad v) (List.mem_map.mpr ⟨(i, v), lk_mem hl, rfl⟩)
theorem lv_mono {ls : Array Slot} {n : Nat} {l l' : List (Nat × Value)} (h : lv_has ls n l) (hs : ∀ q ∈ l', q ∈ l) : lv_has ls n l' := ⟨h.1, h.2.1, fun q hq => h.2.2 q (hs q hq)⟩
theorem vv_cat (ad : Nat → Nat) (v : V) : (vv ad v).category = 1 := by cases v <;> rfl
theorem lm_store {ad : Nat → Nat} {ls : Array Slot} {n i : Nat} {lv : Lv} {v : V} (h : lv_has ls n ((i, vv ad v) :: (lm ad lv).filter (fun q => !(q.1 == i) && !(q.1 + 1 == i && q.2.category == 2)))) : lv_has ls n (lm ad (sl lv i v)) := by
  refine lv_mono h fun q hq => ?_
  obtain ⟨q0, h0, rfl⟩ := List.mem_map.mp hq
  rcases sl_mem h0 with h1 | ⟨h1, h2⟩
  · subst h1; exact List.mem_cons_self
  · refine List.mem_cons_of_mem _ (List.mem_filter.mpr ⟨List.mem_map.mpr ⟨q0, h1, rfl⟩, ?_⟩)
    simp [vv_cat, h2]
theorem lm_sub {ad : Nat → Nat} {ls : Array Slot} {n : Nat} {lv lv' : Lv} (h : lv_has ls n (lm ad lv)) (hs : lv'.all (fun q => match lk lv q.1 with | some _ => true | none => false) = true) (hv : ∀ q ∈ lv', lk lv q.1 = some q.2) : lv_has ls n (lm ad lv') := by
  refine lv_mono h fun q hq => ?_
  obtain ⟨q0, h0, rfl⟩ := List.mem_map.mp hq
  exact List.mem_map.mpr ⟨q0, lk_mem (hv q0 h0), rfl⟩
