/-! the abstract machine over a world, and its rows -/
abbrev Kt : Type := Nat → Lv → List V → Mem → Prop
def wd (sh : Nat → Sh) (N : Nat) (D : va_G) (cI cZ cB : ClassId) (ad : Nat → Nat) (A : Nat → Prop) (M : Mem) (t : State) : Prop := Rg M ∧ va_P D vwCl (wsOf sh N cI cZ cB ad M) t.heap ∧ va_K D vwCl (tyl cI cZ cB) t ∧ va_D A (wsOf sh N cI cZ cB ad M)
def qq (ret : Option FieldType) (post : Int → Mem → Prop) (B : Mem → State → Prop) (A : Nat → Prop) : Array Value → State → Outcome → State → Prop := match ret with
  | none => va_Qv (fun u => post 0 u) B A
  | some _ => va_Qi (fun r u => ∃ z, r = Int32.ofInt z ∧ inR z ∧ post z u) B A
def KK (sh : Nat → Sh) (N nL : Nat) (R : Room) (p : Program) (l : Launch) (e : Env) (s : State) (m : MethodId) (args : Array Value) (below : List Frame) (meth : Method) (c : Code) (D : va_G) (cI cZ cB : ClassId) (ad : Nat → Nat) (A : Nat → Prop) (ce sn : Nat) (Q : State → Prop) : Kt := fun pc lv stk M =>
  Rg M → ∀ (H : Heap) (locs : List Loc) (ls : Array Slot), va_P D vwCl (wsOf sh N cI cZ cB ad M) H → va_S A s.heap H locs → lv_has ls nL (lm ad lv) → W p l e R s m args below meth c H locs ce sn Q (F0 m pc ls (stk.map (vv ad)))
def Ctx (sh : Nat → Sh) (N : Nat) (own : String) (cc : ByteArray) (nL : Nat) (ret : Option FieldType) (R : Room) (post : Int → Mem → Prop) (K : Kt) : Prop :=
  ∃ (p : Program) (l : Launch) (e : Env) (s : State) (m : MethodId) (args : Array Value) (below : List Frame) (meth : Method) (c : Code) (D : va_G) (cI cZ cB : ClassId) (ad : Nat → Nat) (A : Nat → Prop),
    (p.tables.exec = Jvm.exec ∧ c.code = cc ∧ c.maxLocals = nL ∧ s.vm.findClass own = some m.cls ∧ (∀ w ∈ tbg, w.before args s = true)) ∧ (meth.sig.returnType = ret ∧ meth.locks = false ∧ NS s) ∧ va_K D vwCl (tyl cI cZ cB) s ∧ (∀ q, s.heap.size ≤ q → A q) ∧ (∀ M, va_D A (wsOf sh N cI cZ cB ad M)) ∧
    K = KK sh N nL R p l e s m args below meth c D cI cZ cB ad A 0 0 (MQ below (qq ret post (wd sh N D cI cZ cB ad A) A) args s 0 0 A)
section ROWS
variable {sh : Nat → Sh} {N : Nat} {own : String} {cc : ByteArray} {nL : Nat} {ret : Option FieldType} {R : Room} {post : Int → Mem → Prop} {K : Kt}
variable {pc : Nat} {lv : Lv} {stk : List V} {M : Mem}
theorem k_sub (C : Ctx sh N own cc nL ret R post K) (lv' : Lv) (hv : ∀ q ∈ lv', lk lv q.1 = some q.2) (kk : K pc lv' stk M) : K pc lv stk M := by
  obtain ⟨p, l, e, s, m, args, below, meth, c, D, cI, cZ, cB, ad, A, ⟨hx, hb, hml, hown, hts⟩, ⟨hr, hlk, hns⟩, hK, hA, hD, rfl⟩ := C
  intro hM H locs ls hP hS hl
  refine kk hM H locs ls hP hS (lv_mono hl fun q hq => ?_)
  obtain ⟨q0, h0, rfl⟩ := List.mem_map.mp hq
  exact List.mem_map.mpr ⟨q0, lk_mem (hv q0 h0), rfl⟩
theorem k_rg (C : Ctx sh N own cc nL ret R post K) (kk : Rg M → K pc lv stk M) : K pc lv stk M := by
  obtain ⟨p, l, e, s, m, args, below, meth, c, D, cI, cZ, cB, ad, A, ⟨hx, hb, hml, hown, hts⟩, ⟨hr, hlk, hns⟩, hK, hA, hD, rfl⟩ := C
  intro hM
  exact kk hM hM
theorem k_iconst (C : Ctx sh N own cc nL ret R post K) {n : Int} (hd : decode cc pc = .ok (.iconst n, 1)) (kk : K (pc + 1) lv (.inl n :: stk) M) : K pc lv stk M := by
  obtain ⟨p, l, e, s, m, args, below, meth, c, D, cI, cZ, cB, ad, A, ⟨hx, hb, hml, hown, hts⟩, ⟨hr, hlk, hns⟩, hK, hA, hD, rfl⟩ := C
  intro hM H locs ls hP hS hl
  exact lv_iconst hx hb hd rfl (kk hM H locs ls hP hS hl)
theorem k_bipush (C : Ctx sh N own cc nL ret R post K) {n : Int} (hd : decode cc pc = .ok (.bipush n, 2)) (hv : (Int8.ofInt n).toInt32 = Int32.ofInt n) (kk : K (pc + 2) lv (.inl n :: stk) M) : K pc lv stk M := by
  obtain ⟨p, l, e, s, m, args, below, meth, c, D, cI, cZ, cB, ad, A, ⟨hx, hb, hml, hown, hts⟩, ⟨hr, hlk, hns⟩, hK, hA, hD, rfl⟩ := C
  intro hM H locs ls hP hS hl
  exact lv_bipush hx hb hd hv (kk hM H locs ls hP hS hl)
theorem k_sipush (C : Ctx sh N own cc nL ret R post K) {n : Int} (hd : decode cc pc = .ok (.sipush n, 3)) (hv : (Int16.ofInt n).toInt32 = Int32.ofInt n) (kk : K (pc + 3) lv (.inl n :: stk) M) : K pc lv stk M := by
  obtain ⟨p, l, e, s, m, args, below, meth, c, D, cI, cZ, cB, ad, A, ⟨hx, hb, hml, hown, hts⟩, ⟨hr, hlk, hns⟩, hK, hA, hD, rfl⟩ := C
  intro hM H locs ls hP hS hl
  exact lv_sipush hx hb hd hv (kk hM H locs ls hP hS hl)
theorem k_iload_n (C : Ctx sh N own cc nL ret R post K) {k : Fin 4} {i : Nat} {z : Int} (hd : decode cc pc = .ok (.iload_n k, 1)) (hi : (k : Nat) = i) (hl' : lk lv i = some (.inl z)) (kk : K (pc + 1) lv (.inl z :: stk) M) : K pc lv stk M := by
  obtain ⟨p, l, e, s, m, args, below, meth, c, D, cI, cZ, cB, ad, A, ⟨hx, hb, hml, hown, hts⟩, ⟨hr, hlk, hns⟩, hK, hA, hD, rfl⟩ := C
  intro hM H locs ls hP hS hl
  exact lv_iload_n hx hb hd hi (lm_at hl hl') (kk hM H locs ls hP hS hl)
theorem k_iload (C : Ctx sh N own cc nL ret R post K) {i : Nat} {z : Int} (hd : decode cc pc = .ok (.iload i, 2)) (hl' : lk lv i = some (.inl z)) (kk : K (pc + 2) lv (.inl z :: stk) M) : K pc lv stk M := by
  obtain ⟨p, l, e, s, m, args, below, meth, c, D, cI, cZ, cB, ad, A, ⟨hx, hb, hml, hown, hts⟩, ⟨hr, hlk, hns⟩, hK, hA, hD, rfl⟩ := C
  intro hM H locs ls hP hS hl
  exact lv_iload hx hb hd (lm_at hl hl') (kk hM H locs ls hP hS hl)
theorem k_aload_n (C : Ctx sh N own cc nL ret R post K) {k : Fin 4} {i : Nat} {z : Nat} (hd : decode cc pc = .ok (.aload_n k, 1)) (hi : (k : Nat) = i) (hl' : lk lv i = some (.inr z)) (kk : K (pc + 1) lv (.inr z :: stk) M) : K pc lv stk M := by
  obtain ⟨p, l, e, s, m, args, below, meth, c, D, cI, cZ, cB, ad, A, ⟨hx, hb, hml, hown, hts⟩, ⟨hr, hlk, hns⟩, hK, hA, hD, rfl⟩ := C
  intro hM H locs ls hP hS hl
  exact lv_aload_n hx hb hd hi (lm_at hl hl') (kk hM H locs ls hP hS hl)
theorem k_aload (C : Ctx sh N own cc nL ret R post K) {i : Nat} {z : Nat} (hd : decode cc pc = .ok (.aload i, 2)) (hl' : lk lv i = some (.inr z)) (kk : K (pc + 2) lv (.inr z :: stk) M) : K pc lv stk M := by
  obtain ⟨p, l, e, s, m, args, below, meth, c, D, cI, cZ, cB, ad, A, ⟨hx, hb, hml, hown, hts⟩, ⟨hr, hlk, hns⟩, hK, hA, hD, rfl⟩ := C
  intro hM H locs ls hP hS hl
  exact lv_aload hx hb hd (lm_at hl hl') (kk hM H locs ls hP hS hl)
theorem k_istore_n (C : Ctx sh N own cc nL ret R post K) {k : Fin 4} {i : Nat} {z : Int} (hd : decode cc pc = .ok (.istore_n k, 1)) (hi : (k : Nat) = i) (hn : i < nL) (kk : K (pc + 1) (sl lv i (.inl z)) stk M) : K pc lv (.inl z :: stk) M := by
  obtain ⟨p, l, e, s, m, args, below, meth, c, D, cI, cZ, cB, ad, A, ⟨hx, hb, hml, hown, hts⟩, ⟨hr, hlk, hns⟩, hK, hA, hD, rfl⟩ := C
  intro hM H locs ls hP hS hl
  exact lv_istore_n hx hb hd hi hl hn rfl (fun ls' hl' => kk hM H locs ls' hP hS (lm_store (v := .inl z) hl'))
theorem k_istore (C : Ctx sh N own cc nL ret R post K) {i : Nat} {z : Int} (hd : decode cc pc = .ok (.istore i, 2)) (hn : i < nL) (kk : K (pc + 2) (sl lv i (.inl z)) stk M) : K pc lv (.inl z :: stk) M := by
  obtain ⟨p, l, e, s, m, args, below, meth, c, D, cI, cZ, cB, ad, A, ⟨hx, hb, hml, hown, hts⟩, ⟨hr, hlk, hns⟩, hK, hA, hD, rfl⟩ := C
  intro hM H locs ls hP hS hl
  exact lv_istore hx hb hd hl hn rfl (fun ls' hl' => kk hM H locs ls' hP hS (lm_store (v := .inl z) hl'))
theorem k_astore_n (C : Ctx sh N own cc nL ret R post K) {k : Fin 4} {i : Nat} {z : Nat} (hd : decode cc pc = .ok (.astore_n k, 1)) (hi : (k : Nat) = i) (hn : i < nL) (kk : K (pc + 1) (sl lv i (.inr z)) stk M) : K pc lv (.inr z :: stk) M := by
  obtain ⟨p, l, e, s, m, args, below, meth, c, D, cI, cZ, cB, ad, A, ⟨hx, hb, hml, hown, hts⟩, ⟨hr, hlk, hns⟩, hK, hA, hD, rfl⟩ := C
  intro hM H locs ls hP hS hl
  exact lv_astore_n hx hb hd hi hl hn rfl (fun ls' hl' => kk hM H locs ls' hP hS (lm_store (v := .inr z) hl'))
theorem k_iinc (C : Ctx sh N own cc nL ret R post K) {i : Nat} {n z : Int} (hd : decode cc pc = .ok (.iinc i n, 3)) (hn : i < nL) (hl' : lk lv i = some (.inl z)) (kk : K (pc + 3) (sl lv i (.inl (z + n))) stk M) : K pc lv stk M := by
  obtain ⟨p, l, e, s, m, args, below, meth, c, D, cI, cZ, cB, ad, A, ⟨hx, hb, hml, hown, hts⟩, ⟨hr, hlk, hns⟩, hK, hA, hD, rfl⟩ := C
  intro hM H locs ls hP hS hl
  obtain ⟨j, hj⟩ := List.getElem?_of_mem (List.mem_map.mpr ⟨(i, .inl z), lk_mem hl', rfl⟩ : (i, vv ad (.inl z)) ∈ lm ad lv)
  exact lv_iinc (v := Int32.ofInt (z + n)) hx hb hd hl hj (Int32.ofInt_add z n).symm hn rfl (fun ls' hl' => kk hM H locs ls' hP hS (lm_store (v := .inl (z + n)) hl'))
theorem k_iadd (C : Ctx sh N own cc nL ret R post K) {a b : Int} (hd : decode cc pc = .ok (.iadd, 1)) (kk : K (pc + 1) lv (.inl (a + b) :: stk) M) : K pc lv (.inl b :: .inl a :: stk) M := by
  obtain ⟨p, l, e, s, m, args, below, meth, c, D, cI, cZ, cB, ad, A, ⟨hx, hb, hml, hown, hts⟩, ⟨hr, hlk, hns⟩, hK, hA, hD, rfl⟩ := C
  intro hM H locs ls hP hS hl
  have h := kk hM H locs ls hP hS hl
  simp only [List.map_cons, vv, Int32.ofInt_add] at h
  exact lv_iadd hx hb hd h
theorem k_isub (C : Ctx sh N own cc nL ret R post K) {a b : Int} (hd : decode cc pc = .ok (.isub, 1)) (kk : K (pc + 1) lv (.inl (a - b) :: stk) M) : K pc lv (.inl b :: .inl a :: stk) M := by
  obtain ⟨p, l, e, s, m, args, below, meth, c, D, cI, cZ, cB, ad, A, ⟨hx, hb, hml, hown, hts⟩, ⟨hr, hlk, hns⟩, hK, hA, hD, rfl⟩ := C
  intro hM H locs ls hP hS hl
  have h := kk hM H locs ls hP hS hl
  simp only [List.map_cons, vv, Int32.ofInt_sub] at h
  exact lv_isub hx hb hd h
theorem k_imul (C : Ctx sh N own cc nL ret R post K) {a b : Int} (hd : decode cc pc = .ok (.imul, 1)) (kk : K (pc + 1) lv (.inl (a * b) :: stk) M) : K pc lv (.inl b :: .inl a :: stk) M := by
  obtain ⟨p, l, e, s, m, args, below, meth, c, D, cI, cZ, cB, ad, A, ⟨hx, hb, hml, hown, hts⟩, ⟨hr, hlk, hns⟩, hK, hA, hD, rfl⟩ := C
  intro hM H locs ls hP hS hl
  have h := kk hM H locs ls hP hS hl
  simp only [List.map_cons, vv, Int32.ofInt_mul] at h
  exact lv_imul hx hb hd h
theorem k_dup (C : Ctx sh N own cc nL ret R post K) {a : V} (hd : decode cc pc = .ok (.dup, 1)) (kk : K (pc + 1) lv (a :: a :: stk) M) : K pc lv (a :: stk) M := by
  obtain ⟨p, l, e, s, m, args, below, meth, c, D, cI, cZ, cB, ad, A, ⟨hx, hb, hml, hown, hts⟩, ⟨hr, hlk, hns⟩, hK, hA, hD, rfl⟩ := C
  intro hM H locs ls hP hS hl
  exact lv_dup hx hb hd (vv_cat ad a) (kk hM H locs ls hP hS hl)
theorem k_pop (C : Ctx sh N own cc nL ret R post K) {a : V} (hd : decode cc pc = .ok (.pop, 1)) (kk : K (pc + 1) lv stk M) : K pc lv (a :: stk) M := by
  obtain ⟨p, l, e, s, m, args, below, meth, c, D, cI, cZ, cB, ad, A, ⟨hx, hb, hml, hown, hts⟩, ⟨hr, hlk, hns⟩, hK, hA, hD, rfl⟩ := C
  intro hM H locs ls hP hS hl
  exact lv_pop hx hb hd (vv_cat ad a) (kk hM H locs ls hP hS hl)
theorem k_dup2 (C : Ctx sh N own cc nL ret R post K) {a b : V} (hd : decode cc pc = .ok (.dup2, 1)) (kk : K (pc + 1) lv (a :: b :: a :: b :: stk) M) : K pc lv (a :: b :: stk) M := by
  obtain ⟨p, l, e, s, m, args, below, meth, c, D, cI, cZ, cB, ad, A, ⟨hx, hb, hml, hown, hts⟩, ⟨hr, hlk, hns⟩, hK, hA, hD, rfl⟩ := C
  intro hM H locs ls hP hS hl
  exact lv_dup2_11 hx hb hd (vv_cat ad a) (vv_cat ad b) (kk hM H locs ls hP hS hl)
theorem k_dup_x1 (C : Ctx sh N own cc nL ret R post K) {a b : V} (hd : decode cc pc = .ok (.dup_x1, 1)) (kk : K (pc + 1) lv (a :: b :: a :: stk) M) : K pc lv (a :: b :: stk) M := by
  obtain ⟨p, l, e, s, m, args, below, meth, c, D, cI, cZ, cB, ad, A, ⟨hx, hb, hml, hown, hts⟩, ⟨hr, hlk, hns⟩, hK, hA, hD, rfl⟩ := C
  intro hM H locs ls hP hS hl
  exact lv_dup_x1 hx hb hd (vv_cat ad a) (vv_cat ad b) (kk hM H locs ls hP hS hl)
theorem k_goto (C : Ctx sh N own cc nL ret R post K) {off : Int} {tgt : Nat} (hd : decode cc pc = .ok (.goto off, 3)) (ht : (pc : Int) + off = (tgt : Int)) (kk : K tgt lv stk M) : K pc lv stk M := by
  obtain ⟨p, l, e, s, m, args, below, meth, c, D, cI, cZ, cB, ad, A, ⟨hx, hb, hml, hown, hts⟩, ⟨hr, hlk, hns⟩, hK, hA, hD, rfl⟩ := C
  intro hM H locs ls hP hS hl
  exact lv_goto hx hb hd ht (kk hM H locs ls hP hS hl)
end ROWS
theorem tI {z : Int} (h : inR z) : (Int32.ofInt z).toInt = z := Int32.toInt_ofInt_of_le h.1 h.2
theorem oI_lt {a b : Int} (ha : inR a) (hb : inR b) : Int32.ofInt a < Int32.ofInt b ↔ a < b := by rw [Int32.lt_iff_toInt_lt, tI ha, tI hb]
theorem oI_le {a b : Int} (ha : inR a) (hb : inR b) : Int32.ofInt a ≤ Int32.ofInt b ↔ a ≤ b := by rw [Int32.le_iff_toInt_le, tI ha, tI hb]
theorem oI_eq {a b : Int} (ha : inR a) (hb : inR b) : Int32.ofInt a = Int32.ofInt b ↔ a = b := by
  constructor
  · intro h; rw [← tI ha, ← tI hb, h]
  · intro h; rw [h]
theorem oI_0 : (0 : Int32) = Int32.ofInt 0 := rfl
theorem oI_in {z : Int} {n : Nat} (h0 : 0 ≤ z) (h1 : z < n) (hn : n < 2147483648) : vp_in (Int32.ofInt z) n ∧ ((Int32.ofInt z).toNatClampNeg : Int) = z := by
  have hz : inR z := by constructor <;> omega
  have ht := tI hz
  have hc : ((Int32.ofInt z).toNatClampNeg : Int) = z := by
    unfold Int32.toNatClampNeg
    rw [ht]; omega
  refine ⟨fun h => ?_, hc⟩
  rcases h with h | h
  · rw [oI_0, oI_lt hz (by constructor <;> omega)] at h; omega
  · omega
