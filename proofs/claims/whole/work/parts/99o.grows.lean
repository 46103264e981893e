/-! THE ROWS ONCE MORE, the end left open: for a world that grows -/

def CtxG (sh : Nat → Sh) (N : Nat) (own : String) (cc : ByteArray) (nL : Nat) (ret : Option FieldType) (R : Room) (K : Kt) : Prop :=
  ∃ (p : Program) (l : Launch) (e : Env) (s : State) (m : MethodId) (args : Array Value) (below : List Frame) (meth : Method) (c : Code) (D : va_G) (cI cZ cB : ClassId) (ad : Nat → Nat) (A : Nat → Prop) (ce sn : Nat) (Q : State → Prop),
    (p.tables.exec = Jvm.exec ∧ c.code = cc ∧ c.maxLocals = nL ∧ s.vm.findClass own = some m.cls ∧ (∀ w ∈ tbg, w.before args s = true)) ∧ (meth.sig.returnType = ret ∧ meth.locks = false ∧ NS s) ∧ va_K D vwCl (tyl cI cZ cB) s ∧ (∀ q, s.heap.size ≤ q → A q) ∧ (∀ M, va_D A (wsOf sh N cI cZ cB ad M)) ∧ (ce ≤ R.cells ∧ sn ≤ R.slots) ∧
    K = KK sh N nL R p l e s m args below meth c D cI cZ cB ad A ce sn Q
section GROWS
variable {sh : Nat → Sh} {N : Nat} {own : String} {cc : ByteArray} {nL : Nat} {ret : Option FieldType} {R : Room} {K : Kt}
variable {pc : Nat} {lv : Lv} {stk stk0 : List V} {M : Mem}
theorem g_sub (C : CtxG sh N own cc nL ret R K) (lv' : Lv) (hv : ∀ q ∈ lv', lk lv q.1 = some q.2) (kk : K pc lv' stk M) : K pc lv stk M := by
  obtain ⟨p, l, e, s, m, args, below, meth, c, D, cI, cZ, cB, ad, A, ce, sn, Q, ⟨hx, hb, hml, hown, hts⟩, ⟨hr, hlk, hns⟩, hK, hA, hD, hcs, rfl⟩ := C
  intro hM H locs ls hP hS hl
  refine kk hM H locs ls hP hS (lv_mono hl fun q hq => ?_)
  obtain ⟨q0, h0, rfl⟩ := List.mem_map.mp hq
  exact List.mem_map.mpr ⟨q0, lk_mem (hv q0 h0), rfl⟩
theorem g_rg (C : CtxG sh N own cc nL ret R K) (kk : Rg M → K pc lv stk M) : K pc lv stk M := by
  obtain ⟨p, l, e, s, m, args, below, meth, c, D, cI, cZ, cB, ad, A, ce, sn, Q, ⟨hx, hb, hml, hown, hts⟩, ⟨hr, hlk, hns⟩, hK, hA, hD, hcs, rfl⟩ := C
  intro hM
  exact kk hM hM
theorem g_iconst (C : CtxG sh N own cc nL ret R K) {n : Int} (hd : decode cc pc = .ok (.iconst n, 1)) (kk : K (pc + 1) lv (.inl n :: stk) M) : K pc lv stk M := by
  obtain ⟨p, l, e, s, m, args, below, meth, c, D, cI, cZ, cB, ad, A, ce, sn, Q, ⟨hx, hb, hml, hown, hts⟩, ⟨hr, hlk, hns⟩, hK, hA, hD, hcs, rfl⟩ := C
  intro hM H locs ls hP hS hl
  exact lv_iconst hx hb hd rfl (kk hM H locs ls hP hS hl)
theorem g_bipush (C : CtxG sh N own cc nL ret R K) {n : Int} (hd : decode cc pc = .ok (.bipush n, 2)) (hv : (Int8.ofInt n).toInt32 = Int32.ofInt n) (kk : K (pc + 2) lv (.inl n :: stk) M) : K pc lv stk M := by
  obtain ⟨p, l, e, s, m, args, below, meth, c, D, cI, cZ, cB, ad, A, ce, sn, Q, ⟨hx, hb, hml, hown, hts⟩, ⟨hr, hlk, hns⟩, hK, hA, hD, hcs, rfl⟩ := C
  intro hM H locs ls hP hS hl
  exact lv_bipush hx hb hd hv (kk hM H locs ls hP hS hl)
theorem g_sipush (C : CtxG sh N own cc nL ret R K) {n : Int} (hd : decode cc pc = .ok (.sipush n, 3)) (hv : (Int16.ofInt n).toInt32 = Int32.ofInt n) (kk : K (pc + 3) lv (.inl n :: stk) M) : K pc lv stk M := by
  obtain ⟨p, l, e, s, m, args, below, meth, c, D, cI, cZ, cB, ad, A, ce, sn, Q, ⟨hx, hb, hml, hown, hts⟩, ⟨hr, hlk, hns⟩, hK, hA, hD, hcs, rfl⟩ := C
  intro hM H locs ls hP hS hl
  exact lv_sipush hx hb hd hv (kk hM H locs ls hP hS hl)
theorem g_iload_n (C : CtxG sh N own cc nL ret R K) {k : Fin 4} {i : Nat} {z : Int} (hd : decode cc pc = .ok (.iload_n k, 1)) (hi : (k : Nat) = i) (hl' : lk lv i = some (.inl z)) (kk : K (pc + 1) lv (.inl z :: stk) M) : K pc lv stk M := by
  obtain ⟨p, l, e, s, m, args, below, meth, c, D, cI, cZ, cB, ad, A, ce, sn, Q, ⟨hx, hb, hml, hown, hts⟩, ⟨hr, hlk, hns⟩, hK, hA, hD, hcs, rfl⟩ := C
  intro hM H locs ls hP hS hl
  exact lv_iload_n hx hb hd hi (lm_at hl hl') (kk hM H locs ls hP hS hl)
theorem g_iload (C : CtxG sh N own cc nL ret R K) {i : Nat} {z : Int} (hd : decode cc pc = .ok (.iload i, 2)) (hl' : lk lv i = some (.inl z)) (kk : K (pc + 2) lv (.inl z :: stk) M) : K pc lv stk M := by
  obtain ⟨p, l, e, s, m, args, below, meth, c, D, cI, cZ, cB, ad, A, ce, sn, Q, ⟨hx, hb, hml, hown, hts⟩, ⟨hr, hlk, hns⟩, hK, hA, hD, hcs, rfl⟩ := C
  intro hM H locs ls hP hS hl
  exact lv_iload hx hb hd (lm_at hl hl') (kk hM H locs ls hP hS hl)
theorem g_aload_n (C : CtxG sh N own cc nL ret R K) {k : Fin 4} {i : Nat} {z : Nat} (hd : decode cc pc = .ok (.aload_n k, 1)) (hi : (k : Nat) = i) (hl' : lk lv i = some (.inr z)) (kk : K (pc + 1) lv (.inr z :: stk) M) : K pc lv stk M := by
  obtain ⟨p, l, e, s, m, args, below, meth, c, D, cI, cZ, cB, ad, A, ce, sn, Q, ⟨hx, hb, hml, hown, hts⟩, ⟨hr, hlk, hns⟩, hK, hA, hD, hcs, rfl⟩ := C
  intro hM H locs ls hP hS hl
  exact lv_aload_n hx hb hd hi (lm_at hl hl') (kk hM H locs ls hP hS hl)
theorem g_aload (C : CtxG sh N own cc nL ret R K) {i : Nat} {z : Nat} (hd : decode cc pc = .ok (.aload i, 2)) (hl' : lk lv i = some (.inr z)) (kk : K (pc + 2) lv (.inr z :: stk) M) : K pc lv stk M := by
  obtain ⟨p, l, e, s, m, args, below, meth, c, D, cI, cZ, cB, ad, A, ce, sn, Q, ⟨hx, hb, hml, hown, hts⟩, ⟨hr, hlk, hns⟩, hK, hA, hD, hcs, rfl⟩ := C
  intro hM H locs ls hP hS hl
  exact lv_aload hx hb hd (lm_at hl hl') (kk hM H locs ls hP hS hl)
theorem g_istore_n (C : CtxG sh N own cc nL ret R K) {k : Fin 4} {i : Nat} {z : Int} (hd : decode cc pc = .ok (.istore_n k, 1)) (hi : (k : Nat) = i) (hn : i < nL) (kk : K (pc + 1) (sl lv i (.inl z)) stk M) : K pc lv (.inl z :: stk) M := by
  obtain ⟨p, l, e, s, m, args, below, meth, c, D, cI, cZ, cB, ad, A, ce, sn, Q, ⟨hx, hb, hml, hown, hts⟩, ⟨hr, hlk, hns⟩, hK, hA, hD, hcs, rfl⟩ := C
  intro hM H locs ls hP hS hl
  exact lv_istore_n hx hb hd hi hl hn rfl (fun ls' hl' => kk hM H locs ls' hP hS (lm_store (v := .inl z) hl'))
theorem g_istore (C : CtxG sh N own cc nL ret R K) {i : Nat} {z : Int} (hd : decode cc pc = .ok (.istore i, 2)) (hn : i < nL) (kk : K (pc + 2) (sl lv i (.inl z)) stk M) : K pc lv (.inl z :: stk) M := by
  obtain ⟨p, l, e, s, m, args, below, meth, c, D, cI, cZ, cB, ad, A, ce, sn, Q, ⟨hx, hb, hml, hown, hts⟩, ⟨hr, hlk, hns⟩, hK, hA, hD, hcs, rfl⟩ := C
  intro hM H locs ls hP hS hl
  exact lv_istore hx hb hd hl hn rfl (fun ls' hl' => kk hM H locs ls' hP hS (lm_store (v := .inl z) hl'))
theorem g_astore_n (C : CtxG sh N own cc nL ret R K) {k : Fin 4} {i : Nat} {z : Nat} (hd : decode cc pc = .ok (.astore_n k, 1)) (hi : (k : Nat) = i) (hn : i < nL) (kk : K (pc + 1) (sl lv i (.inr z)) stk M) : K pc lv (.inr z :: stk) M := by
  obtain ⟨p, l, e, s, m, args, below, meth, c, D, cI, cZ, cB, ad, A, ce, sn, Q, ⟨hx, hb, hml, hown, hts⟩, ⟨hr, hlk, hns⟩, hK, hA, hD, hcs, rfl⟩ := C
  intro hM H locs ls hP hS hl
  exact lv_astore_n hx hb hd hi hl hn rfl (fun ls' hl' => kk hM H locs ls' hP hS (lm_store (v := .inr z) hl'))
theorem g_iinc (C : CtxG sh N own cc nL ret R K) {i : Nat} {n z : Int} (hd : decode cc pc = .ok (.iinc i n, 3)) (hn : i < nL) (hl' : lk lv i = some (.inl z)) (kk : K (pc + 3) (sl lv i (.inl (z + n))) stk M) : K pc lv stk M := by
  obtain ⟨p, l, e, s, m, args, below, meth, c, D, cI, cZ, cB, ad, A, ce, sn, Q, ⟨hx, hb, hml, hown, hts⟩, ⟨hr, hlk, hns⟩, hK, hA, hD, hcs, rfl⟩ := C
  intro hM H locs ls hP hS hl
  obtain ⟨j, hj⟩ := List.getElem?_of_mem (List.mem_map.mpr ⟨(i, .inl z), lk_mem hl', rfl⟩ : (i, vv ad (.inl z)) ∈ lm ad lv)
  exact lv_iinc (v := Int32.ofInt (z + n)) hx hb hd hl hj (Int32.ofInt_add z n).symm hn rfl (fun ls' hl' => kk hM H locs ls' hP hS (lm_store (v := .inl (z + n)) hl'))
theorem g_iadd (C : CtxG sh N own cc nL ret R K) {a b : Int} (hd : decode cc pc = .ok (.iadd, 1)) (kk : K (pc + 1) lv (.inl (a + b) :: stk) M) : K pc lv (.inl b :: .inl a :: stk) M := by
  obtain ⟨p, l, e, s, m, args, below, meth, c, D, cI, cZ, cB, ad, A, ce, sn, Q, ⟨hx, hb, hml, hown, hts⟩, ⟨hr, hlk, hns⟩, hK, hA, hD, hcs, rfl⟩ := C
  intro hM H locs ls hP hS hl
  have h := kk hM H locs ls hP hS hl
  simp only [List.map_cons, vv, Int32.ofInt_add] at h
  exact lv_iadd hx hb hd h
theorem g_isub (C : CtxG sh N own cc nL ret R K) {a b : Int} (hd : decode cc pc = .ok (.isub, 1)) (kk : K (pc + 1) lv (.inl (a - b) :: stk) M) : K pc lv (.inl b :: .inl a :: stk) M := by
  obtain ⟨p, l, e, s, m, args, below, meth, c, D, cI, cZ, cB, ad, A, ce, sn, Q, ⟨hx, hb, hml, hown, hts⟩, ⟨hr, hlk, hns⟩, hK, hA, hD, hcs, rfl⟩ := C
  intro hM H locs ls hP hS hl
  have h := kk hM H locs ls hP hS hl
  simp only [List.map_cons, vv, Int32.ofInt_sub] at h
  exact lv_isub hx hb hd h
theorem g_imul (C : CtxG sh N own cc nL ret R K) {a b : Int} (hd : decode cc pc = .ok (.imul, 1)) (kk : K (pc + 1) lv (.inl (a * b) :: stk) M) : K pc lv (.inl b :: .inl a :: stk) M := by
  obtain ⟨p, l, e, s, m, args, below, meth, c, D, cI, cZ, cB, ad, A, ce, sn, Q, ⟨hx, hb, hml, hown, hts⟩, ⟨hr, hlk, hns⟩, hK, hA, hD, hcs, rfl⟩ := C
  intro hM H locs ls hP hS hl
  have h := kk hM H locs ls hP hS hl
  simp only [List.map_cons, vv, Int32.ofInt_mul] at h
  exact lv_imul hx hb hd h
theorem g_dup (C : CtxG sh N own cc nL ret R K) {a : V} (hd : decode cc pc = .ok (.dup, 1)) (kk : K (pc + 1) lv (a :: a :: stk) M) : K pc lv (a :: stk) M := by
  obtain ⟨p, l, e, s, m, args, below, meth, c, D, cI, cZ, cB, ad, A, ce, sn, Q, ⟨hx, hb, hml, hown, hts⟩, ⟨hr, hlk, hns⟩, hK, hA, hD, hcs, rfl⟩ := C
  intro hM H locs ls hP hS hl
  exact lv_dup hx hb hd (vv_cat ad a) (kk hM H locs ls hP hS hl)
theorem g_pop (C : CtxG sh N own cc nL ret R K) {a : V} (hd : decode cc pc = .ok (.pop, 1)) (kk : K (pc + 1) lv stk M) : K pc lv (a :: stk) M := by
  obtain ⟨p, l, e, s, m, args, below, meth, c, D, cI, cZ, cB, ad, A, ce, sn, Q, ⟨hx, hb, hml, hown, hts⟩, ⟨hr, hlk, hns⟩, hK, hA, hD, hcs, rfl⟩ := C
  intro hM H locs ls hP hS hl
  exact lv_pop hx hb hd (vv_cat ad a) (kk hM H locs ls hP hS hl)
theorem g_dup2 (C : CtxG sh N own cc nL ret R K) {a b : V} (hd : decode cc pc = .ok (.dup2, 1)) (kk : K (pc + 1) lv (a :: b :: a :: b :: stk) M) : K pc lv (a :: b :: stk) M := by
  obtain ⟨p, l, e, s, m, args, below, meth, c, D, cI, cZ, cB, ad, A, ce, sn, Q, ⟨hx, hb, hml, hown, hts⟩, ⟨hr, hlk, hns⟩, hK, hA, hD, hcs, rfl⟩ := C
  intro hM H locs ls hP hS hl
  exact lv_dup2_11 hx hb hd (vv_cat ad a) (vv_cat ad b) (kk hM H locs ls hP hS hl)
theorem g_dup_x1 (C : CtxG sh N own cc nL ret R K) {a b : V} (hd : decode cc pc = .ok (.dup_x1, 1)) (kk : K (pc + 1) lv (a :: b :: a :: stk) M) : K pc lv (a :: b :: stk) M := by
  obtain ⟨p, l, e, s, m, args, below, meth, c, D, cI, cZ, cB, ad, A, ce, sn, Q, ⟨hx, hb, hml, hown, hts⟩, ⟨hr, hlk, hns⟩, hK, hA, hD, hcs, rfl⟩ := C
  intro hM H locs ls hP hS hl
  exact lv_dup_x1 hx hb hd (vv_cat ad a) (vv_cat ad b) (kk hM H locs ls hP hS hl)
theorem g_goto (C : CtxG sh N own cc nL ret R K) {off : Int} {tgt : Nat} (hd : decode cc pc = .ok (.goto off, 3)) (ht : (pc : Int) + off = (tgt : Int)) (kk : K tgt lv stk M) : K pc lv stk M := by
  obtain ⟨p, l, e, s, m, args, below, meth, c, D, cI, cZ, cB, ad, A, ce, sn, Q, ⟨hx, hb, hml, hown, hts⟩, ⟨hr, hlk, hns⟩, hK, hA, hD, hcs, rfl⟩ := C
  intro hM H locs ls hP hS hl
  exact lv_goto hx hb hd ht (kk hM H locs ls hP hS hl)
theorem g_icmp_eq (C : CtxG sh N own cc nL ret R K) {a b : Int} {off : Int} {tgt : Nat} (hd : decode cc pc = .ok (.if_icmp .eq off, 3)) (ht : (pc : Int) + off = (tgt : Int)) (ha : inR a) (hb' : inR b) (kt : a = b → K tgt lv stk M) (kf : ¬ a = b → K (pc + 3) lv stk M) : K pc lv (.inl b :: .inl a :: stk) M := by
  obtain ⟨p, l, e, s, m, args, below, meth, c, D, cI, cZ, cB, ad, A, ce, sn, Q, ⟨hx, hb, hml, hown, hts⟩, ⟨hr, hlk, hns⟩, hK, hA, hD, hcs, rfl⟩ := C
  intro hM H locs ls hP hS hl
  exact lv_icmp_eq hx hb hd ht (fun h => kt ((oI_eq ha hb').mp h) hM H locs ls hP hS hl) (fun h => kf (fun q => h ((oI_eq ha hb').mpr q)) hM H locs ls hP hS hl)
theorem g_if_eq (C : CtxG sh N own cc nL ret R K) {a : Int} {off : Int} {tgt : Nat} (hd : decode cc pc = .ok (.ifCond .eq off, 3)) (ht : (pc : Int) + off = (tgt : Int)) (ha : inR a) (kt : a = 0 → K tgt lv stk M) (kf : ¬ a = 0 → K (pc + 3) lv stk M) : K pc lv (.inl a :: stk) M := by
  obtain ⟨p, l, e, s, m, args, below, meth, c, D, cI, cZ, cB, ad, A, ce, sn, Q, ⟨hx, hb, hml, hown, hts⟩, ⟨hr, hlk, hns⟩, hK, hA, hD, hcs, rfl⟩ := C
  intro hM H locs ls hP hS hl
  have r0 : inR 0 := by decide
  exact lv_if_eq hx hb hd ht (fun h => kt ((oI_eq ha r0).mp h) hM H locs ls hP hS hl) (fun h => kf (fun q => h ((oI_eq ha r0).mpr q)) hM H locs ls hP hS hl)
theorem g_icmp_ne (C : CtxG sh N own cc nL ret R K) {a b : Int} {off : Int} {tgt : Nat} (hd : decode cc pc = .ok (.if_icmp .ne off, 3)) (ht : (pc : Int) + off = (tgt : Int)) (ha : inR a) (hb' : inR b) (kt : ¬ a = b → K tgt lv stk M) (kf : a = b → K (pc + 3) lv stk M) : K pc lv (.inl b :: .inl a :: stk) M := by
  obtain ⟨p, l, e, s, m, args, below, meth, c, D, cI, cZ, cB, ad, A, ce, sn, Q, ⟨hx, hb, hml, hown, hts⟩, ⟨hr, hlk, hns⟩, hK, hA, hD, hcs, rfl⟩ := C
  intro hM H locs ls hP hS hl
  exact lv_icmp_ne hx hb hd ht (fun h => kt (fun q => h ((oI_eq ha hb').mpr q)) hM H locs ls hP hS hl) (fun h => kf ((oI_eq ha hb').mp h) hM H locs ls hP hS hl)
theorem g_if_ne (C : CtxG sh N own cc nL ret R K) {a : Int} {off : Int} {tgt : Nat} (hd : decode cc pc = .ok (.ifCond .ne off, 3)) (ht : (pc : Int) + off = (tgt : Int)) (ha : inR a) (kt : ¬ a = 0 → K tgt lv stk M) (kf : a = 0 → K (pc + 3) lv stk M) : K pc lv (.inl a :: stk) M := by
  obtain ⟨p, l, e, s, m, args, below, meth, c, D, cI, cZ, cB, ad, A, ce, sn, Q, ⟨hx, hb, hml, hown, hts⟩, ⟨hr, hlk, hns⟩, hK, hA, hD, hcs, rfl⟩ := C
  intro hM H locs ls hP hS hl
  have r0 : inR 0 := by decide
  exact lv_if_ne hx hb hd ht (fun h => kt (fun q => h ((oI_eq ha r0).mpr q)) hM H locs ls hP hS hl) (fun h => kf ((oI_eq ha r0).mp h) hM H locs ls hP hS hl)
theorem g_icmp_lt (C : CtxG sh N own cc nL ret R K) {a b : Int} {off : Int} {tgt : Nat} (hd : decode cc pc = .ok (.if_icmp .lt off, 3)) (ht : (pc : Int) + off = (tgt : Int)) (ha : inR a) (hb' : inR b) (kt : a < b → K tgt lv stk M) (kf : b ≤ a → K (pc + 3) lv stk M) : K pc lv (.inl b :: .inl a :: stk) M := by
  obtain ⟨p, l, e, s, m, args, below, meth, c, D, cI, cZ, cB, ad, A, ce, sn, Q, ⟨hx, hb, hml, hown, hts⟩, ⟨hr, hlk, hns⟩, hK, hA, hD, hcs, rfl⟩ := C
  intro hM H locs ls hP hS hl
  exact lv_icmp_lt hx hb hd ht (fun h => kt ((oI_lt ha hb').mp h) hM H locs ls hP hS hl) (fun h => kf (Int.not_lt.mp (fun q => h ((oI_lt ha hb').mpr q))) hM H locs ls hP hS hl)
theorem g_if_lt (C : CtxG sh N own cc nL ret R K) {a : Int} {off : Int} {tgt : Nat} (hd : decode cc pc = .ok (.ifCond .lt off, 3)) (ht : (pc : Int) + off = (tgt : Int)) (ha : inR a) (kt : a < 0 → K tgt lv stk M) (kf : 0 ≤ a → K (pc + 3) lv stk M) : K pc lv (.inl a :: stk) M := by
  obtain ⟨p, l, e, s, m, args, below, meth, c, D, cI, cZ, cB, ad, A, ce, sn, Q, ⟨hx, hb, hml, hown, hts⟩, ⟨hr, hlk, hns⟩, hK, hA, hD, hcs, rfl⟩ := C
  intro hM H locs ls hP hS hl
  have r0 : inR 0 := by decide
  exact lv_if_lt hx hb hd ht (fun h => kt ((oI_lt ha r0).mp h) hM H locs ls hP hS hl) (fun h => kf (Int.not_lt.mp (fun q => h ((oI_lt ha r0).mpr q))) hM H locs ls hP hS hl)
theorem g_icmp_ge (C : CtxG sh N own cc nL ret R K) {a b : Int} {off : Int} {tgt : Nat} (hd : decode cc pc = .ok (.if_icmp .ge off, 3)) (ht : (pc : Int) + off = (tgt : Int)) (ha : inR a) (hb' : inR b) (kt : b ≤ a → K tgt lv stk M) (kf : a < b → K (pc + 3) lv stk M) : K pc lv (.inl b :: .inl a :: stk) M := by
  obtain ⟨p, l, e, s, m, args, below, meth, c, D, cI, cZ, cB, ad, A, ce, sn, Q, ⟨hx, hb, hml, hown, hts⟩, ⟨hr, hlk, hns⟩, hK, hA, hD, hcs, rfl⟩ := C
  intro hM H locs ls hP hS hl
  exact lv_icmp_ge hx hb hd ht (fun h => kt ((oI_le hb' ha).mp h) hM H locs ls hP hS hl) (fun h => kf (Int.not_le.mp (fun q => h ((oI_le hb' ha).mpr q))) hM H locs ls hP hS hl)
theorem g_if_ge (C : CtxG sh N own cc nL ret R K) {a : Int} {off : Int} {tgt : Nat} (hd : decode cc pc = .ok (.ifCond .ge off, 3)) (ht : (pc : Int) + off = (tgt : Int)) (ha : inR a) (kt : 0 ≤ a → K tgt lv stk M) (kf : a < 0 → K (pc + 3) lv stk M) : K pc lv (.inl a :: stk) M := by
  obtain ⟨p, l, e, s, m, args, below, meth, c, D, cI, cZ, cB, ad, A, ce, sn, Q, ⟨hx, hb, hml, hown, hts⟩, ⟨hr, hlk, hns⟩, hK, hA, hD, hcs, rfl⟩ := C
  intro hM H locs ls hP hS hl
  have r0 : inR 0 := by decide
  exact lv_if_ge hx hb hd ht (fun h => kt ((oI_le r0 ha).mp h) hM H locs ls hP hS hl) (fun h => kf (Int.not_le.mp (fun q => h ((oI_le r0 ha).mpr q))) hM H locs ls hP hS hl)
theorem g_icmp_gt (C : CtxG sh N own cc nL ret R K) {a b : Int} {off : Int} {tgt : Nat} (hd : decode cc pc = .ok (.if_icmp .gt off, 3)) (ht : (pc : Int) + off = (tgt : Int)) (ha : inR a) (hb' : inR b) (kt : b < a → K tgt lv stk M) (kf : a ≤ b → K (pc + 3) lv stk M) : K pc lv (.inl b :: .inl a :: stk) M := by
  obtain ⟨p, l, e, s, m, args, below, meth, c, D, cI, cZ, cB, ad, A, ce, sn, Q, ⟨hx, hb, hml, hown, hts⟩, ⟨hr, hlk, hns⟩, hK, hA, hD, hcs, rfl⟩ := C
  intro hM H locs ls hP hS hl
  exact lv_icmp_gt hx hb hd ht (fun h => kt ((oI_lt hb' ha).mp h) hM H locs ls hP hS hl) (fun h => kf (Int.not_lt.mp (fun q => h ((oI_lt hb' ha).mpr q))) hM H locs ls hP hS hl)
theorem g_if_gt (C : CtxG sh N own cc nL ret R K) {a : Int} {off : Int} {tgt : Nat} (hd : decode cc pc = .ok (.ifCond .gt off, 3)) (ht : (pc : Int) + off = (tgt : Int)) (ha : inR a) (kt : 0 < a → K tgt lv stk M) (kf : a ≤ 0 → K (pc + 3) lv stk M) : K pc lv (.inl a :: stk) M := by
  obtain ⟨p, l, e, s, m, args, below, meth, c, D, cI, cZ, cB, ad, A, ce, sn, Q, ⟨hx, hb, hml, hown, hts⟩, ⟨hr, hlk, hns⟩, hK, hA, hD, hcs, rfl⟩ := C
  intro hM H locs ls hP hS hl
  have r0 : inR 0 := by decide
  exact lv_if_gt hx hb hd ht (fun h => kt ((oI_lt r0 ha).mp h) hM H locs ls hP hS hl) (fun h => kf (Int.not_lt.mp (fun q => h ((oI_lt r0 ha).mpr q))) hM H locs ls hP hS hl)
theorem g_icmp_le (C : CtxG sh N own cc nL ret R K) {a b : Int} {off : Int} {tgt : Nat} (hd : decode cc pc = .ok (.if_icmp .le off, 3)) (ht : (pc : Int) + off = (tgt : Int)) (ha : inR a) (hb' : inR b) (kt : a ≤ b → K tgt lv stk M) (kf : b < a → K (pc + 3) lv stk M) : K pc lv (.inl b :: .inl a :: stk) M := by
  obtain ⟨p, l, e, s, m, args, below, meth, c, D, cI, cZ, cB, ad, A, ce, sn, Q, ⟨hx, hb, hml, hown, hts⟩, ⟨hr, hlk, hns⟩, hK, hA, hD, hcs, rfl⟩ := C
  intro hM H locs ls hP hS hl
  exact lv_icmp_le hx hb hd ht (fun h => kt ((oI_le ha hb').mp h) hM H locs ls hP hS hl) (fun h => kf (Int.not_le.mp (fun q => h ((oI_le ha hb').mpr q))) hM H locs ls hP hS hl)
theorem g_if_le (C : CtxG sh N own cc nL ret R K) {a : Int} {off : Int} {tgt : Nat} (hd : decode cc pc = .ok (.ifCond .le off, 3)) (ht : (pc : Int) + off = (tgt : Int)) (ha : inR a) (kt : a ≤ 0 → K tgt lv stk M) (kf : 0 < a → K (pc + 3) lv stk M) : K pc lv (.inl a :: stk) M := by
  obtain ⟨p, l, e, s, m, args, below, meth, c, D, cI, cZ, cB, ad, A, ce, sn, Q, ⟨hx, hb, hml, hown, hts⟩, ⟨hr, hlk, hns⟩, hK, hA, hD, hcs, rfl⟩ := C
  intro hM H locs ls hP hS hl
  have r0 : inR 0 := by decide
  exact lv_if_le hx hb hd ht (fun h => kt ((oI_le ha r0).mp h) hM H locs ls hP hS hl) (fun h => kf (Int.not_le.mp (fun q => h ((oI_le ha r0).mpr q))) hM H locs ls hP hS hl)
theorem g_iaload (C : CtxG sh N own cc nL ret R K) {k n : Nat} {i : Int} (hs : sh k = .inl (.int, n)) (hk : k < N) (hn : n < 2147483648) (hi : 0 ≤ i ∧ i < n) (hd : decode cc pc = .ok (.iaload, 1)) (kk : inR (M k i) → K (pc + 1) lv (.inl (M k i) :: stk) M) : K pc lv (.inl i :: .inr k :: stk) M := by
  obtain ⟨p, l, e, s, m, args, below, meth, c, D, cI, cZ, cB, ad, A, ce, sn, Q, ⟨hx, hb, hml, hown, hts⟩, ⟨hr, hlk, hns⟩, hK, hA, hD, hcs, rfl⟩ := C
  intro hM H locs ls hP hS hl
  obtain ⟨h1, h2⟩ := oI_in hi.1 hi.2 hn
  have hc := wsOf_at (sh := sh) (cI := cI) (cZ := cZ) (cB := cB) (ad := ad) (M := M) hk
  rw [hs] at hc
  refine va_iald hx hb hK hP k 0 hc rfl h1 hd ?_
  have h := kk (hM k i) hM H locs ls hP hS hl
  simp only [h2]
  exact h
theorem g_zaload (C : CtxG sh N own cc nL ret R K) {k n : Nat} {i : Int} (hs : sh k = .inl (.boolean, n)) (hk : k < N) (hn : n < 2147483648) (hi : 0 ≤ i ∧ i < n) (hd : decode cc pc = .ok (.baload, 1)) (kk : inR (M k i) → K (pc + 1) lv (.inl (M k i) :: stk) M) : K pc lv (.inl i :: .inr k :: stk) M := by
  obtain ⟨p, l, e, s, m, args, below, meth, c, D, cI, cZ, cB, ad, A, ce, sn, Q, ⟨hx, hb, hml, hown, hts⟩, ⟨hr, hlk, hns⟩, hK, hA, hD, hcs, rfl⟩ := C
  intro hM H locs ls hP hS hl
  obtain ⟨h1, h2⟩ := oI_in hi.1 hi.2 hn
  have hc := wsOf_at (sh := sh) (cI := cI) (cZ := cZ) (cB := cB) (ad := ad) (M := M) hk
  rw [hs] at hc
  refine va_zald hx hb hK hP k 1 hc rfl h1 hd ?_
  have h := kk (hM k i) hM H locs ls hP hS hl
  simp only [h2]
  exact h
theorem g_baload (C : CtxG sh N own cc nL ret R K) {k n : Nat} {i : Int} (hs : sh k = .inl (.byte, n)) (hk : k < N) (hn : n < 2147483648) (hi : 0 ≤ i ∧ i < n) (hd : decode cc pc = .ok (.baload, 1)) (kk : inR (M k i) → K (pc + 1) lv (.inl (M k i) :: stk) M) : K pc lv (.inl i :: .inr k :: stk) M := by
  obtain ⟨p, l, e, s, m, args, below, meth, c, D, cI, cZ, cB, ad, A, ce, sn, Q, ⟨hx, hb, hml, hown, hts⟩, ⟨hr, hlk, hns⟩, hK, hA, hD, hcs, rfl⟩ := C
  intro hM H locs ls hP hS hl
  obtain ⟨h1, h2⟩ := oI_in hi.1 hi.2 hn
  have hc := wsOf_at (sh := sh) (cI := cI) (cZ := cZ) (cB := cB) (ad := ad) (M := M) hk
  rw [hs] at hc
  refine va_bald hx hb hK hP k 2 hc rfl h1 hd ?_
  have h := kk (hM k i) hM H locs ls hP hS hl
  simp only [h2]
  exact h
theorem g_iastore (C : CtxG sh N own cc nL ret R K) {k n : Nat} {i v : Int} (hs : sh k = .inl (.int, n)) (hk : k < N) (hn : n < 2147483648) (hi : 0 ≤ i ∧ i < n) (hv : inR v) (hd : decode cc pc = .ok (.iastore, 1)) (kk : K (pc + 1) lv stk (up M k i v)) : K pc lv (.inl v :: .inl i :: .inr k :: stk) M := by
  obtain ⟨p, l, e, s, m, args, below, meth, c, D, cI, cZ, cB, ad, A, ce, sn, Q, ⟨hx, hb, hml, hown, hts⟩, ⟨hr, hlk, hns⟩, hK, hA, hD, hcs, rfl⟩ := C
  intro hM H locs ls hP hS hl
  obtain ⟨h1, h2⟩ := oI_in hi.1 hi.2 hn
  have hc := wsOf_at (sh := sh) (cI := cI) (cZ := cZ) (cB := cB) (ad := ad) (M := M) hk
  rw [hs] at hc
  refine va_iast hx hb hK hP (hD M) hS k 0 hc rfl h1 hd (fun H1 locs1 hP1 _ hS1 => ?_)
  rw [upd_M h2 rfl, wsOf_set (M' := up M k i v) hk (by rw [hs]; rfl) (fun j hj => up_ne hj)] at hP1
  exact kk (hM.up hv) H1 locs1 ls hP1 hS1 hl
theorem g_zastore (C : CtxG sh N own cc nL ret R K) {k n : Nat} {i v : Int} (hs : sh k = .inl (.boolean, n)) (hk : k < N) (hn : n < 2147483648) (hi : 0 ≤ i ∧ i < n) (hv : v = 0 ∨ v = 1) (hd : decode cc pc = .ok (.bastore, 1)) (kk : K (pc + 1) lv stk (up M k i v)) : K pc lv (.inl v :: .inl i :: .inr k :: stk) M := by
  obtain ⟨p, l, e, s, m, args, below, meth, c, D, cI, cZ, cB, ad, A, ce, sn, Q, ⟨hx, hb, hml, hown, hts⟩, ⟨hr, hlk, hns⟩, hK, hA, hD, hcs, rfl⟩ := C
  intro hM H locs ls hP hS hl
  obtain ⟨h1, h2⟩ := oI_in hi.1 hi.2 hn
  have hc := wsOf_at (sh := sh) (cI := cI) (cZ := cZ) (cB := cB) (ad := ad) (M := M) hk
  rw [hs] at hc
  refine va_zast hx hb hK hP (hD M) hS k 1 hc rfl h1 hd (fun H1 locs1 hP1 _ hS1 => ?_)
  rw [upd_M h2 (nar_z hv), wsOf_set (M' := up M k i v) hk (by rw [hs]; rfl) (fun j hj => up_ne hj)] at hP1
  exact kk (hM.up (by omega)) H1 locs1 ls hP1 hS1 hl
theorem g_bastore (C : CtxG sh N own cc nL ret R K) {k n : Nat} {i v : Int} (hs : sh k = .inl (.byte, n)) (hk : k < N) (hn : n < 2147483648) (hi : 0 ≤ i ∧ i < n) (hv : -128 ≤ v ∧ v < 128) (hd : decode cc pc = .ok (.bastore, 1)) (kk : K (pc + 1) lv stk (up M k i v)) : K pc lv (.inl v :: .inl i :: .inr k :: stk) M := by
  obtain ⟨p, l, e, s, m, args, below, meth, c, D, cI, cZ, cB, ad, A, ce, sn, Q, ⟨hx, hb, hml, hown, hts⟩, ⟨hr, hlk, hns⟩, hK, hA, hD, hcs, rfl⟩ := C
  intro hM H locs ls hP hS hl
  obtain ⟨h1, h2⟩ := oI_in hi.1 hi.2 hn
  have hc := wsOf_at (sh := sh) (cI := cI) (cZ := cZ) (cB := cB) (ad := ad) (M := M) hk
  rw [hs] at hc
  have hr : inR v := by omega
  have hn8 : vp_nar .byte (Int32.ofInt v) = Int32.ofInt v := by
    rw [vp_nar_byte]
    apply Int32.toInt_inj.mp
    rw [Int8.toInt_toInt32, Int32.toInt_toInt8, tI hr]
    exact Int.bmod_eq_of_le (by simp; omega) (by simp; omega)
  refine va_bast hx hb hK hP (hD M) hS k 2 hc rfl h1 hd (fun H1 locs1 hP1 _ hS1 => ?_)
  rw [upd_M h2 hn8, wsOf_set (M' := up M k i v) hk (by rw [hs]; rfl) (fun j hj => up_ne hj)] at hP1
  exact kk (hM.up hr) H1 locs1 ls hP1 hS1 hl
theorem g_alen (C : CtxG sh N own cc nL ret R K) {k n : Nat} {ty : FieldType} (hs : sh k = .inl (ty, n)) (hk : k < N) (hty : ty = .int ∨ ty = .boolean ∨ ty = .byte) (hd : decode cc pc = .ok (.arraylength, 1)) (kk : K (pc + 1) lv (.inl (n : Int) :: stk) M) : K pc lv (.inr k :: stk) M := by
  obtain ⟨p, l, e, s, m, args, below, meth, c, D, cI, cZ, cB, ad, A, ce, sn, Q, ⟨hx, hb, hml, hown, hts⟩, ⟨hr, hlk, hns⟩, hK, hA, hD, hcs, rfl⟩ := C
  intro hM H locs ls hP hS hl
  have hc := wsOf_at (sh := sh) (cI := cI) (cZ := cZ) (cB := cB) (ad := ad) (M := M) hk
  rw [hs] at hc
  rcases hty with rfl | rfl | rfl
  · exact va_alen hx hb hK hP k 0 hc rfl rfl hd (kk hM H locs ls hP hS hl)
  · exact va_alen hx hb hK hP k 1 hc rfl rfl hd (kk hM H locs ls hP hS hl)
  · exact va_alen hx hb hK hP k 2 hc rfl rfl hd (kk hM H locs ls hP hS hl)
theorem g_getR (C : CtxG sh N own cc nL ret R K) {k r ci j n index : Nat} {fs : List (Option Nat)} {CC : String} {T : u_T} {ty : Nat → FieldType} (hc : okC ci CC T n ty) (hs : sh k = .inr (ci, fs)) (hk : k < N) (hj : j < n) (hf : fs[j]? = some (some r)) (hw : Cond.fieldLink own index (T j).1 (T j).2.1 (T j).2.2.1 ∈ tbg) (hd : decode cc pc = .ok (.getfield index, 3)) (kk : K (pc + 3) lv (.inr r :: stk) M) : K pc lv (.inr k :: stk) M := by
  obtain ⟨p, l, e, s, m, args, below, meth, c, D, cI, cZ, cB, ad, A, ce, sn, Q, ⟨hx, hb, hml, hown, hts⟩, ⟨hr, hlk, hns⟩, hK, hA, hD, hcs, rfl⟩ := C
  intro hM H locs ls hP hS hl
  have he := wsOf_at (sh := sh) (cI := cI) (cZ := cZ) (cB := cB) (ad := ad) (M := M) hk
  rw [hs] at he
  exact va_get (v := .ref (ad r)) hx hb hts hc.2.1 hown hK hP k he hc.1 j hj (hts _ hw) (fun _ h => h) (by rw [List.getElem?_mapIdx, hf]; rfl) hd (kk hM H locs ls hP hS hl)
theorem g_getI (C : CtxG sh N own cc nL ret R K) {k ci j n index : Nat} {fs : List (Option Nat)} {CC : String} {T : u_T} {ty : Nat → FieldType} (hc : okC ci CC T n ty) (hs : sh k = .inr (ci, fs)) (hk : k < N) (hj : j < n) (hf : fs[j]? = some none) (hw : Cond.fieldLink own index (T j).1 (T j).2.1 (T j).2.2.1 ∈ tbg) (hd : decode cc pc = .ok (.getfield index, 3)) (kk : inR (M k j) → K (pc + 3) lv (.inl (M k j) :: stk) M) : K pc lv (.inr k :: stk) M := by
  obtain ⟨p, l, e, s, m, args, below, meth, c, D, cI, cZ, cB, ad, A, ce, sn, Q, ⟨hx, hb, hml, hown, hts⟩, ⟨hr, hlk, hns⟩, hK, hA, hD, hcs, rfl⟩ := C
  intro hM H locs ls hP hS hl
  have he := wsOf_at (sh := sh) (cI := cI) (cZ := cZ) (cB := cB) (ad := ad) (M := M) hk
  rw [hs] at he
  exact va_get (v := .int (Int32.ofInt (M k j))) hx hb hts hc.2.1 hown hK hP k he hc.1 j hj (hts _ hw) (fun _ h => h) (by rw [List.getElem?_mapIdx, hf]; rfl) hd (kk (hM k j) hM H locs ls hP hS hl)
theorem g_putI (C : CtxG sh N own cc nL ret R K) {k ci j n index : Nat} {fs : List (Option Nat)} {CC : String} {T : u_T} {ty : Nat → FieldType} {v : Int} (hc : okC ci CC T n ty) (hs : sh k = .inr (ci, fs)) (hk : k < N) (hj : j < n) (hf : fs[j]? = some none) (hfin : (T j).2.2.2 = false) (hty : ty j = .int) (hv : inR v) (hw : Cond.fieldLink own index (T j).1 (T j).2.1 (T j).2.2.1 ∈ tbg) (hd : decode cc pc = .ok (.putfield index, 3)) (kk : K (pc + 3) lv stk (up M k j v)) : K pc lv (.inl v :: .inr k :: stk) M := by
  obtain ⟨p, l, e, s, m, args, below, meth, c, D, cI, cZ, cB, ad, A, ce, sn, Q, ⟨hx, hb, hml, hown, hts⟩, ⟨hr, hlk, hns⟩, hK, hA, hD, hcs, rfl⟩ := C
  intro hM H locs ls hP hS hl
  have he := wsOf_at (sh := sh) (cI := cI) (cZ := cZ) (cB := cB) (ad := ad) (M := M) hk
  rw [hs] at he
  refine va_put (v := .int (Int32.ofInt v)) (ty := .int) hx hb hts hc.2.1 ty hc.2.2.1 hc.2.2.2 hown hK hP (hD M) hS k he hc.1 j hj (hts _ hw) (fun _ h => h) hfin (by rw [hc.2.2.1 j hj, hty]) rfl rfl (by rw [List.length_mapIdx]; exact (List.getElem?_eq_some_iff.mp hf).1) hd (fun H1 locs1 hP1 _ hS1 => ?_)
  rw [set_M hf, wsOf_set (M' := up M k j v) hk (by rw [hs]; rfl) (fun j hj => up_ne hj)] at hP1
  exact kk (hM.up hv) H1 locs1 ls hP1 hS1 hl
theorem g_putZ (C : CtxG sh N own cc nL ret R K) {k ci j n index : Nat} {fs : List (Option Nat)} {CC : String} {T : u_T} {ty : Nat → FieldType} {v : Int} (hc : okC ci CC T n ty) (hs : sh k = .inr (ci, fs)) (hk : k < N) (hj : j < n) (hf : fs[j]? = some none) (hfin : (T j).2.2.2 = false) (hty : ty j = .boolean) (hv : v = 0 ∨ v = 1) (hw : Cond.fieldLink own index (T j).1 (T j).2.1 (T j).2.2.1 ∈ tbg) (hd : decode cc pc = .ok (.putfield index, 3)) (kk : K (pc + 3) lv stk (up M k j v)) : K pc lv (.inl v :: .inr k :: stk) M := by
  obtain ⟨p, l, e, s, m, args, below, meth, c, D, cI, cZ, cB, ad, A, ce, sn, Q, ⟨hx, hb, hml, hown, hts⟩, ⟨hr, hlk, hns⟩, hK, hA, hD, hcs, rfl⟩ := C
  intro hM H locs ls hP hS hl
  have he := wsOf_at (sh := sh) (cI := cI) (cZ := cZ) (cB := cB) (ad := ad) (M := M) hk
  rw [hs] at he
  refine va_put (v := .int (Int32.ofInt v)) (ty := .boolean) hx hb hts hc.2.1 ty hc.2.2.1 hc.2.2.2 hown hK hP (hD M) hS k he hc.1 j hj (hts _ hw) (fun _ h => h) hfin (by rw [hc.2.2.1 j hj, hty]) (by rcases hv with rfl | rfl <;> decide) (by rcases hv with rfl | rfl <;> decide) (by rw [List.length_mapIdx]; exact (List.getElem?_eq_some_iff.mp hf).1) hd (fun H1 locs1 hP1 _ hS1 => ?_)
  rw [set_M hf, wsOf_set (M' := up M k j v) hk (by rw [hs]; rfl) (fun j hj => up_ne hj)] at hP1
  exact kk (hM.up (by omega)) H1 locs1 ls hP1 hS1 hl
theorem g_idiv (C : CtxG sh N own cc nL ret R K) {a b : Int} (hd : decode cc pc = .ok (.idiv, 1)) (ha : 0 ≤ a ∧ a < 2147483648) (hb0 : 0 < b ∧ b < 2147483648) (kk : K (pc + 1) lv (.inl (a / b) :: stk) M) : K pc lv (.inl b :: .inl a :: stk) M := by
  obtain ⟨p, l, e, s, m, args, below, meth, c, D, cI, cZ, cB, ad, A, ce, sn, Q, ⟨hx, hb, hml, hown, hts⟩, ⟨hr, hlk, hns⟩, hK, hA, hD, hcs, rfl⟩ := C
  intro hM H locs ls hP hS hl
  have h := kk hM H locs ls hP hS hl
  simp only [List.map_cons, vv, ← oI_div ha hb0] at h
  exact lv_idiv hx hb hd (fun q => by rw [oI_0, oI_eq (by omega) (by omega)] at q; omega) h
theorem g_irem (C : CtxG sh N own cc nL ret R K) {a b : Int} (hd : decode cc pc = .ok (.irem, 1)) (ha : 0 ≤ a ∧ a < 2147483648) (hb0 : 0 < b ∧ b < 2147483648) (kk : K (pc + 1) lv (.inl (a % b) :: stk) M) : K pc lv (.inl b :: .inl a :: stk) M := by
  obtain ⟨p, l, e, s, m, args, below, meth, c, D, cI, cZ, cB, ad, A, ce, sn, Q, ⟨hx, hb, hml, hown, hts⟩, ⟨hr, hlk, hns⟩, hK, hA, hD, hcs, rfl⟩ := C
  intro hM H locs ls hP hS hl
  have h := kk hM H locs ls hP hS hl
  refine lv_irem hx hb hd (fun q => by rw [oI_0, oI_eq (by omega) (by omega)] at q; omega) ?_
  have e1 : Int32.ofInt a - Int32.ofInt a / Int32.ofInt b * Int32.ofInt b = Int32.ofInt (a % b) := by
    rw [oI_div ha hb0, ← Int32.ofInt_mul, ← Int32.ofInt_sub]
    congr 1
    have := Int.mul_ediv_add_emod a b
    rw [Int.mul_comm] at this
    omega
  rw [e1]
  exact h
theorem g_table (C : CtxG sh N own cc nL ret R K) {a : Int} {dflt lo hi : Int} {offs : Array Int} {len : Nat} (hd : decode cc pc = .ok (.tableswitch dflt lo hi offs, len)) (ha : inR a) {tgt : Nat} (ht : (pc : Int) + dflt = (tgt : Int))
    (kin : ∀ (off : Int) (t : Nat), lo ≤ a → a ≤ hi → offs[(a - lo).toNat]? = some off → (pc : Int) + off = (t : Int) → K t lv stk M) (hin : lo ≤ a → a ≤ hi → ∃ (off : Int) (t : Nat), offs[(a - lo).toNat]? = some off ∧ (pc : Int) + off = (t : Int)) (kout : a < lo ∨ hi < a → K tgt lv stk M) : K pc lv (.inl a :: stk) M := by
  obtain ⟨p, l, e, s, m, args, below, meth, c, D, cI, cZ, cB, ad, A, ce, sn, Q, ⟨hx, hb, hml, hown, hts⟩, ⟨hr, hlk, hns⟩, hK, hA, hD, hcs, rfl⟩ := C
  intro hM H locs ls hP hS hl
  by_cases h : lo ≤ a ∧ a ≤ hi
  · obtain ⟨off, t, h1, h2⟩ := hin h.1 h.2
    exact lv_tableIn hx hb hd (by rw [tI ha]; omega) (by rw [tI ha]; omega) (by rw [tI ha]; exact h1) h2 (kin off t h.1 h.2 h1 h2 hM H locs ls hP hS hl)
  · exact lv_tableOut hx hb hd (by rw [tI ha]; omega) ht (kout (by omega) hM H locs ls hP hS hl)
theorem g_lookup (C : CtxG sh N own cc nL ret R K) {a : Int} {dflt : Int} {ps : Array (Int × Int)} {len : Nat} (hd : decode cc pc = .ok (.lookupswitch dflt ps, len)) (ha : inR a) (hp : (ps.toList.zip (ps.toList.drop 1)).all (fun (a, next) => a.1 < next.1) = true) {off : Int} {tgt : Nat} (ho : Op.lookupswitch.offset ps.toList dflt a = off) (ht : (pc : Int) + off = (tgt : Int)) (kk : K tgt lv stk M) : K pc lv (.inl a :: stk) M := by
  obtain ⟨p, l, e, s, m, args, below, meth, c, D, cI, cZ, cB, ad, A, ce, sn, Q, ⟨hx, hb, hml, hown, hts⟩, ⟨hr, hlk, hns⟩, hK, hA, hD, hcs, rfl⟩ := C
  intro hM H locs ls hP hS hl
  exact lv_lookup hx hb hd hp (by rw [tI ha]; exact ho) ht (kk hM H locs ls hP hS hl)
theorem g_cut (C : CtxG sh N own cc nL ret R K) {lv' : Lv} (kk : K pc lv' stk M) (hv : subl lv' lv) : K pc lv stk M := g_sub C lv' (subl_mem hv) kk
theorem g_getJ (C : CtxG sh N own cc nL ret R K) {k ci n index : Nat} (j : Nat) (ji : Int) (hji : (j : Int) = ji) {fs : List (Option Nat)} {CC : String} {T : u_T} {ty : Nat → FieldType} (hc : okC ci CC T n ty) (hs : sh k = .inr (ci, fs)) (hk : k < N) (hj : j < n) (hf : fs[j]? = some none) (hw : Cond.fieldLink own index (T j).1 (T j).2.1 (T j).2.2.1 ∈ tbg) (hd : decode cc pc = .ok (.getfield index, 3)) (kk : inR (M k ji) → K (pc + 3) lv (.inl (M k ji) :: stk) M) : K pc lv (.inr k :: stk) M := by
  subst hji; exact g_getI C hc hs hk hj hf hw hd kk
theorem g_putJ (C : CtxG sh N own cc nL ret R K) {k ci n index : Nat} (j : Nat) (ji : Int) (hji : (j : Int) = ji) {fs : List (Option Nat)} {CC : String} {T : u_T} {ty : Nat → FieldType} {v : Int} (hc : okC ci CC T n ty) (hs : sh k = .inr (ci, fs)) (hk : k < N) (hj : j < n) (hf : fs[j]? = some none) (hfin : (T j).2.2.2 = false) (hty : ty j = .int) (hv : inR v) (hw : Cond.fieldLink own index (T j).1 (T j).2.1 (T j).2.2.1 ∈ tbg) (hd : decode cc pc = .ok (.putfield index, 3)) (kk : K (pc + 3) lv stk (up M k ji v)) : K pc lv (.inl v :: .inr k :: stk) M := by
  subst hji; exact g_putI C hc hs hk hj hf hfin hty hv hw hd kk
theorem g_putB (C : CtxG sh N own cc nL ret R K) {k ci n index : Nat} (j : Nat) (ji : Int) (hji : (j : Int) = ji) {fs : List (Option Nat)} {CC : String} {T : u_T} {ty : Nat → FieldType} {v : Int} (hc : okC ci CC T n ty) (hs : sh k = .inr (ci, fs)) (hk : k < N) (hj : j < n) (hf : fs[j]? = some none) (hfin : (T j).2.2.2 = false) (hty : ty j = .boolean) (hv : v = 0 ∨ v = 1) (hw : Cond.fieldLink own index (T j).1 (T j).2.1 (T j).2.2.1 ∈ tbg) (hd : decode cc pc = .ok (.putfield index, 3)) (kk : K (pc + 3) lv stk (up M k ji v)) : K pc lv (.inl v :: .inr k :: stk) M := by
  subst hji; exact g_putZ C hc hs hk hj hf hfin hty hv hw hd kk
theorem g_len (C : CtxG sh N own cc nL ret R K) {k n : Nat} {ty : FieldType} (hs : sh k = .inl (ty, n)) (hk : k < N) (hty : ty = .int ∨ ty = .boolean ∨ ty = .byte) (hd : decode cc pc = .ok (.arraylength, 1)) (kk : ∀ ni : Int, ni = n → K (pc + 1) lv (.inl ni :: stk) M) : K pc lv (.inr k :: stk) M :=
  g_alen C hs hk hty hd (kk _ rfl)
theorem g_cut2 (C : CtxG sh N own cc nL ret R K) {lv' : Lv} (hv : subl lv' lv) (kk : K pc lv' stk M) : K pc lv stk M := g_cut C kk hv
theorem g_callV (C : CtxG sh N own cc nL ret R K) {y : MethodName} {bytes : ByteArray} {maxL index n : Nat} {ret' : Option FieldType} {rm : Room} {k ci nf : Nat} {fs : List (Option Nat)} {T : u_T} {As : List V} {post' : Int → Mem → Prop}
    (hw : okV own index y bytes maxL ret' n) (hd : decode cc pc = .ok (.invokevirtual index, 3)) (hc : Ct sh N y bytes maxL ret' rm (.inr k :: As) M post') (hst : stk0 = As.reverse ++ .inr k :: stk) (hs : sh k = .inr (ci, fs)) (hk : k < N) (hci : vwCl[ci]? = some (y.cls, T, nf))
    (hrm : rm.cells = 0 ∧ rm.slots = 0 ∧ rm.frames + 1 ≤ R.frames ∧ 8 + (maxL + 11) + rm.locals ≤ R.locals) (hn : As.length = n) (h8 : stk.length ≤ 8)
    (kk : ∀ r M', inR r → post' r M' → K (pc + 3) lv (psh ret' r stk) M') : K pc lv stk0 M := by
  obtain ⟨p, l, e, s, m, args, below, meth, c, D, cI, cZ, cB, ad, A, ce, sn, Q, ⟨hx, hb, hml, hown, hts⟩, ⟨hr, hlk, hns⟩, hK, hA, hD, hcs, rfl⟩ := C
  intro hM H locs ls hP hS hl
  have he := wsOf_at (sh := sh) (cI := cI) (cZ := cZ) (cB := cB) (ad := ad) (M := M) hk
  rw [hs] at he
  have hcode : Cond.code y bytes maxL ret' ∈ tbg := (hw.1 _ (by simp [wsV])).1
  have hG : GoodIn tbg (wsV own index y.cls y (.code y bytes maxL ret' :: tbg)) := by
    intro w hw'
    rcases List.mem_append.mp hw' with h | h
    · exact hw.1 w (List.mem_append_left _ h)
    · exact good_code hcode w h
  subst hst
  refine k_behind (sh := sh) (N := N) (nL := nL) (cI := cI) (cZ := cZ) (cB := cB) (mc := 0) (ms := 0) (va_runV (C := y.cls) (As := As.map (vv ad)) (rest := stk.map (vv ad)) ⟨hx, hb, hml, hown, hts⟩ (hc l D cI cZ cB ad H.size) (cwV n hts hG rfl hrm.1 hrm.2.1 ⟨rfl, hw.2⟩ hrm.2.2) ⟨fun a U g mk q => ?_, va_recv hK hP hci he, fun U hU hW => ⟨rfl, by rw [hU], hns.warm hW, hM, by rw [hU]; exact hP, va_K.moved hW.alike hK, ?_⟩⟩ rfl (by rw [List.length_map]; exact hn) hl.1 (by simp [vv]) (lv_room (by rw [vvs_cat]; exact h8)) hd hcs) hS hA hD hl kk
  · exact ⟨q.1, q.2.1, q.2.2.1.same rfl, wd_K (u := U) (U := U.calling g mk a) rfl (Vm.Alike.refl U.vm) q.2.2.2⟩
  · exact (hD M).weaken (fun _ _ _ _ => trivial)
theorem g_callS (C : CtxG sh N own cc nL ret R K) {y : MethodName} {bytes : ByteArray} {maxL index n : Nat} {ret' : Option FieldType} {rm : Room} {As : List V} {post' : Int → Mem → Prop}
    (hw : okS own index y bytes maxL ret' n) (hd : decode cc pc = .ok (.invokestatic index, 3)) (hc : Ct sh N y bytes maxL ret' rm As M post') (hst : stk0 = As.reverse ++ stk)
    (hrm : rm.cells = 0 ∧ rm.slots = 0 ∧ rm.frames + 1 ≤ R.frames ∧ 8 + (maxL + 11) + rm.locals ≤ R.locals) (hn : As.length = n) (h8 : stk.length ≤ 8)
    (kk : ∀ r M', inR r → post' r M' → K (pc + 3) lv (psh ret' r stk) M') : K pc lv stk0 M := by
  obtain ⟨p, l, e, s, m, args, below, meth, c, D, cI, cZ, cB, ad, A, ce, sn, Q, ⟨hx, hb, hml, hown, hts⟩, ⟨hr, hlk, hns⟩, hK, hA, hD, hcs, rfl⟩ := C
  intro hM H locs ls hP hS hl
  have hcode : Cond.code y bytes maxL ret' ∈ tbg := (hw.1 _ (by simp [va_wsS])).1
  have hG : GoodIn tbg (va_wsS own index y (.code y bytes maxL ret' :: tbg)) := by
    intro w hw'
    rcases List.mem_append.mp hw' with h | h
    · exact hw.1 w (List.mem_append_left _ h)
    · exact good_code hcode w h
  subst hst
  refine k_behind (sh := sh) (N := N) (nL := nL) (cI := cI) (cZ := cZ) (cB := cB) (mc := 0) (ms := 0) (va_runS (As := As.map (vv ad)) (rest := stk.map (vv ad)) ⟨hx, hb, hml, hown, hts⟩ (hc l D cI cZ cB ad H.size) (va_cwS n hts hG rfl hrm.1 hrm.2.1 hw.2 hrm.2.2) ⟨fun a U g mk q => ?_, fun U hU hW => ⟨rfl, by rw [hU], hns.warm hW, hM, by rw [hU]; exact hP, va_K.moved hW.alike hK, ?_⟩⟩ rfl (by rw [List.length_map]; exact hn) hl.1 (by simp) (lv_room (by rw [vvs_cat]; exact h8)) hd hcs) hS hA hD hl kk
  · exact ⟨q.1, q.2.1, q.2.2.1.same rfl, wd_K (u := U) (U := U.calling g mk a) rfl (Vm.Alike.refl U.vm) q.2.2.2⟩
  · exact (hD M).weaken (fun _ _ _ _ => trivial)
theorem g_callN (C : CtxG sh N own cc nL ret R K) {y : MethodName} {host : String} {bytes : ByteArray} {maxL index n : Nat} {ret' : Option FieldType} {rm : Room} {As : List V} {post' : Int → Mem → Prop}
    (hw : okN own index y host bytes maxL ret' n) (hd : decode cc pc = .ok (.invokestatic index, 3)) (hc : Ct sh N y bytes maxL ret' rm As M post') (hst : stk0 = As.reverse ++ stk)
    (hrm : rm.cells = 0 ∧ rm.slots = 0 ∧ rm.frames + 1 ≤ R.frames ∧ 8 + (maxL + 11) + rm.locals ≤ R.locals) (hn : As.length = n) (h8 : stk.length ≤ 8)
    (kk : ∀ r M', inR r → post' r M' → K (pc + 3) lv (psh ret' r stk) M') : K pc lv stk0 M := by
  obtain ⟨p, l, e, s, m, args, below, meth, c, D, cI, cZ, cB, ad, A, ce, sn, Q, ⟨hx, hb, hml, hown, hts⟩, ⟨hr, hlk, hns⟩, hK, hA, hD, hcs, rfl⟩ := C
  intro hM H locs ls hP hS hl
  have hcode : Cond.code y bytes maxL ret' ∈ tbg := (hw.1.1 _ (by simp)).1
  have h2 := hw.1.1 (.static y) (by simp)
  have h3 := hw.1.1 (.initialized y.cls) (by simp)
  subst hst
  refine k_behind (sh := sh) (N := N) (nL := nL) (cI := cI) (cZ := cZ) (cB := cB) (mc := 0) (ms := 0) (va_runSN (As := As.map (vv ad)) (rest := stk.map (vv ad)) ⟨hx, hb, hml, hown, hts⟩ (hc l D cI cZ cB ad H.size) ⟨va_cnB n hts (good_code hcode) rfl hrm.1 hrm.2.1 (hns _ hw.1.2) (hts _ h3.1) hw.2 hrm.2.2, hts _ h2.1, trivial⟩ ⟨fun a U g mk q => ?_, fun U hU hW => ⟨rfl, by rw [hU], hns.warm hW, hM, by rw [hU]; exact hP, va_K.moved hW.alike hK, ?_⟩⟩ rfl (by rw [List.length_map]; exact hn) hl.1 (by simp) (lv_room (by rw [vvs_cat]; exact h8)) hd hcs) hS hA hD hl kk
  · exact ⟨q.1, q.2.1, q.2.2.1.same rfl, wd_K (u := U) (U := U.calling g mk a) rfl (Vm.Alike.refl U.vm) q.2.2.2⟩
  · exact (hD M).weaken (fun _ _ _ _ => trivial)
theorem g_ldc (C : CtxG sh N own cc nL ret R K) {index : Nat} {v : Int} (hw : Cond.constant own index (Int32.ofInt v) ∈ tbg) (hd : decode cc pc = .ok (.ldc index, 2)) (kk : K (pc + 2) lv (.inl v :: stk) M) : K pc lv stk M := by
  obtain ⟨p, l, e, s, m, args, below, meth, c, D, cI, cZ, cB, ad, A, ce, sn, Q, ⟨hx, hb, hml, hown, hts⟩, ⟨hr, hlk, hns⟩, hK, hA, hD, hcs, rfl⟩ := C
  intro hM H locs ls hP hS hl
  exact lv_ldc hx hb hown (hts _ hw) hd (kk hM H locs ls hP hS hl)
end GROWS
