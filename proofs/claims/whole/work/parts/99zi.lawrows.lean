/-! THE LAW'S FRAMES: a world of two parts, and calls upon the first -/
def adr (ws : va_W) (q : Nat) : Prop := ∃ (k : Nat) (e : va_E), ws[k]? = some (q, e)
section TWO
variable {D : va_G} {a b a' : va_W} {H H1 : Heap} {A : Nat → Prop}
theorem ap_l {k : Nat} {q : Nat × va_E} (h : a[k]? = some q) : (a ++ b)[k]? = some q := by
  rw [List.getElem?_append_left (List.getElem?_eq_some_iff.mp h).1]; exact h
theorem ap_r {k : Nat} {q : Nat × va_E} (h : b[k]? = some q) : (a ++ b)[a.length + k]? = some q := by
  rw [List.getElem?_append_right (by omega), show a.length + k - a.length = k by omega]; exact h
theorem P_l (h : va_P D vwCl (a ++ b) H) : va_P D vwCl a H := fun k q hk => h k q (ap_l hk)
theorem P_r (h : va_P D vwCl (a ++ b) H) : va_P D vwCl b H := fun k q hk => h (a.length + k) q (ap_r hk)
theorem D_l (h : va_D A (a ++ b)) : va_D A a := ⟨fun i j x y hi hj e => h.1 i j x y (ap_l hi) (ap_l hj) e, fun k q hk => h.2 k q (ap_l hk)⟩
theorem D_r (h : va_D A (a ++ b)) : va_D A b := ⟨fun i j x y hi hj e => by have := h.1 (a.length + i) (a.length + j) x y (ap_r hi) (ap_r hj) e; omega, fun k q hk => h.2 (a.length + k) q (ap_r hk)⟩
theorem D_x (h : va_D A (a ++ b)) {q : Nat} (h1 : adr a q) (h2 : adr b q) : False := by
  obtain ⟨i, e1, g1⟩ := h1
  obtain ⟨j, e2, g2⟩ := h2
  have := h.1 i (a.length + j) _ _ (ap_l g1) (ap_r g2) rfl
  have := (List.getElem?_eq_some_iff.mp g1).1
  omega
theorem D_app (h1 : va_D A a) (h2 : va_D A b) (hx : ∀ q, adr a q → adr b q → False) : va_D A (a ++ b) := va_D.app h1 h2 (fun i j x y hi hj e => by
  obtain ⟨x1, x2⟩ := x
  obtain ⟨y1, y2⟩ := y
  have e : x1 = y1 := e
  subst e
  exact hx x1 ⟨i, x2, hi⟩ ⟨j, y2, hj⟩)
theorem P_sw (h : va_P D vwCl (a ++ b) H) : va_P D vwCl (b ++ a) H := va_P.app (P_r h) (P_l h)
theorem D_sw (h : va_D A (a ++ b)) : va_D A (b ++ a) := D_app (D_r h) (D_l h) (fun q h1 h2 => D_x h h2 h1)
theorem jnw (hP : va_P D vwCl (a ++ b) H) (hD : va_D A (a ++ b)) (hA : ∀ q, H.size ≤ q → A q) (hP1 : va_P D vwCl a' H1) (hD1 : va_D (va_A a H.size) a') (hk : ∀ q : Nat, q < H.size → ¬ va_A a H.size q → H1[q]? = H[q]?) : va_P D vwCl (a' ++ b) H1 ∧ va_D A (a' ++ b) := by
  have hb : ∀ q, adr b q → q < H.size ∧ ¬ va_A a H.size q := by
    intro q hq
    obtain ⟨k, e, h⟩ := hq
    have lt := (P_r hP k _ h).lt
    refine ⟨lt, fun z => ?_⟩
    rcases z with z | z
    · exact D_x hD z ⟨k, e, h⟩
    · exact absurd lt (Nat.not_lt.mpr z)
  have hF : ∀ q, va_A a H.size q → A q := fun q z => by
    rcases z with ⟨k, e, z⟩ | z
    · exact (D_l hD).2 k _ z
    · exact hA q z
  refine ⟨va_P.app hP1 ((P_r hP).kept (fun k q hq => ?_)), D_app (hD1.weaken (fun k q _ h => hF q.1 h)) (D_r hD) (fun q h1 h2 => ?_)⟩
  · have := hb q.1 ⟨k, q.2, hq⟩
    exact hk q.1 this.1 this.2
  · obtain ⟨k, e, h1⟩ := h1
    exact (hb q h2).2 (hD1.2 k _ h1)
end TWO
theorem K_l {D : va_G} {t1 t2 : List (ClassId × FieldType)} {U : State} (h : va_K D vwCl (t1 ++ t2) U) : va_K D vwCl t1 U := ⟨h.1, fun k q hk => h.2 k q (by rw [List.getElem?_append_left (List.getElem?_eq_some_iff.mp hk).1]; exact hk)⟩
def pshv (ret : Option FieldType) (r : Int) (rest : List Value) : List Value := match ret with
  | none => rest
  | some _ => .int (Int32.ofInt r) :: rest
/-- a frame of the law's -/
def FL (p : Program) (s : State) (m : MethodId) (args : Array Value) (c : Code) (D : va_G) (cI cZ cB : ClassId) (ty2 : List (ClassId × FieldType)) (A : Nat → Prop) (own : String) (cc : ByteArray) (nL : Nat) : Prop :=
  (p.tables.exec = Jvm.exec ∧ c.code = cc ∧ c.maxLocals = nL ∧ s.vm.findClass own = some m.cls ∧ (∀ w ∈ tbg, w.before args s = true)) ∧ NS s ∧ va_K D vwCl (tyl cI cZ cB ++ ty2) s ∧ (∀ q, s.heap.size ≤ q → A q)
section LR
variable {p : Program} {l : Launch} {e : Env} {s : State} {m : MethodId} {args : Array Value} {below : List Frame} {meth : Method} {c : Code} {D : va_G} {cI cZ cB : ClassId} {ty2 : List (ClassId × FieldType)} {A : Nat → Prop} {own : String} {cc : ByteArray} {nL : Nat} {R : Room} {Q : State → Prop}
variable {sh : Nat → Sh} {N : Nat} {ad : Nat → Nat} {M : Mem} {ws2 : va_W} {H : Heap} {locs : List Loc} {ce sn pc : Nat} {ls : Array Slot} {rest st0 : List Value}
theorem lw_call (F : FL p s m args c D cI cZ cB ty2 A own cc nL) {y : MethodName} {bytes : ByteArray} {maxL index n : Nat} {ret' : Option FieldType} {rm : Room} {ci nf : Nat} {fs : List (Option Nat)} {T : u_T} {As : List V} {post' : Int → Mem → Prop}
    (hw : okV own index y bytes maxL ret' n) (hd : decode cc pc = .ok (.invokevirtual index, 3)) (hc : Ct sh N y bytes maxL ret' rm (.inr 0 :: As) M post') (hs : sh 0 = .inr (ci, fs)) (hN : 0 < N) (hci : vwCl[ci]? = some (y.cls, T, nf))
    (hrm : rm.cells = 0 ∧ rm.slots = 0 ∧ rm.frames + 1 ≤ R.frames ∧ 8 + (maxL + 11) + rm.locals ≤ R.locals) (hcs : ce ≤ R.cells ∧ sn ≤ R.slots) (hn : As.length = n) (h8 : (rest.map fun v => v.category).sum ≤ 8) (hsz : ls.size = nL) (hst : st0 = (As.map (vv ad)).reverse ++ .ref (ad 0) :: rest)
    (hM : Rg M) (hP : va_P D vwCl (wsOf sh N cI cZ cB ad M ++ ws2) H) (hD : va_D A (wsOf sh N cI cZ cB ad M ++ ws2)) (hS : va_S A s.heap H locs)
    (kk : ∀ r M' H1 locs1, inR r → post' r M' → Rg M' → va_P D vwCl (wsOf sh N cI cZ cB ad M' ++ ws2) H1 → va_D A (wsOf sh N cI cZ cB ad M' ++ ws2) → va_S A s.heap H1 locs1 → W p l e R s m args below meth c H1 locs1 ce sn Q (F0 m (pc + 3) ls (pshv ret' r rest))) :
    W p l e R s m args below meth c H locs ce sn Q (F0 m pc ls st0) := by
  obtain ⟨⟨hx, hb, hml, hown, hts⟩, hns, hK, hA⟩ := F
  have hK3 := K_l hK
  have he := wsOf_at (sh := sh) (cI := cI) (cZ := cZ) (cB := cB) (ad := ad) (M := M) hN
  rw [hs] at he
  have hP1 := P_l hP
  have hD1 := D_l hD
  have hcode : Cond.code y bytes maxL ret' ∈ tbg := (hw.1 _ (by simp [wsV])).1
  have hG : GoodIn tbg (wsV own index y.cls y (.code y bytes maxL ret' :: tbg)) := by
    intro w hw'
    rcases List.mem_append.mp hw' with h | h
    · exact hw.1 w (List.mem_append_left _ h)
    · exact good_code hcode w h
  have hA2 : ∀ q, H.size ≤ q → A q := fun q h => hA q (Nat.le_trans hS.1 h)
  have hF : ∀ q, va_A (wsOf sh N cI cZ cB ad M) H.size q → A q := by
    intro q h
    rcases h with ⟨k, e, h⟩ | h
    · exact hD1.2 k _ h
    · exact hA2 q h
  subst hst
  have run := va_runV (C := y.cls) (As := As.map (vv ad)) (rest := rest) (g := F0 m pc ls ((As.map (vv ad)).reverse ++ .ref (ad 0) :: rest)) (e := e) (below := below) (meth := meth) (locs := locs) (cells := ce) (slots := sn) (mc := 0) (ms := 0) ⟨hx, hb, hml, hown, hts⟩ (hc l D cI cZ cB ad H.size) (cwV n hts hG rfl hrm.1 hrm.2.1 ⟨rfl, hw.2⟩ hrm.2.2) ⟨fun a U g mk q => ⟨q.1, q.2.1, q.2.2.1.same rfl, wd_K (u := U) (U := U.calling g mk a) rfl (Vm.Alike.refl U.vm) q.2.2.2⟩, va_recv hK3 hP1 hci he, fun U hU hW => ⟨rfl, by rw [hU], hns.warm hW, hM, by rw [hU]; exact hP1, va_K.moved hW.alike hK3, hD1.weaken (fun _ _ _ _ => trivial)⟩⟩ rfl (by rw [List.length_map]; exact hn) hsz rfl (lv_room h8) hd hcs
  cases ret' with
  | none =>
    refine va_callv (a := (Value.ref (ad 0) :: As.map (vv ad)).toArray) run hS (fun q _ h => hF q h) hF (fun u t H1 locs1 ht hvm hp hB hz1 hk1 hS1 => ?_)
    obtain ⟨j1, j2⟩ := jnw hP hD hA2 (by rw [← ht]; exact hB.2.1) hB.2.2.2 hk1
    exact kk 0 u H1 locs1 (by decide) hp hB.1 j1 j2 hS1
  | some ty =>
    refine va_calli (a := (Value.ref (ad 0) :: As.map (vv ad)).toArray) run hS (fun q _ h => hF q h) hF (fun r u t H1 locs1 ht hvm hp hB hz1 hk1 hS1 => ?_)
    obtain ⟨z, rfl, hz, hp⟩ := hp
    obtain ⟨j1, j2⟩ := jnw hP hD hA2 (by rw [← ht]; exact hB.2.1) hB.2.2.2 hk1
    exact kk z u H1 locs1 hz hp hB.1 j1 j2 hS1
/-- a call that throws, and what it throws is caught here -/
theorem lw_callT (F : FL p s m args c D cI cZ cB ty2 A own cc nL) (hl0 : l.stackTraces = false) (hT : ThW s) (hst1 : ∀ (q : Addr) (cell : Cell), s.heap[q]? = some cell → cell.vm.isStatics = true → ¬ A q)
    {X : String} {d index maxL n hp : Nat} {y : MethodName} {bytes : ByteArray} {ret' : Option FieldType} {As : List V} (hw : okV own index y bytes maxL ret' n) (hyc : y.cls = RX10) (hd : decode cc pc = .ok (.invokevirtual index, 3)) (hc : CtT d y bytes maxL ret' (.inr 0 :: As) M X)
    (hR : d + 1 ≤ R.frames ∧ 8 + (maxL + 11) + 64 * d ≤ R.locals) (hcs : ce + 1 ≤ R.cells ∧ sn + 6 ≤ R.slots) (hn : As.length = n) (h8 : (rest.map fun v => v.category).sum ≤ 8) (hsz : ls.size = nL) (hst : st0 = (As.map (vv ad)).reverse ++ .ref (ad 0) :: rest)
    (hM : Rg M) (hP : va_P D vwCl (wsOf shC nC cI cZ cB ad M ++ ws2) H) (hD : va_D A (wsOf shC nC cI cZ cB ad M ++ ws2)) (hS : va_S A s.heap H locs)
    (hcat : ∀ (T' : State) (locs' : List Loc) (ce' sn' : Nat) (x : Addr) (cell : Cell), Stand p l e R s m args below meth c T' locs' ce' sn' → T'.heap[x]? = some cell → cell.vm = .none → s.vm.findClass X = some cell.cls → ∃ vm', Stand p l e R s m args below meth c (T'.setVm vm') locs' ce' sn' ∧ ∀ target, Steps p.tables e below ((T'.setVm vm').setTop { F0 m pc ls rest with pc := hp, stack := [.ref x] }) target → Steps p.tables e below ((T'.setTop (F0 m pc ls rest)).pushFrame (.throwing x)) target)
    (kk : ∀ x H1 locs1, va_P D vwCl (wsOf shC nC cI cZ cB ad M ++ ws2) H1 → va_S A s.heap H1 locs1 → W p l e R s m args below meth c H1 locs1 (ce + 1) (sn + 6) Q (F0 m hp ls [.ref x])) :
    W p l e R s m args below meth c H locs ce sn Q (F0 m pc ls st0) := by
  obtain ⟨⟨hx, hb, hml, hown, hts⟩, hns, hK, hA⟩ := F
  have hK3 := K_l hK
  intro T hTH X1
  have he := wsOf_at (sh := shC) (N := nC) (cI := cI) (cZ := cZ) (cB := cB) (ad := ad) (M := M) (k := 0) (by decide)
  have hP1 := P_l hP
  have hD1 := D_l hD
  have hcode : Cond.code y bytes maxL ret' ∈ tbg := (hw.1 _ (by simp [wsV])).1
  have hG : GoodIn tbg (wsV own index y.cls y (.code y bytes maxL ret' :: tbg)) := by
    intro w hw'
    rcases List.mem_append.mp hw' with h | h
    · exact hw.1 w (List.mem_append_left _ h)
    · exact good_code hcode w h
  have hA2 : ∀ q, H.size ≤ q → A q := fun q h => hA q (Nat.le_trans hS.1 h)
  have hF : ∀ q, va_A (wsOf shC nC cI cZ cB ad M) H.size q → A q := by
    intro q h
    rcases h with ⟨k, e, h⟩ | h
    · exact hD1.2 k _ h
    · exact hA2 q h
  have kept : ∀ (q : Addr) (cell : Cell), s.heap[q]? = some cell → cell.vm.isStatics = true → H[q]? = some cell := fun q cell h1 h2 => by
    rw [hS.2.1 q (Array.getElem?_eq_some_iff.mp h1).1 (hst1 q cell h1 h2)]; exact h1
  subst hst
  obtain ⟨x, st₀, t, T', L, h0, hW0, X', hL, e1, e2, ⟨x', ex, cex, L2, t1, t2, t3, t4, t5, t6, t7, t8, t9⟩, st⟩ := va_runVT (T := T) (H := H) (C := y.cls) (As := As.map (vv ad)) (rest := rest) (g := F0 m pc ls ((As.map (vv ad)).reverse ++ .ref (ad 0) :: rest)) (e := e) (below := below) (meth := meth) (locs := locs) (cells := ce) (slots := sn) (mc := 1) (ms := 6) (free := va_A (wsOf shC nC cI cZ cB ad M) H.size) ⟨hx, hb, hml, hown, hts⟩ (hc l hl0 D cI cZ cB ad H.size) (cwV n hts hG rfl rfl rfl ⟨rfl, hw.2⟩ hR) ⟨fun a U g mk q => ⟨q.1, q.2.1, q.2.2.1.same rfl, q.2.2.2.1.same rfl rfl, wd_K (u := U) (U := U.calling g mk a) rfl (Vm.Alike.refl U.vm) q.2.2.2.2⟩, (by rw [hyc]; exact va_recv hK3 hP1 okC10.1 he), fun U hU hW => ⟨rfl, by rw [hU], hns.warm hW, hT.keep hW (fun q cell h1 h2 => by rw [hU]; exact kept q cell h1 h2), hM, by rw [hU]; exact hP1, va_K.moved hW.alike hK3, hD1.weaken (fun _ _ _ _ => trivial)⟩⟩ rfl (by rw [List.length_map]; exact hn) hsz rfl (lv_room h8) hd hcs
    (fun st o t ⟨x, ex, ce, L, h1, h2, h3, _⟩ => ⟨x, L, ex, h1, h2, h3⟩) hTH X1
  cases ex
  obtain ⟨vm', X2, st2⟩ := hcat T' _ _ _ x cex X' (by rw [e1]; exact t4) t5 (by rw [← hW0.alike.findClass]; exact t6)
  have hz : H.size ≤ t.heap.size := by rw [← h0]; exact t9.1
  have hk : ∀ q : Nat, q < H.size → ¬ va_A (wsOf shC nC cI cZ cB ad M) H.size q → t.heap[q]? = H[q]? := fun q h1 h2 => by
    rw [← h0]; exact t9.2 q (by rw [h0]; exact h1) h2
  obtain ⟨j1, j2⟩ := jnw hP hD hA2 t8.2.1 t8.2.2.2 hk
  obtain ⟨t', a1, b1⟩ := kk x T'.heap (locs ++ L) (by rw [e1]; exact j1) ⟨Nat.le_trans hS.1 (by rw [e1]; exact hz), fun q h1 h2 => by rw [e1, hk q (Nat.lt_of_lt_of_le h1 hS.1) (fun z => h2 (hF q z))]; exact hS.2.1 q h1 h2, fun q hq => by
    rcases List.mem_append.mp hq with h | h
    · exact hS.2.2 q h
    · exact hF _ (hL q h)⟩ (T'.setVm vm') rfl X2
  exact ⟨t', st _ (st2 _ a1), b1⟩
end LR
/-! a method with clauses that catch -/
theorem met_with {l : Launch} {y : MethodName} {rm : Room} {Pc : Array Value → State → Prop} {Qc : Array Value → State → Outcome → State → Prop} {mc ms : Nat} {free : Addr → Prop} {cc : ByteArray} {maxL : Nat} {ret : Option FieldType} {hs : List (Nat × Nat × Nat × Nat)} {ws' : List Cond}
    (hy : plainName y.cls = true)
    (body : ∀ p e s m args below meth c s₁, BodyLoose p l y (headSpec (Cond.codeWith y cc maxL ret hs :: ws') rm) cc maxL ret e s m args below meth c s₁ → c.maxLocals = maxL → c.exceptionTable.toList.map (fun h => (h.startPc, h.endPc, h.handlerPc, h.catchType)) = hs → Pc args s →
      W p l e rm s m args below meth c s.heap [] 0 0 (MQ below Qc args s mc ms free) (entryFrame m args maxL)) : Met l y (Cond.codeWith y cc maxL ret hs :: ws') rm Pc Qc mc ms free := by
  refine MetFree.of_bodyS (code := cc) (maxLocals := maxL) (ret := ret) hy ?_ ?_
  · intro args s m h hn
    obtain ⟨m', meth, c, h0, h1, h2, h3, h4, -, h5, h6, -⟩ := Cond.codeWith_spec (atoms_spec (ws := Cond.codeWith y cc maxL ret hs :: ws') h _ List.mem_cons_self)
    cases Option.some.inj (hn.symm.trans h0)
    exact ⟨meth, c, h1, h2, h3, h4, h5, h6⟩
  · intro p e s m args below meth c s₁ B hml hP _
    have hh0 : s₁.heap = s.heap := by rw [B.state]; rfl
    obtain ⟨m', meth', c', h0, h1, h2, -, -, hx, -, -, -⟩ := Cond.codeWith_spec (atoms_spec (ws := Cond.codeWith y cc maxL ret hs :: ws') B.pre _ List.mem_cons_self)
    cases Option.some.inj (B.named.symm.trans h0)
    cases Option.some.inj (B.method.symm.trans h1)
    cases Option.some.inj ((Stand.of_body B).code.symm.trans h2)
    obtain ⟨t, a1, o, b1, b2, b3⟩ := body p e s m args below meth c s₁ B hml hx hP s₁ hh0 (Stand.of_body B)
    exact ⟨t, o, a1, b1, b2, ⟨b3.1, b3.2⟩⟩
