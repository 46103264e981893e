/-! contracts and calls -/
theorem tbl_good : tbg.all goodWord = true := List.all_eq_true.mpr fun w hw => (List.mem_filter.mp hw).2
theorem tbl_in : GoodIn tbg tbg := fun w hw => ⟨hw, good_of_word (List.all_eq_true.mp tbl_good w hw)⟩
def ae : Nat → List V → Lv
  | _, [] => []
  | i, v :: t => (i, v) :: ae (i + 1) t
theorem ae_args (ad : Nat → Nat) : ∀ (vs : List V) (i : Nat), lv_args i (vs.map (vv ad)) = lm ad (ae i vs)
  | [], i => rfl
  | v :: t, i => by
    have h : (vv ad v).category ≠ 2 := by rw [vv_cat]; decide
    simp only [List.map_cons, lv_args, ae, lm, if_neg h]
    rw [ae_args ad t (i + 1)]
    rfl
theorem ae_len (ad : Nat → Nat) : ∀ (vs : List V), (lg_sl (vs.map (vv ad))).length = vs.length
  | [] => rfl
  | v :: t => by
    have h := ae_len ad t
    have e : lg_sl (vv ad v :: t.map (vv ad)) = [Slot.val (vv ad v)] ++ lg_sl (t.map (vv ad)) := by simp [lg_sl, vv_cat]
    rw [List.map_cons, e, List.length_append, h, List.length_cons]
    simp; omega
def Ct (sh : Nat → Sh) (N : Nat) (y : MethodName) (cc : ByteArray) (nL : Nat) (ret : Option FieldType) (rm : Room) (args : List V) (M : Mem) (post : Int → Mem → Prop) : Prop :=
  ∀ (l : Launch) (D : va_G) (cI cZ cB : ClassId) (ad : Nat → Nat) (sz : Nat), Met l y (.code y cc nL ret :: tbg) rm (va_Pc (args.map (vv ad)) (fun U => U.heap.size = sz ∧ NS U ∧ wd sh N D cI cZ cB ad (fun _ => True) M U)) (qq ret post (wd sh N D cI cZ cB ad (va_A (wsOf sh N cI cZ cB ad M) sz)) (va_A (wsOf sh N cI cZ cB ad M) sz)) 0 0 (va_A (wsOf sh N cI cZ cB ad M) sz)
theorem wsOf_D {sh : Nat → Sh} {N : Nat} {cI cZ cB : ClassId} {ad : Nat → Nat} {M : Mem} {A : Nat → Prop} (h : va_D A (wsOf sh N cI cZ cB ad M)) (M' : Mem) : va_D A (wsOf sh N cI cZ cB ad M') := by
  have key : ∀ (k : Nat) (q : Nat × va_E), (wsOf sh N cI cZ cB ad M')[k]? = some q → k < N ∧ q.1 = ad k := by
    intro k q hq
    have hk : k < N := by
      have := (List.getElem?_eq_some_iff.mp hq).1
      rw [wsOf_len] at this
      exact this
    rw [wsOf_at hk] at hq
    cases hq
    exact ⟨hk, rfl⟩
  refine ⟨fun i j x y hi hj hxy => ?_, fun k q hq => ?_⟩
  · obtain ⟨hi1, hi2⟩ := key i x hi
    obtain ⟨hj1, hj2⟩ := key j y hj
    exact h.1 i j _ _ (wsOf_at hi1) (wsOf_at hj1) (by rw [← hi2, ← hj2]; exact hxy)
  · obtain ⟨h1, h2⟩ := key k q hq
    rw [h2]
    exact h.2 k _ (wsOf_at h1)
theorem wsOf_A {sh : Nat → Sh} {N : Nat} {cI cZ cB : ClassId} {ad : Nat → Nat} {M M' : Mem} {sz q : Nat} (h : va_A (wsOf sh N cI cZ cB ad M) sz q) : va_A (wsOf sh N cI cZ cB ad M') sz q := by
  rcases h with ⟨k, e, h⟩ | h
  · have hk : k < N := by
      have := (List.getElem?_eq_some_iff.mp h).1
      rw [wsOf_len] at this
      exact this
    rw [wsOf_at hk] at h
    cases h
    exact Or.inl ⟨k, _, wsOf_at hk⟩
  · exact Or.inr h
theorem Ct_of {sh : Nat → Sh} {N : Nat} {y : MethodName} {cc : ByteArray} {nL : Nat} {ret : Option FieldType} {rm : Room} {args : List V} {M : Mem} {post : Int → Mem → Prop} (hy : plainName y.cls = true) (hn : args.length ≤ nL)
    (h : ∀ K : Kt, Ctx sh N y.cls cc nL ret rm post K → K 0 (ae 0 args) [] M) : Ct sh N y cc nL ret rm args M post := by
  intro l D cI cZ cB ad sz
  refine Met.ofW (cc := cc) (maxL := nL) (ret := ret) hy rfl ?_
  intro p e s m vs below meth c s₁ B hml hv
  obtain ⟨rfl, hsz, hns, hM, hP, hK, hD0⟩ := hv
  have hts := atoms_spec (ws := .code y cc nL ret :: tbg) B.pre
  have hown : s.vm.findClass y.cls = some m.cls := findClass_of_methodNamed B.named
  subst hsz
  have hA : ∀ q : Nat, s.heap.size ≤ q → va_A (wsOf sh N cI cZ cB ad M) s.heap.size q := fun q h => Or.inr h
  have hl := lv_entry (args.map (vv ad)) (n := nL) (by rw [ae_len]; exact hn)
  rw [ae_args] at hl
  rw [lg_entry_eq]
  exact h _ ⟨p, l, e, s, m, _, below, meth, c, D, cI, cZ, cB, ad, va_A (wsOf sh N cI cZ cB ad M) s.heap.size, ⟨B.exec, B.bytes, hml, hown, fun w hw => hts w (List.mem_cons_of_mem _ hw)⟩, ⟨B.returns, B.notSynchronized, hns⟩, hK, hA, fun M' => wsOf_D hD0.self M', rfl⟩ hM s.heap [] _ hP va_S.rf hl
/-- a contract's words at a call -/
def okV (own : String) (index : Nat) (y : MethodName) (bytes : ByteArray) (maxL : Nat) (ret : Option FieldType) (n : Nat) : Prop :=
  GoodIn tbg (wsV own index y.cls y [.code y bytes maxL ret]) ∧ y.cls ≠ "java/lang/invoke/MethodHandle" ∧ y.cls ≠ "java/lang/invoke/VarHandle" ∧ (parseMethodDescriptor y.desc).map (fun d => d.parameters.length) = some n
def okS (own : String) (index : Nat) (y : MethodName) (bytes : ByteArray) (maxL : Nat) (ret : Option FieldType) (n : Nat) : Prop :=
  GoodIn tbg (va_wsS own index y [.code y bytes maxL ret]) ∧ y.cls ≠ "java/lang/invoke/MethodHandle" ∧ y.cls ≠ "java/lang/invoke/VarHandle" ∧ (parseMethodDescriptor y.desc).map (fun d => d.parameters.length) = some n
def okN (own : String) (index : Nat) (y : MethodName) (host : String) (bytes : ByteArray) (maxL : Nat) (ret : Option FieldType) (n : Nat) : Prop :=
  (GoodIn tbg [.static y, .initialized y.cls, .code y bytes maxL ret] ∧ (own, index, y, host) ∈ nst) ∧ y.cls ≠ "java/lang/invoke/MethodHandle" ∧ y.cls ≠ "java/lang/invoke/VarHandle" ∧ (parseMethodDescriptor y.desc).map (fun d => d.parameters.length) = some n
theorem good_code {y : MethodName} {bytes : ByteArray} {maxL : Nat} {ret : Option FieldType} (h : Cond.code y bytes maxL ret ∈ tbg) : GoodIn tbg (.code y bytes maxL ret :: tbg) := by
  intro w hw
  rcases List.mem_cons.mp hw with rfl | hw
  · exact tbl_in _ h
  · exact tbl_in w hw
def psh (ret : Option FieldType) (r : Int) (stk : List V) : List V := match ret with
  | none => stk
  | some _ => .inl r :: stk
theorem wd_K {sh : Nat → Sh} {N : Nat} {D : va_G} {cI cZ cB : ClassId} {ad : Nat → Nat} {A : Nat → Prop} {M : Mem} {u U : State} (hh : U.heap = u.heap) (hv : u.vm.Alike U.vm) (h : wd sh N D cI cZ cB ad A M u) : wd sh N D cI cZ cB ad A M U := ⟨h.1, by rw [hh]; exact h.2.1, va_K.moved hv h.2.2.1, h.2.2.2⟩
theorem vvs_cat (ad : Nat → Nat) : ∀ stk : List V, ((stk.map (vv ad)).map fun v => v.category).sum = stk.length
  | [] => rfl
  | v :: t => by
    have h := vvs_cat ad t
    simp only [List.map_cons, List.sum_cons, vv_cat, List.length_cons]
    rw [h]; omega
section CALLS
variable {sh : Nat → Sh} {N : Nat} {own : String} {cc : ByteArray} {nL : Nat} {ret : Option FieldType} {R : Room} {post : Int → Mem → Prop} {K : Kt}
variable {pc : Nat} {lv : Lv} {stk stk0 : List V} {M : Mem}
/-- what is the same behind every call -/
theorem k_behind {p : Program} {l : Launch} {e : Env} {s : State} {m : MethodId} {args : Array Value} {below : List Frame} {meth : Method} {c : Code} {D : va_G} {cI cZ cB : ClassId} {ad : Nat → Nat} {A : Nat → Prop} {ret' : Option FieldType} {post' : Int → Mem → Prop} {H : Heap} {locs : List Loc} {ls : Array Slot} {st0 : List Value} {a : Array Value} {Q : State → Prop} {ce sn mc ms : Nat}
    (hr : va_Run p l e R s m args below meth c H locs ce sn mc ms (F0 m pc ls st0) (stk.map (vv ad)) (qq ret' post' (wd sh N D cI cZ cB ad (va_A (wsOf sh N cI cZ cB ad M) H.size)) (va_A (wsOf sh N cI cZ cB ad M) H.size) a) (va_A (wsOf sh N cI cZ cB ad M) H.size))
    (hS : va_S A s.heap H locs) (hA : ∀ q, s.heap.size ≤ q → A q) (hD : ∀ M, va_D A (wsOf sh N cI cZ cB ad M)) (hl : lv_has ls nL (lm ad lv))
    (kk : ∀ r M', inR r → post' r M' → KK sh N nL R p l e s m args below meth c D cI cZ cB ad A (ce + mc) (sn + ms) Q (pc + 3) lv (psh ret' r stk) M') : W p l e R s m args below meth c H locs ce sn Q (F0 m pc ls st0) := by
  have hF : ∀ q, va_A (wsOf sh N cI cZ cB ad M) H.size q → A q := by
    intro q h
    rcases h with ⟨k, e, h⟩ | h
    · exact (hD M).2 k _ h
    · exact hA q (Nat.le_trans hS.1 h)
  cases ret' with
  | none =>
    refine va_callv (a := a) hr hS (fun q _ h => hF q h) hF (fun u t H1 locs1 ht hvm hp hB hz1 hk1 hS1 => ?_)
    exact kk 0 u (by decide) hp hB.1 H1 locs1 ls (by rw [← ht]; exact hB.2.1) hS1 hl
  | some ty =>
    refine va_calli (a := a) hr hS (fun q _ h => hF q h) hF (fun r u t H1 locs1 ht hvm hp hB hz1 hk1 hS1 => ?_)
    obtain ⟨z, rfl, hz, hp⟩ := hp
    exact kk z u hz hp hB.1 H1 locs1 ls (by rw [← ht]; exact hB.2.1) hS1 hl
theorem k_callV (C : Ctx sh N own cc nL ret R post K) {y : MethodName} {bytes : ByteArray} {maxL index n : Nat} {ret' : Option FieldType} {rm : Room} {k ci nf : Nat} {fs : List (Option Nat)} {T : u_T} {As : List V} {post' : Int → Mem → Prop}
    (hw : okV own index y bytes maxL ret' n) (hd : decode cc pc = .ok (.invokevirtual index, 3)) (hc : Ct sh N y bytes maxL ret' rm (.inr k :: As) M post') (hst : stk0 = As.reverse ++ .inr k :: stk) (hs : sh k = .inr (ci, fs)) (hk : k < N) (hci : vwCl[ci]? = some (y.cls, T, nf))
    (hrm : rm.cells = 0 ∧ rm.slots = 0 ∧ rm.frames + 1 ≤ R.frames ∧ 8 + (maxL + 11) + rm.locals ≤ R.locals) (hn : As.length = n) (h8 : stk.length ≤ 8)
    (kk : ∀ r M', inR r → post' r M' → K (pc + 3) lv (psh ret' r stk) M') : K pc lv stk0 M := by
  obtain ⟨p, l, e, s, m, args, below, meth, c, D, cI, cZ, cB, ad, A, ⟨hx, hb, hml, hown, hts⟩, ⟨hr, hlk, hns⟩, hK, hA, hD, rfl⟩ := C
  intro hM H locs ls hP hS hl
  have he := wsOf_at (sh := sh) (cI := cI) (cZ := cZ) (cB := cB) (ad := ad) (M := M) hk
  rw [hs] at he
  have hcode : Cond.code y bytes maxL ret' ∈ tbg := (hw.1 _ (by simp [wsV])).1
  have hG : GoodIn tbg (wsV own index y.cls y (.code y bytes maxL ret' :: tbg)) := by
    intro w hw'
    rcases List.mem_append.mp hw' with h | h
    · exact hw.1 w (List.mem_append_left _ h)
    · exact good_code hcode w h
  subst hst
  refine k_behind (sh := sh) (N := N) (nL := nL) (cI := cI) (cZ := cZ) (cB := cB) (mc := 0) (ms := 0) (va_runV (C := y.cls) (As := As.map (vv ad)) (rest := stk.map (vv ad)) ⟨hx, hb, hml, hown, hts⟩ (hc l D cI cZ cB ad H.size) (cwV n hts hG rfl hrm.1 hrm.2.1 ⟨rfl, hw.2⟩ hrm.2.2) ⟨fun a U g mk q => ?_, va_recv hK hP hci he, fun U hU hW => ⟨rfl, by rw [hU], hns.warm hW, hM, by rw [hU]; exact hP, va_K.moved hW.alike hK, ?_⟩⟩ rfl (by rw [List.length_map]; exact hn) hl.1 (by simp [vv]) (lv_room (by rw [vvs_cat]; exact h8)) hd ⟨Nat.zero_le _, Nat.zero_le _⟩) hS hA hD hl kk
  · exact ⟨q.1, q.2.1, q.2.2.1.same rfl, wd_K (u := U) (U := U.calling g mk a) rfl (Vm.Alike.refl U.vm) q.2.2.2⟩
  · exact (hD M).weaken (fun _ _ _ _ => trivial)
theorem k_callS (C : Ctx sh N own cc nL ret R post K) {y : MethodName} {bytes : ByteArray} {maxL index n : Nat} {ret' : Option FieldType} {rm : Room} {As : List V} {post' : Int → Mem → Prop}
    (hw : okS own index y bytes maxL ret' n) (hd : decode cc pc = .ok (.invokestatic index, 3)) (hc : Ct sh N y bytes maxL ret' rm As M post') (hst : stk0 = As.reverse ++ stk)
    (hrm : rm.cells = 0 ∧ rm.slots = 0 ∧ rm.frames + 1 ≤ R.frames ∧ 8 + (maxL + 11) + rm.locals ≤ R.locals) (hn : As.length = n) (h8 : stk.length ≤ 8)
    (kk : ∀ r M', inR r → post' r M' → K (pc + 3) lv (psh ret' r stk) M') : K pc lv stk0 M := by
  obtain ⟨p, l, e, s, m, args, below, meth, c, D, cI, cZ, cB, ad, A, ⟨hx, hb, hml, hown, hts⟩, ⟨hr, hlk, hns⟩, hK, hA, hD, rfl⟩ := C
  intro hM H locs ls hP hS hl
  have hcode : Cond.code y bytes maxL ret' ∈ tbg := (hw.1 _ (by simp [va_wsS])).1
  have hG : GoodIn tbg (va_wsS own index y (.code y bytes maxL ret' :: tbg)) := by
    intro w hw'
    rcases List.mem_append.mp hw' with h | h
    · exact hw.1 w (List.mem_append_left _ h)
    · exact good_code hcode w h
  subst hst
  refine k_behind (sh := sh) (N := N) (nL := nL) (cI := cI) (cZ := cZ) (cB := cB) (mc := 0) (ms := 0) (va_runS (As := As.map (vv ad)) (rest := stk.map (vv ad)) ⟨hx, hb, hml, hown, hts⟩ (hc l D cI cZ cB ad H.size) (va_cwS n hts hG rfl hrm.1 hrm.2.1 hw.2 hrm.2.2) ⟨fun a U g mk q => ?_, fun U hU hW => ⟨rfl, by rw [hU], hns.warm hW, hM, by rw [hU]; exact hP, va_K.moved hW.alike hK, ?_⟩⟩ rfl (by rw [List.length_map]; exact hn) hl.1 (by simp) (lv_room (by rw [vvs_cat]; exact h8)) hd ⟨Nat.zero_le _, Nat.zero_le _⟩) hS hA hD hl kk
  · exact ⟨q.1, q.2.1, q.2.2.1.same rfl, wd_K (u := U) (U := U.calling g mk a) rfl (Vm.Alike.refl U.vm) q.2.2.2⟩
  · exact (hD M).weaken (fun _ _ _ _ => trivial)
theorem k_callN (C : Ctx sh N own cc nL ret R post K) {y : MethodName} {host : String} {bytes : ByteArray} {maxL index n : Nat} {ret' : Option FieldType} {rm : Room} {As : List V} {post' : Int → Mem → Prop}
    (hw : okN own index y host bytes maxL ret' n) (hd : decode cc pc = .ok (.invokestatic index, 3)) (hc : Ct sh N y bytes maxL ret' rm As M post') (hst : stk0 = As.reverse ++ stk)
    (hrm : rm.cells = 0 ∧ rm.slots = 0 ∧ rm.frames + 1 ≤ R.frames ∧ 8 + (maxL + 11) + rm.locals ≤ R.locals) (hn : As.length = n) (h8 : stk.length ≤ 8)
    (kk : ∀ r M', inR r → post' r M' → K (pc + 3) lv (psh ret' r stk) M') : K pc lv stk0 M := by
  obtain ⟨p, l, e, s, m, args, below, meth, c, D, cI, cZ, cB, ad, A, ⟨hx, hb, hml, hown, hts⟩, ⟨hr, hlk, hns⟩, hK, hA, hD, rfl⟩ := C
  intro hM H locs ls hP hS hl
  have hcode : Cond.code y bytes maxL ret' ∈ tbg := (hw.1.1 _ (by simp)).1
  have h2 := hw.1.1 (.static y) (by simp)
  have h3 := hw.1.1 (.initialized y.cls) (by simp)
  subst hst
  refine k_behind (sh := sh) (N := N) (nL := nL) (cI := cI) (cZ := cZ) (cB := cB) (mc := 0) (ms := 0) (va_runSN (As := As.map (vv ad)) (rest := stk.map (vv ad)) ⟨hx, hb, hml, hown, hts⟩ (hc l D cI cZ cB ad H.size) ⟨va_cnB n hts (good_code hcode) rfl hrm.1 hrm.2.1 (hns _ hw.1.2) (hts _ h3.1) hw.2 hrm.2.2, hts _ h2.1, trivial⟩ ⟨fun a U g mk q => ?_, fun U hU hW => ⟨rfl, by rw [hU], hns.warm hW, hM, by rw [hU]; exact hP, va_K.moved hW.alike hK, ?_⟩⟩ rfl (by rw [List.length_map]; exact hn) hl.1 (by simp) (lv_room (by rw [vvs_cat]; exact h8)) hd ⟨Nat.zero_le _, Nat.zero_le _⟩) hS hA hD hl kk
  · exact ⟨q.1, q.2.1, q.2.2.1.same rfl, wd_K (u := U) (U := U.calling g mk a) rfl (Vm.Alike.refl U.vm) q.2.2.2⟩
  · exact (hD M).weaken (fun _ _ _ _ => trivial)
end CALLS
