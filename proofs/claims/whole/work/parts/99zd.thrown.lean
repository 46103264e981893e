/-! CONTRACTS OF METHODS THAT THROW; calls that come back by a throw -/
def rmT (d : Nat) : Room := { frames := d, cells := 1, slots := 6, locals := 64 * d }
def CtT (d : Nat) (y : MethodName) (cc : ByteArray) (nL : Nat) (ret : Option FieldType) (args : List V) (M : Mem) (X : String) : Prop :=
  ∀ (l : Launch), l.stackTraces = false → ∀ (D : va_G) (cI cZ cB : ClassId) (ad : Nat → Nat) (sz : Nat),
    MetFree l y (headSpec (.code y cc nL ret :: tbg) (rmT d)) (va_Pc (args.map (vv ad)) (fun U => U.heap.size = sz ∧ NS U ∧ ThW U ∧ wd shC nC D cI cZ cB ad (fun _ => True) M U)) (fun _ _ _ _ _ => True)
      (fun _ st o t => ∃ x, o = .threw x ∧ thQ shC nC D cI cZ cB ad (va_A (wsOf shC nC cI cZ cB ad M) sz) X M st t x 1 6)
theorem CtT_of {d : Nat} {y : MethodName} {cc : ByteArray} {nL : Nat} {ret : Option FieldType} {args : List V} {M : Mem} {X : String} (hy : plainName y.cls = true) (hc : y.cls = RX10) (hn : args.length ≤ nL)
    (h : ∀ (p : Program) (l : Launch) (e : Env) (s : State) (m : MethodId) (below : List Frame) (meth : Method) (c : Code) (D : va_G) (cI cZ cB : ClassId) (ad : Nat → Nat) (A : Nat → Prop), l.stackTraces = false → FX p s m (args.map (vv ad)).toArray meth c D cI cZ cB A RX10 cc nL ret → (∀ M, va_D A (wsOf shC nC cI cZ cB ad M)) → c.exceptionTable.isEmpty = true → e.platform.stackTraces = false → ThW s → (∀ (q : Addr) (cell : Cell), s.heap[q]? = some cell → cell.vm.isStatics = true → ¬ A q) →
      KK shC nC nL (rmT d) p l e s m (args.map (vv ad)).toArray below meth c D cI cZ cB ad A 0 0 (thE shC nC D cI cZ cB ad A X M s below 1 6) 0 (ae 0 args) [] M) : CtT d y cc nL ret args M X := by
  intro l hl D cI cZ cB ad sz
  refine MetFree.of_bodyS (code := cc) (maxLocals := nL) (ret := ret) hy ?_ ?_
  · intro args s m h hn
    obtain ⟨meth, c, h1, h2, h3, h4, h5, h6, -, -⟩ := Cond.code_spec hn (atoms_spec (ws := .code y cc nL ret :: tbg) h _ List.mem_cons_self)
    exact ⟨meth, c, h1, h2, h3, h4, h5, h6⟩
  · intro p e s m vs below meth c s₁ B hml hv _
    obtain ⟨rfl, hsz, hns, htw, hM, hP, hK, hD0⟩ := hv
    have hh0 : s₁.heap = s.heap := by rw [B.state]; rfl
    have hts := atoms_spec (ws := .code y cc nL ret :: tbg) B.pre
    have hown : s.vm.findClass RX10 = some m.cls := by rw [← hc]; exact findClass_of_methodNamed B.named
    have noh := B.noHandlers (hts _ List.mem_cons_self)
    have X₀ := Stand.of_body B
    have htr : e.platform.stackTraces = false := by
      have := X₀.admits.platform
      rw [this]; exact hl
    subst hsz
    have hA : ∀ q : Nat, s.heap.size ≤ q → va_A (wsOf shC nC cI cZ cB ad M) s.heap.size q := fun q h => Or.inr h
    have hl2 := lv_entry (args.map (vv ad)) (n := nL) (by rw [ae_len]; exact hn)
    rw [ae_args] at hl2
    rw [lg_entry_eq]
    obtain ⟨t, a1, x, r1, r2, r3⟩ := h p l e s m below meth c D cI cZ cB ad (va_A (wsOf shC nC cI cZ cB ad M) s.heap.size) hl ⟨⟨B.exec, B.bytes, hml, hown, fun w hw => hts w (List.mem_cons_of_mem _ hw)⟩, ⟨B.returns, B.notSynchronized, hns⟩, hK, hA⟩ (fun M' => wsOf_D hD0.self M') noh htr htw (fun q cell h1 h2 => st_apart hP h1 h2) hM s.heap [] _ hP va_S.rf hl2 s₁ hh0 X₀
    exact ⟨t, .threw x, a1, r1, r2, x, rfl, r3⟩
section CT
variable {p : Program} {l : Launch} {e : Env} {R : Room} {s : State} {m : MethodId} {args : Array Value} {below : List Frame} {meth : Method} {c : Code} {T : State} {H : Heap} {locs : List Loc} {cells slots : Nat}
variable {y : MethodName} {bytes cc : ByteArray} {maxL nL mc ms n index : Nat} {ret : Option FieldType} {ws : List Cond} {rm : Room} {Pc : Array Value → State → Prop} {Qt : Array Value → State → Outcome → State → Prop} {free : Addr → Prop} {Ts : List Cond} {own C : String} {b : Addr} {As rest : List Value} {g : JFrame}
theorem st_thrown (X : Stand p l e R s m args below meth c T locs cells slots) (hM : MetFree l y (headSpec ws rm) Pc (fun _ _ _ _ _ => True) Qt) {ig : Instr} {len : Nat} {mk : MethodId} {a : Array Value} (hg : g.method = m) (hsize : g.locals.size = c.maxLocals) (hdg : decode c.code g.pc = .ok (ig, len)) (hW : 2 * g.monitorRoom + (g.stack.map fun v => v.category).sum ≤ 8) (hn : T.methodNamed? y = some mk)
    (hws : ∀ w ∈ ws, w.before a T = true) (hcode : (Cond.code y bytes maxL ret).before a T = true) (hini : (Cond.initialized y.cls).before a T = true) (hfr : rm.frames + 1 ≤ R.frames) (hlo : 8 + (maxL + 11) + rm.locals ≤ R.locals) (hc : cells + rm.cells ≤ R.cells) (hs : slots + rm.slots ≤ R.slots) (hPc : Pc a (T.calling g mk a))
    (hQ : ∀ o t, Qt a (T.calling g mk a) o t → ∃ x L, o = .threw x ∧ (T.calling g mk a).WarmedH t.vm ∧ (T.calling g mk a).sameButNew ({ t with vm := (T.calling g mk a).vm } : State) L mc ms ∧ ∀ q ∈ L, free q.base) :
    ∃ x t T' L, Stand p l e R s m args below meth c T' (locs ++ L) (cells + mc) (slots + ms) ∧ (∀ q ∈ L, free q.base) ∧ Qt a (T.calling g mk a) (.threw x) t ∧ T'.heap = t.heap ∧ T'.vm = t.vm ∧ Steps p.tables e below (doInvoke e (T.setTop g) [] mk a).1 ((T'.setTop g).pushFrame (.throwing x)) := by
  obtain ⟨methY, cY, hmY, hcY, -, hlY, -, -, -, -⟩ := Cond.code_spec hn hcode
  obtain ⟨kY, hkY, -⟩ := className_of_methodNamed hn
  have hinitY : kY.init = .initialized := Cond.initialized_spec (findClass_of_methodNamed hn) hkY hini
  have h : At T g.method c below := by rw [hg]; exact X.here
  have happ : (headSpec ws rm).appliesLoose y e.platform (T.calling g mk a) = true :=
    Spec.appliesLoose_calling (g := g) h hdg hn hkY hinitY (X.room_calling (g := g) (R' := rm) hsize hmY hcY hfr (by rw [hlY]; omega) hc hs) (atoms_intro hws)
  obtain ⟨mid, hmid⟩ := h.above
  have hfr2 : (T.setTop g).frames = (.java g :: mid) ++ below := by rw [State.frames_setTop' g h.top, hmid]; rfl
  obtain ⟨o, s₂, hsteps, -, hend, hq⟩ := Steps.callFree hM p X.admits X.cas X.clock (acts := []) hfr2 happ hPc trivial
  have hq' : Qt a (T.calling g mk a) o s₂ := hq
  rw [State.frames_setTop' g h.top, X.tail] at hend
  obtain ⟨x, L, rfl, hW2, hsame, hL⟩ := hQ _ _ hq'
  obtain ⟨T', X', w1, w2, w3⟩ := X.outOfThrown hg hend hW2 hsame
  refine ⟨x, s₂, T', L, X', hL, hq', ?_, ?_, ?_⟩
  · rw [w3]; exact (Stand.throwing_heap T' g x).symm
  · rw [w3]; exact (Stand.throwing_vm T' g x).symm
  · rw [← w3]; exact hsteps
theorem va_runVT (S : CallFix p m c cc nL s args Ts own) (hM : MetFree l y (headSpec ws rm) Pc (fun _ _ _ _ _ => True) Qt) (cw : CallW R s args own C index y bytes maxL ret ws rm mc ms n) (hp : PreV s H C b Pc As)
    (hg : g.method = m) (hn : As.length = n) (hsize : g.locals.size = nL) (hstack : g.stack = As.reverse ++ .ref b :: rest) (hW : 2 * g.monitorRoom + (rest.map fun v => v.category).sum ≤ 8) (hdg : decode cc g.pc = .ok (.invokevirtual index, 3)) (hf : cells + mc ≤ R.cells ∧ slots + ms ≤ R.slots)
    (hQ : ∀ st o t, Qt (Value.ref b :: As).toArray st o t → ∃ x L, o = .threw x ∧ st.WarmedH t.vm ∧ st.sameButNew ({ t with vm := st.vm } : State) L mc ms ∧ ∀ q ∈ L, free q.base) (hT : T.heap = H) (X : Stand p l e R s m args below meth c T locs cells slots) :
    ∃ x st₀ t T' L, st₀.heap = H ∧ s.WarmedH st₀.vm ∧ Stand p l e R s m args below meth c T' (locs ++ L) (cells + mc) (slots + ms) ∧ (∀ q ∈ L, free q.base) ∧ T'.heap = t.heap ∧ T'.vm = t.vm ∧ Qt (Value.ref b :: As).toArray st₀ (.threw x) t ∧
      ∀ target, Steps p.tables e below ((T'.setTop { g with stack := rest }).pushFrame (.throwing x)) target → Steps p.tables e below (T.setTop g) target := by
  obtain ⟨⟨hrc, hrs, hfr, hlo, hws, hcw, hcode, hini, hy, hlen, hl⟩, hin, hse⟩ := cw
  obtain ⟨hx, hb, hml, ho, -⟩ := S
  obtain ⟨hbl, ⟨cellB, hcB, hoB, hclB⟩, hPc⟩ := hp
  obtain ⟨mk, methM, hnamed, hmethM, hstM, habM⟩ := Cond.instanceMethod_spec hin
  obtain ⟨methM', cM, hmethM', -, -, -, -, -, -, hsigM⟩ := Cond.code_spec hnamed hcode
  cases hmethM.symm.trans hmethM'
  obtain ⟨c2, r2, m2, q1, q2, q3, q4, kP, hkP, hkPi⟩ := Cond.selects_spec hse
  cases hclB.symm.trans q1
  cases (State.methodFound?_of_named hnamed hy).symm.trans q2
  cases hnamed.symm.trans q3
  have hselP : selectMethod e.platform s.vm cellB.cls mk = .method mk := by rw [Launch.admits_selectMethod X.admits]; exact q4
  obtain ⟨vm₁, X₁, hstep₁⟩ := X.invokevirtual hx ho hl hnamed hmethM hstM hkP hkPi hy (a := b) (cell := cellB) (by rw [hT]; exact hcB)
    (fun z h => by rw [h] at hoB; cases hoB) hselP hmethM habM hkP hkPi (g := g) hg (argsL := As) (rest := rest) (hn.trans (hlen _ hsigM)) hstack (by rw [hb]; exact hdg)
  have hW₁ := X₁.warmed
  obtain ⟨x, t, T', L, X', hL, hq, e1, e2, st⟩ := st_thrown (T := T.setVm vm₁) (g := { g with stack := rest }) (mk := mk) (a := (Value.ref b :: As).toArray) (free := free) (mc := mc) (ms := ms) (bytes := bytes) (maxL := maxL) (ret := ret) X₁ hM hg (hsize.trans hml.symm) (by rw [hb]; exact hdg) hW (X₁.named hnamed)
    (fun w hw => hws w hw _ _ hW₁) (hws _ hcw _ _ hW₁) (word_at hW₁ (Or.inl (by first | rfl | simp [Cond.onTables, Cond.keeps, Cond.steady])) hini) hfr hlo (by rw [hrc]; exact hf.1) (by rw [hrs]; exact hf.2) (hbl _ _ _ _ (hPc (T.setVm vm₁) hT hW₁)) (fun o t h => hQ _ o t h)
  exact ⟨x, (T.setVm vm₁).calling { g with stack := rest } mk (Value.ref b :: As).toArray, t, T', L, hT, hW₁, X', hL, e1, e2, hq, fun target h => hstep₁ _ fun acts => by rw [doInvoke_state]; exact st.trans h⟩
end CT
section GC
variable {p : Program} {l : Launch} {e : Env} {s : State} {m : MethodId} {args : Array Value} {below : List Frame} {meth : Method} {c : Code} {D : va_G} {cI cZ cB : ClassId} {A : Nat → Prop} {cc : ByteArray} {nL : Nat} {ret : Option FieldType} {R : Room}
variable {ad : Nat → Nat} {ce sn pc : Nat} {lv : Lv} {stk : List V} {M : Mem}
/-- a call that throws, in a method that catches nothing -/
theorem gx_callT (F : FX p s m args meth c D cI cZ cB A RX10 cc nL ret) (hl0 : l.stackTraces = false) (hD : ∀ M, va_D A (wsOf shC nC cI cZ cB ad M)) (hE : c.exceptionTable.isEmpty = true) (hT : ThW s) (hst : ∀ (q : Addr) (cell : Cell), s.heap[q]? = some cell → cell.vm.isStatics = true → ¬ A q) (hcs : ce + 1 ≤ R.cells ∧ sn + 6 ≤ R.slots)
    {X : String} {d index maxL n : Nat} {y : MethodName} {bytes : ByteArray} {ret' : Option FieldType} {As : List V} (hw : okV RX10 index y bytes maxL ret' n) (hyc : y.cls = RX10) (hR : d + 1 ≤ R.frames ∧ 8 + (maxL + 11) + 64 * d ≤ R.locals) (hc : CtT d y bytes maxL ret' (.inr 0 :: As) M X) (hn : As.length = n) (hd : decode cc pc = .ok (.invokevirtual index, 3)) :
    KK shC nC nL R p l e s m args below meth c D cI cZ cB ad A ce sn (thE shC nC D cI cZ cB ad A X M s below (ce + 1) (sn + 6)) pc lv (As.reverse ++ [.inr 0]) M := by
  obtain ⟨⟨hx, hb, hml, hown, hts⟩, ⟨hr, hlk, hns⟩, hK, hA⟩ := F
  intro hM H locs ls hP hS hl T hTH X1
  have he := wsOf_at (sh := shC) (N := nC) (cI := cI) (cZ := cZ) (cB := cB) (ad := ad) (M := M) (k := 0) (by decide)
  have hcode : Cond.code y bytes maxL ret' ∈ tbg := (hw.1 _ (by simp [wsV])).1
  have hG : GoodIn tbg (wsV RX10 index y.cls y (.code y bytes maxL ret' :: tbg)) := by
    intro w hw'
    rcases List.mem_append.mp hw' with h | h
    · exact hw.1 w (List.mem_append_left _ h)
    · exact good_code hcode w h
  have hF : ∀ q, va_A (wsOf shC nC cI cZ cB ad M) H.size q → A q := by
    intro q h
    rcases h with ⟨k, e, h⟩ | h
    · exact (hD M).2 k _ h
    · exact hA q (Nat.le_trans hS.1 h)
  have kept : ∀ (q : Addr) (cell : Cell), s.heap[q]? = some cell → cell.vm.isStatics = true → H[q]? = some cell := fun q cell h1 h2 => by
    rw [hS.2.1 q (Array.getElem?_eq_some_iff.mp h1).1 (hst q cell h1 h2)]; exact h1
  obtain ⟨x, st₀, t, T', L, h0, hW0, X', hL, e1, e2, ⟨x', ex, cex, L2, t1, t2, t3, t4, t5, t6, t7, t8, t9⟩, st⟩ := va_runVT (T := T) (H := H) (C := y.cls) (As := As.map (vv ad)) (rest := []) (g := F0 m pc ls ((As.reverse ++ ([.inr 0] : List V)).map (vv ad))) (e := e) (below := below) (meth := meth) (locs := locs) (cells := ce) (slots := sn) (mc := 1) (ms := 6) (free := va_A (wsOf shC nC cI cZ cB ad M) H.size) ⟨hx, hb, hml, hown, hts⟩ (hc l hl0 D cI cZ cB ad H.size) (cwV n hts hG rfl rfl rfl ⟨rfl, hw.2⟩ hR) ⟨fun a U g mk q => ⟨q.1, q.2.1, q.2.2.1.same rfl, q.2.2.2.1.same rfl rfl, wd_K (u := U) (U := U.calling g mk a) rfl (Vm.Alike.refl U.vm) q.2.2.2.2⟩, (by rw [hyc]; exact va_recv hK hP okC10.1 he), fun U hU hW => ⟨rfl, by rw [hU], hns.warm hW, hT.keep hW (fun q cell h1 h2 => by rw [hU]; exact kept q cell h1 h2), hM, by rw [hU]; exact hP, va_K.moved hW.alike hK, (hD M).weaken (fun _ _ _ _ => trivial)⟩⟩ rfl (by rw [List.length_map]; exact hn) hl.1 (by simp [vv]) (lv_room (by decide)) hd hcs
    (fun st o t ⟨x, ex, ce, L, h1, h2, h3, _⟩ => ⟨x, L, ex, h1, h2, h3⟩) hTH X1
  cases ex
  obtain ⟨lw1, lw2, lw3, lw4, lw5⟩ := X'.leaveThrown x (g := F0 m pc ls []) rfl rfl rfl (fun z hz => by rw [Array.isEmpty_iff.mp hE] at hz; exact absurd hz List.not_mem_nil) hlk
  have hh : (T'.setFrames (.throwing x :: below)).heap = t.heap := e1
  have hv : (T'.setFrames (.throwing x :: below)).vm = t.vm := e2
  refine ⟨T'.setFrames (.throwing x :: below), st _ lw1, x, lw2, lw3, cex, locs ++ L, lw4, lw5, ?_, by rw [hh]; exact t4, t5, ?_, ?_, ⟨t8.1, by rw [hh]; exact t8.2.1, va_K.moved lw4.alike hK, hD M⟩, ?_, ?_⟩
  · intro q hq
    rcases List.mem_append.mp hq with h | h
    · exact hS.2.2 q h
    · exact hF _ (hL q h)
  · rw [← hW0.alike.findClass]; exact t6
  · rw [h0] at t7; exact Nat.le_trans hS.1 t7
  · have z := t9.1
    rw [h0] at z
    rw [hh]; exact Nat.le_trans hS.1 z
  · intro q h1 h2
    have z := t9.2 q (by rw [h0]; exact Nat.lt_of_lt_of_le h1 hS.1) (fun y => h2 (hF q y))
    rw [hh, z, h0]; exact hS.2.1 q h1 h2
end GC
