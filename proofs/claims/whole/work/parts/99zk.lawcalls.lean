/-! THE LAW: calls of its wrappers -/
section RW
variable {p : Program} {l : Launch} {e : Env} {R : Room} {s : State} {m : MethodId} {args : Array Value} {below : List Frame} {meth : Method} {c : Code} {T : State} {H : Heap} {locs : List Loc} {cells slots : Nat}
variable {y : MethodName} {bytes cc : ByteArray} {maxL nL mc ms n index : Nat} {ret : Option FieldType} {hs : List (Nat × Nat × Nat × Nat)} {ws : List Cond} {rm : Room} {Pc : Array Value → State → Prop} {Qc : Array Value → State → Outcome → State → Prop} {free : Addr → Prop} {Ts : List Cond} {own : String} {As rest : List Value} {g : JFrame}
theorem st_ret (X : Stand p l e R s m args below meth c T locs cells slots) (hM : Met l y ws rm Pc Qc mc ms free) {ig : Instr} {len : Nat} {mk : MethodId} {a : Array Value} (hg : g.method = m) (hsize : g.locals.size = c.maxLocals) (hdg : decode c.code g.pc = .ok (ig, len)) (hW : 2 * g.monitorRoom + (g.stack.map fun v => v.category).sum ≤ 8) (hn : T.methodNamed? y = some mk)
    (hws : ∀ w ∈ ws, w.before a T = true) (hcode : (Cond.codeWith y bytes maxL ret hs).before a T = true) (hini : (Cond.initialized y.cls).before a T = true) (hfr : rm.frames + 1 ≤ R.frames) (hlo : 8 + (maxL + 11) + rm.locals ≤ R.locals) (hc : cells + rm.cells ≤ R.cells) (hsl : slots + rm.slots ≤ R.slots) (hPc : Pc a (T.calling g mk a)) :
    ∃ v t T' L, Stand p l e R s m args below meth c T' (locs ++ L) (cells + mc) (slots + ms) ∧ (∀ q ∈ L, free q.base) ∧ Qc a (T.calling g mk a) (.returned v) t ∧ T'.heap = t.heap ∧ T'.vm = t.vm ∧ Steps p.tables e below (doInvoke e (T.setTop g) [] mk a).1 (T'.setTop { g with pc := g.pc + len, stack := v.toList ++ g.stack }) := by
  obtain ⟨mk', methY, cY, hn', hmY, hcY, -, hlY, -, -, -, -⟩ := Cond.codeWith_spec (show (Cond.codeWith y bytes maxL ret hs).holds a T none T [] = true from hcode)
  cases Option.some.inj (hn.symm.trans hn')
  obtain ⟨kY, hkY, -⟩ := className_of_methodNamed hn
  have hinitY : kY.init = .initialized := Cond.initialized_spec (findClass_of_methodNamed hn) hkY hini
  have h : At T g.method c below := by rw [hg]; exact X.here
  have happ : (headSpec ws rm).appliesLoose y e.platform (T.calling g mk a) = true :=
    Spec.appliesLoose_calling (g := g) h hdg hn hkY hinitY (X.room_calling (g := g) (R' := rm) hsize hmY hcY hfr (by rw [hlY]; omega) hc hsl) (atoms_intro hws)
  obtain ⟨mid, hmid⟩ := h.above
  have hfr2 : (T.setTop g).frames = (.java g :: mid) ++ below := by rw [State.frames_setTop' g h.top, hmid]; rfl
  obtain ⟨o, s₂, hsteps, -, hend, hq⟩ := Steps.callFree hM p X.admits X.cas X.clock (acts := []) hfr2 happ hPc trivial
  rw [State.frames_setTop' g h.top, X.tail] at hend
  obtain ⟨hq1, L, ⟨⟨v, rfl⟩, hW2, hsame⟩, hL⟩ := hq
  obtain ⟨T', X', w1, w2, w3⟩ := X.outOf hg hdg hend hW2 hsame
  refine ⟨v, s₂, T', L, X', hL, hq1, ?_, ?_, ?_⟩
  · rw [w3]; simp [State.setTop, State.modifyTopJava]
  · rw [w3]; simp [State.setTop, State.modifyTopJava]
  · rw [← w3]; exact hsteps
theorem va_runSW (S : CallFix p m c cc nL s args Ts own) (hM : Met l y ws rm Pc Qc mc ms free) (hrc : rm.cells = mc) (hrs : rm.slots = ms) (hfr : rm.frames + 1 ≤ R.frames) (hlo : 8 + (maxL + 11) + rm.locals ≤ R.locals) (hws : ∀ w ∈ ws, ∀ (a' : Array Value) (U : State), s.WarmedH U.vm → w.before a' U = true) (hcw : Cond.codeWith y bytes maxL ret hs ∈ ws) (hini : (Cond.initialized y.cls).before args s = true) (hy : y.cls ≠ "java/lang/invoke/MethodHandle" ∧ y.cls ≠ "java/lang/invoke/VarHandle") (hlen : ∀ sig, parseMethodDescriptor y.desc = some sig → n = sig.parameters.length) (hl : (Cond.methodLink own index y).before args s = true) (hstt : (Cond.static y).before args s = true) (hp : PreS s H Pc As)
    (hg : g.method = m) (hn : As.length = n) (hsize : g.locals.size = nL) (hstack : g.stack = As.reverse ++ rest) (hW : 2 * g.monitorRoom + (rest.map fun v => v.category).sum ≤ 8) (hdg : decode cc g.pc = .ok (.invokestatic index, 3)) (hf : cells + mc ≤ R.cells ∧ slots + ms ≤ R.slots) :
    va_Run p l e R s m args below meth c H locs cells slots mc ms g rest (Qc As.toArray) free := by
  obtain ⟨hx, hb, hml, ho, -⟩ := S
  intro T hT X
  have hcode0 : (Cond.codeWith y bytes maxL ret hs).before args s = true := hws _ hcw args s (State.WarmedH.refl s)
  obtain ⟨mk, methM, cM, hnamed, hmethM, -, -, -, -, -, -, hsigM⟩ := Cond.codeWith_spec (show (Cond.codeWith y bytes maxL ret hs).holds args s none s [] = true from hcode0)
  have hstatic : methM.isStatic = true := Cond.static_spec hnamed hmethM hstt
  obtain ⟨kP, hkP, -⟩ := className_of_methodNamed hnamed
  have hinitP : kP.init = .initialized := Cond.initialized_spec (findClass_of_methodNamed hnamed) hkP hini
  obtain ⟨vm₁, X₁, hstep₁⟩ := X.invokestatic hx ho hl hnamed hmethM hstatic hkP hinitP hy (g := g) hg (argsL := As) (rest := rest) (hn.trans (hlen _ hsigM)) hstack (by rw [hb]; exact hdg)
  have hW₁ := X₁.warmed
  obtain ⟨v, t, T', L, X', hL, hq, e1, e2, st⟩ := st_ret (T := T.setVm vm₁) (g := { g with stack := rest }) (mk := mk) (a := As.toArray) (bytes := bytes) (maxL := maxL) (ret := ret) (hs := hs) X₁ hM hg (hsize.trans hml.symm) (by rw [hb]; exact hdg) hW (X₁.named hnamed)
    (fun w hw => hws w hw _ _ hW₁) (hws _ hcw _ _ hW₁) (word_at hW₁ (Or.inl (by first | rfl | simp [Cond.onTables, Cond.keeps, Cond.steady])) hini) hfr hlo (by rw [hrc]; exact hf.1) (by rw [hrs]; exact hf.2) (hp.1 _ _ _ _ (hp.2 (T.setVm vm₁) hT hW₁))
  exact ⟨v, (T.setVm vm₁).calling { g with stack := rest } mk As.toArray, t, T', L, hT, X', hL, e1, e2, hq, fun target h => hstep₁ _ fun acts => by rw [doInvoke_state]; exact st.trans h⟩
end RW
section LC
variable {p : Program} {l : Launch} {e : Env} {s : State} {m : MethodId} {args : Array Value} {below : List Frame} {meth : Method} {c : Code} {D : va_G} {cI cZ cB cJ : ClassId} {A : Nat → Prop} {cc : ByteArray} {nL : Nat} {R : Room} {Q : State → Prop}
variable {ad : Nat → Nat} {ao : Nat} {f : Nat → Int64} {M : Mem} {ws2 : va_W} {H : Heap} {locs : List Loc} {ce sn pc : Nat} {ls : Array Slot} {rest st0 : List Value}
theorem lw_callW (F : FL p s m args c D cI cZ cB [(cJ, .long)] A RL cc nL) (hl0 : l.stackTraces = false) (hT : ThW s) (hst1 : ∀ (q : Addr) (cell : Cell), s.heap[q]? = some cell → cell.vm.isStatics = true → ¬ A q)
    {y : MethodName} {bytes : ByteArray} {maxL index n : Nat} {hs : List (Nat × Nat × Nat × Nat)} {zs : List Int} {post : Int → Mem → Int64 → Prop} (hw : okW index y bytes maxL hs n) (hd : decode cc pc = .ok (.invokestatic index, 3)) (hc : CtW y bytes maxL hs zs M post)
    (hR : 9 ≤ R.frames ∧ 600 ≤ R.locals) (hmx : maxL ≤ 10) (hcs : ce + 1 ≤ R.cells ∧ sn + 6 ≤ R.slots) (hn : zs.length + 2 = n) (h8 : (rest.map fun v => v.category).sum ≤ 8) (hsz : ls.size = nL) (hst : st0 = (Value.ref (ad 0) :: (zs.map fun z => Value.int (Int32.ofInt z)) ++ [Value.ref ao]).reverse ++ rest)
    (hM : Rg M) (hP : va_P D vwCl (wsO cI cZ cB cJ ad ao M f ++ ws2) H) (hD : va_D A (wsO cI cZ cB cJ ad ao M f ++ ws2)) (hS : va_S A s.heap H locs)
    (kk : ∀ z M' f' H1 locs1, inR z → post z M' (f' 0) → Rg M' → va_P D vwCl (wsO cI cZ cB cJ ad ao M' f' ++ ws2) H1 → va_D A (wsO cI cZ cB cJ ad ao M' f' ++ ws2) → va_S A s.heap H1 locs1 → W p l e R s m args below meth c H1 locs1 (ce + 1) (sn + 6) Q (F0 m (pc + 3) ls (.int (Int32.ofInt z) :: rest))) :
    W p l e R s m args below meth c H locs ce sn Q (F0 m pc ls st0) := by
  obtain ⟨⟨hx, hb, hml, hown, hts⟩, hns, hK, hA⟩ := F
  obtain ⟨w1, w2, w3, w4, w5⟩ := hw
  have hP1 := P_l hP
  have hD1 := D_l hD
  have hA2 : ∀ q, H.size ≤ q → A q := fun q h => hA q (Nat.le_trans hS.1 h)
  have hF : ∀ q, va_A (wsO cI cZ cB cJ ad ao M f) H.size q → A q := by
    intro q h
    rcases h with ⟨k, e, h⟩ | h
    · exact hD1.2 k _ h
    · exact hA2 q h
  have kept : ∀ (q : Addr) (cell : Cell), s.heap[q]? = some cell → cell.vm.isStatics = true → H[q]? = some cell := fun q cell h1 h2 => by
    rw [hS.2.1 q (Array.getElem?_eq_some_iff.mp h1).1 (hst1 q cell h1 h2)]; exact h1
  subst hst
  have hws : ∀ w ∈ (Cond.codeWith y bytes maxL (some .int) hs :: tbg), ∀ (a' : Array Value) (U : State), s.WarmedH U.vm → w.before a' U = true := fun w hw a' U hW => by
    have hw' : w ∈ tbg := by
      rcases List.mem_cons.mp hw with rfl | h
      · exact w1 _ (by simp)
      · exact h
    exact word_at hW (good_of_word (List.all_eq_true.mp tbl_good w hw')) (hts w hw')
  have run := va_runSW (own := RL) (index := index) (As := Value.ref (ad 0) :: (zs.map fun z => Value.int (Int32.ofInt z)) ++ [Value.ref ao]) (rest := rest) (g := F0 m pc ls ((Value.ref (ad 0) :: (zs.map fun z => Value.int (Int32.ofInt z)) ++ [Value.ref ao]).reverse ++ rest)) (e := e) (below := below) (meth := meth) (locs := locs) (cells := ce) (slots := sn) (mc := 1) (ms := 6) (n := n) ⟨hx, hb, hml, hown, hts⟩ (hc l hl0 D cI cZ cB cJ ad ao f H.size) rfl rfl hR.1 (by show 8 + (maxL + 11) + 512 ≤ R.locals; omega) hws List.mem_cons_self (by rw [w2]; exact hts _ (w1 _ (by simp))) ⟨w3, w4⟩ (fun sig h => by rw [h] at w5; simpa using w5.symm) (hts _ (w1 _ (by simp))) (hts _ (w1 _ (by simp)))
    ⟨fun a U g mk q => ⟨q.1, q.2.1, q.2.2.1.same rfl, q.2.2.2.1.same rfl rfl, q.2.2.2.2.1, q.2.2.2.2.2.1, va_K.moved (u := U) (U := U.calling g mk a) (Vm.Alike.refl U.vm) q.2.2.2.2.2.2.1, q.2.2.2.2.2.2.2⟩, fun U hU hW => ⟨rfl, by rw [hU], hns.warm hW, hT.keep hW (fun q cell h1 h2 => by rw [hU]; exact kept q cell h1 h2), hM, by rw [hU]; exact hP1, va_K.moved hW.alike hK, hD1.weaken (fun _ _ _ _ => trivial)⟩⟩ rfl (by simp; omega) hsz rfl (lv_room h8) hd hcs
  refine va_calli (a := (Value.ref (ad 0) :: (zs.map fun z => Value.int (Int32.ofInt z)) ++ [Value.ref ao]).toArray) run hS (fun q _ h => hF q h) hF (fun r u t H1 locs1 ht hvm hp hB hz1 hk1 hS1 => ?_)
  obtain ⟨z, rfl, hz, hp⟩ := hp
  obtain ⟨j1, j2⟩ := jnw hP hD hA2 (by rw [← ht]; exact hB.2.1) hB.2.2.2 hk1
  exact kk z u.1 u.2 H1 locs1 hz hp hB.1 j1 j2 hS1
/-- the reference's hold -/
theorem lw_callH {ty2 : List (ClassId × FieldType)} {own : String} (F : FL p s m args c D cI cZ cB ty2 A own cc nL) {bl index n : Nat} (hw : okV own index yX11_hold cX11_hold 5 (some .int) 0) (hd : decode cc pc = .ok (.invokevirtual index, 3)) (hc : CtH bl M n)
    (hR : 2 ≤ R.frames ∧ 300 ≤ R.locals) (hcs : ce + gwC n n bl ≤ R.cells ∧ sn + gwS n n bl ≤ R.slots) (h8 : (rest.map fun v => v.category).sum ≤ 8) (hsz : ls.size = nL)
    (hM : Rg M) (hP : va_P D vwCl (wsOf (shM bl) nM cI cZ cB ad M ++ ws2) H) (hD : va_D A (wsOf (shM bl) nM cI cZ cB ad M ++ ws2)) (hS : va_S A s.heap H locs)
    (kk : ∀ r M' ad' H1 locs1, inR r → HoP M n r M' → ad' 0 = ad 0 → Rg M' → va_P D vwCl (wsOf (shM (gwB n n bl)) nM cI cZ cB ad' M' ++ ws2) H1 → va_D A (wsOf (shM (gwB n n bl)) nM cI cZ cB ad' M' ++ ws2) → va_S A s.heap H1 locs1 → W p l e R s m args below meth c H1 locs1 (ce + gwC n n bl) (sn + gwS n n bl) Q (F0 m (pc + 3) ls (.int (Int32.ofInt r) :: rest))) :
    W p l e R s m args below meth c H locs ce sn Q (F0 m pc ls (.ref (ad 0) :: rest)) := by
  obtain ⟨⟨hx, hb, hml, hown, hts⟩, hns, hK, hA⟩ := F
  have hK3 := K_l hK
  have he := wsOf_at (sh := shM bl) (N := nM) (cI := cI) (cZ := cZ) (cB := cB) (ad := ad) (M := M) (k := 0) (by decide)
  have hP1 := P_l hP
  have hD1 := D_l hD
  have hcode : Cond.code yX11_hold cX11_hold 5 (some .int) ∈ tbg := (hw.1 _ (by simp [wsV])).1
  have hG : GoodIn tbg (wsV own index yX11_hold.cls yX11_hold (.code yX11_hold cX11_hold 5 (some .int) :: tbg)) := by
    intro w hw'
    rcases List.mem_append.mp hw' with h | h
    · exact hw.1 w (List.mem_append_left _ h)
    · exact good_code hcode w h
  have hA2 : ∀ q, H.size ≤ q → A q := fun q h => hA q (Nat.le_trans hS.1 h)
  have hF : ∀ q, va_A (wsOf (shM bl) nM cI cZ cB ad M) H.size q → A q := by
    intro q h
    rcases h with ⟨k, e, h⟩ | h
    · exact hD1.2 k _ h
    · exact hA2 q h
  have run := va_runV (C := yX11_hold.cls) (As := []) (rest := rest) (g := F0 m pc ls (.ref (ad 0) :: rest)) (e := e) (below := below) (meth := meth) (locs := locs) (cells := ce) (slots := sn) (mc := gwC n n bl) (ms := gwS n n bl) ⟨hx, hb, hml, hown, hts⟩ (hc l D cI cZ cB ad H.size) (cwV 0 hts hG rfl rfl rfl ⟨rfl, hw.2⟩ ⟨hR.1, by show 8 + (5 + 11) + 200 ≤ R.locals; omega⟩) ⟨fun a U g mk q => ⟨q.1, q.2.1, q.2.2.1.same rfl, wd_K (u := U) (U := U.calling g mk a) rfl (Vm.Alike.refl U.vm) q.2.2.2⟩, va_recv hK3 hP1 okC11.1 he, fun U hU hW => ⟨rfl, by rw [hU], hns.warm hW, hM, by rw [hU]; exact hP1, va_K.moved hW.alike hK3, hD1.weaken (fun _ _ _ _ => trivial)⟩⟩ rfl rfl hsz rfl (lv_room h8) hd hcs
  refine va_calli (a := (Value.ref (ad 0) :: ([] : List Value)).toArray) run hS (fun q _ h => hF q h) hF (fun r u t H1 locs1 ht hvm hp hB hz1 hk1 hS1 => ?_)
  obtain ⟨⟨z, rfl, hz, hp⟩, ha⟩ := hp
  obtain ⟨j1, j2⟩ := jnw hP hD hA2 (by rw [← ht]; exact hB.2.1) hB.2.2.2 hk1
  exact kk z u.1 u.2 H1 locs1 hz hp ha hB.1 j1 j2 hS1
end LC
