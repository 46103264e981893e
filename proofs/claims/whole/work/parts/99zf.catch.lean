/-! A CATCH, its class resolved there and then -/
def FindsTo (e : Env) (s : State) (f : JFrame) (a : Addr) (h : Handler) (s' : State) : Prop :=
  ∀ (Q : Handler → Jvm.Pre) (E : CtlPost) (d : Bool) (acts : List Action), wp (findHandler f a) Q E e d acts s ↔ Q h d acts s'
theorem go_cold {Q : Handler → Jvm.Pre} {E : CtlPost} {e : Env} {d : Bool} {acts : List Action} {s : State} {f : JFrame} {a : Addr} {x : ExceptionTableEntry} {t : List ExceptionTableEntry} {c : ClassId} {cell : Cell} {vm' : Vm} (hx : covers x f.pc = true) (h0 : x.catchType ≠ 0)
    (hg : (Jvm.resolveClass f.method.cls x.catchType).Gives e.toSetting s.vm (.ok c) vm') (hsz : vm'.classes.size ≤ s.vm.classes.size) (hcell : s.heap[a]? = some cell) (hobj : ∀ k, cell.vm ≠ .statics k)
    (hk : ∃ k, vm'.classes[cell.cls]? = some k) (hc : ∃ k, vm'.classes[c]? = some k) :
    wp (findHandler.go f a (x :: t)) Q E e d acts s ↔
      if vm'.assignable cell.cls c = true then Q (.found x.handlerPc) d acts (s.setVm vm') else wp (findHandler.go f a t) Q E e d acts (s.setVm vm') := by
  simp only [covers] at hx
  obtain ⟨ha, ht⟩ := hg.op (op := VmOp.resolveClass f.method.cls x.catchType) rfl
  have hcell' : (s.setVm vm').heap[a]? = some cell := hcell
  cases hfit : vm'.assignable cell.cls c <;>
    simp [findHandler.go, hx, h0, ha, ht, hsz, hcell, hcell', hobj, hk, hc, hfit, VmOp.dirties, VmOp.acts]
theorem th_catch {e : Env} {s s' : State} {a : Addr} {f : JFrame} {r : List Frame} {pc : Nat} (hfind : FindsTo e s f a (.found pc) s') :
    (stepThrowing e s a (.java f :: r)).Is (s'.setFrames (.java { f with pc := pc, stack := [.ref a] } :: r)) [] := by
  simp only [stepThrowing, searchFrame, vmDo]
  generalize hr : Sem.go _ e false [] s = res
  obtain ⟨as, rfl, ha⟩ := Sem.eq_ok_of hr (a := Handler.found pc) (s' := s') (acts' := []) (by simp [hfind _ _ _ _])
  exact ⟨rfl, ha⟩
theorem st_caught {tb : Tables} [Ours tb] {e : Env} {s target : State} {g : JFrame} {c : Code} {below : List Frame} {a : Addr} (h : At s g.method c below) {pc : Nat} {vm' : Vm} (hfind : FindsTo e ((s.setTop g).pushFrame (.throwing a)) g a (.found pc) (((s.setTop g).pushFrame (.throwing a)).setVm vm'))
    (hrest : Steps tb e below ((s.setVm vm').setTop { g with pc := pc, stack := [.ref a] }) target) :
    Steps tb e below ((s.setTop g).pushFrame (.throwing a)) target := by
  obtain ⟨hgo, hw⟩ := h.throwing a
  refine Steps.head hgo hw ?_
  rw [stepThread_throwing (frames_entered h.top _), (th_catch (s := (s.setTop g).pushFrame (.throwing a)) hfind).1]
  obtain ⟨g₀, hg⟩ := Option.isSome_iff_exists.mp h.top
  obtain ⟨r, hr⟩ := State.topJava?_eq_some.mp hg
  have hr' : (s.setVm vm').frames = .java g₀ :: r := hr
  rw [State.setTop_of_frames _ hr'] at hrest
  have e1 : ((s.setTop g).pushFrame (.throwing a)).setVm vm' = (s.setVm vm').setFrames (.throwing a :: .java g :: r) := by
    rw [State.pushFrame, State.frames_setTop _ hr, State.setTop_of_frames _ hr, State.setFrames_setFrames]; rfl
  rw [e1, State.setFrames_setFrames, hr]
  exact hrest
section CA
variable {p : Program} {l : Launch} {e : Env} {R : Room} {s : State} {m : MethodId} {args : Array Value} {below : List Frame} {meth : Method} {c : Code} {T : State} {locs : List Loc} {cells slots : Nat}
/-- one clause, or the first of some: it fits -/
theorem st_catch1 (X : Stand p l e R s m args below meth c T locs cells slots) {x : Addr} {cell : Cell} (hcell : T.heap[x]? = some cell) (hvm : cell.vm = .none) {C own : String} (hown : s.vm.findClass own = some m.cls) (hC : s.vm.findClass C = some cell.cls) (hself : (Cond.castable C C).before args s = true) {ct lo hi hp : Nat} {rest : List ExceptionTableEntry} {h : ExceptionTableEntry} (ht : c.exceptionTable.toList = h :: rest) (hh : h.startPc = lo ∧ h.endPc = hi ∧ h.handlerPc = hp ∧ h.catchType = ct) (hct : ct ≠ 0) (hlink : (Cond.classLink own ct C).before args s = true)
    {g : JFrame} (hg : g.method = m) (hpc : lo ≤ g.pc ∧ g.pc < hi) : ∃ vm', Stand p l e R s m args below meth c (T.setVm vm') locs cells slots ∧ ∀ target, Steps p.tables e below ((T.setVm vm').setTop { g with pc := hp, stack := [.ref x] }) target → Steps p.tables e below ((T.setTop g).pushFrame (.throwing x)) target := by
  subst hg
  have hpl : e.platform.magicAccessors = ({} : Platform).magicAccessors := by rw [X.admits.platform]
  obtain ⟨cc, hfcc, hcl⟩ := Cond.classLink_spec hown hlink e.platform hpl
  cases Option.some.inj (hC.symm.trans hfcc)
  obtain ⟨hg₁, hwarm₁, hready₁⟩ := State.classEntry (e := e) X.warmed hcl
  generalize T.vm.noted g.method.cls ct (.cls cell.cls) = vm₁ at hg₁ hwarm₁ hready₁
  obtain ⟨c3, c4, hc3, hc4, hasg⟩ := Cond.castable_spec (show (Cond.castable C C).holds args s none s [] = true from hself)
  cases Option.some.inj (hc3.symm.trans hC)
  cases Option.some.inj (hc4.symm.trans hC)
  obtain ⟨kC, hkC, -⟩ := Vm.findClass_spec hC
  obtain ⟨k₁, hk₁, -⟩ := hwarm₁.alike.2.2 _ _ hkC
  have hsz : vm₁.classes.size ≤ T.vm.classes.size := by rw [hwarm₁.2.1, X.warmed.2.1]; exact Nat.le_refl _
  have X₁ := X.noted hwarm₁
  refine ⟨vm₁, X₁, fun target hrest => st_caught (c := c) X.here (pc := hp) (vm' := vm₁) ?_ hrest⟩
  intro Q E d acts
  have hm' : ((T.setTop g).pushFrame (.throwing x)).vm.method? g.method = some meth := by rw [Stand.throwing_vm]; exact X.method'
  rw [W.findHandler_eq hm' X.code, ht]
  obtain ⟨h1, h2, h3, h4⟩ := hh
  subst h4
  rw [go_cold (c := cell.cls) (cell := cell) (vm' := vm₁) (by simp only [covers, h1, h2]; simp; exact hpc) hct (by rw [Stand.throwing_vm]; exact hg₁) (by rw [Stand.throwing_vm]; exact hsz) (by rw [Stand.throwing_heap]; exact hcell) (fun k hk => by rw [hvm] at hk; cases hk) ⟨k₁, hk₁⟩ ⟨k₁, hk₁⟩, if_pos (by rw [hwarm₁.alike.assignable]; exact hasg), h3]
/-- two clauses: the second fits -/
theorem st_catch2 (X : Stand p l e R s m args below meth c T locs cells slots) {x : Addr} {cell : Cell} (hcell : T.heap[x]? = some cell) (hvm : cell.vm = .none) {C B own : String} (hown : s.vm.findClass own = some m.cls) (hC : s.vm.findClass C = some cell.cls) (hself : (Cond.castable C C).before args s = true) (hno : ∃ a b, s.vm.findClass C = some a ∧ s.vm.findClass B = some b ∧ s.vm.assignable a b = false) {ct ct2 lo hi hp : Nat} {h h' : ExceptionTableEntry} (ht : c.exceptionTable.toList = [h', h]) (hh' : h'.startPc = lo ∧ h'.endPc = hi ∧ h'.catchType = ct2) (hh : h.startPc = lo ∧ h.endPc = hi ∧ h.handlerPc = hp ∧ h.catchType = ct) (hct : ct ≠ 0) (hct2 : ct2 ≠ 0) (hlink : (Cond.classLink own ct C).before args s = true) (hlink2 : (Cond.classLink own ct2 B).before args s = true)
    {g : JFrame} (hg : g.method = m) (hpc : lo ≤ g.pc ∧ g.pc < hi) : ∃ vm', Stand p l e R s m args below meth c (T.setVm vm') locs cells slots ∧ ∀ target, Steps p.tables e below ((T.setVm vm').setTop { g with pc := hp, stack := [.ref x] }) target → Steps p.tables e below ((T.setTop g).pushFrame (.throwing x)) target := by
  subst hg
  have hpl : e.platform.magicAccessors = ({} : Platform).magicAccessors := by rw [X.admits.platform]
  obtain ⟨ca, cb, n1, n2, n3⟩ := hno
  cases Option.some.inj (n1.symm.trans hC)
  obtain ⟨cc2, hfcc2, hcl2⟩ := Cond.classLink_spec hown hlink2 e.platform hpl
  cases Option.some.inj (n2.symm.trans hfcc2)
  obtain ⟨hg₁, hwarm₁, hready₁⟩ := State.classEntry (e := e) X.warmed hcl2
  generalize T.vm.noted g.method.cls ct2 (.cls cb) = vm₁ at hg₁ hwarm₁ hready₁
  obtain ⟨cc, hfcc, hcl⟩ := Cond.classLink_spec hown hlink e.platform hpl
  cases Option.some.inj (hC.symm.trans hfcc)
  have X₁ := X.noted hwarm₁
  obtain ⟨hg₂, hwarm₂, hready₂⟩ := State.classEntry (e := e) hwarm₁ hcl
  generalize vm₁.noted g.method.cls ct (.cls cell.cls) = vm₂ at hg₂ hwarm₂ hready₂
  obtain ⟨c3, c4, hc3, hc4, hasg⟩ := Cond.castable_spec (show (Cond.castable C C).holds args s none s [] = true from hself)
  cases Option.some.inj (hc3.symm.trans hC)
  cases Option.some.inj (hc4.symm.trans hC)
  obtain ⟨kC, hkC, -⟩ := Vm.findClass_spec hC
  obtain ⟨kB, hkB, -⟩ := Vm.findClass_spec n2
  obtain ⟨k₁, hk₁, -⟩ := hwarm₁.alike.2.2 _ _ hkC
  obtain ⟨j₁, hj₁, -⟩ := hwarm₁.alike.2.2 _ _ hkB
  obtain ⟨k₂, hk₂, -⟩ := hwarm₂.alike.2.2 _ _ hkC
  have hsz : vm₁.classes.size ≤ T.vm.classes.size := by rw [hwarm₁.2.1, X.warmed.2.1]; exact Nat.le_refl _
  have hsz2 : vm₂.classes.size ≤ vm₁.classes.size := by rw [hwarm₂.2.1, hwarm₁.2.1]; exact Nat.le_refl _
  have X₂ := X.noted hwarm₂
  refine ⟨vm₂, X₂, fun target hrest => st_caught (c := c) X.here (pc := hp) (vm' := vm₂) ?_ hrest⟩
  intro Q E d acts
  have hm' : ((T.setTop g).pushFrame (.throwing x)).vm.method? g.method = some meth := by rw [Stand.throwing_vm]; exact X.method'
  rw [W.findHandler_eq hm' X.code, ht]
  obtain ⟨i1, i2, i4⟩ := hh'
  obtain ⟨h1, h2, h3, h4⟩ := hh
  subst h4; subst i4
  rw [go_cold (c := cb) (cell := cell) (vm' := vm₁) (by simp only [covers, i1, i2]; simp; exact hpc) hct2 (by rw [Stand.throwing_vm]; exact hg₁) (by rw [Stand.throwing_vm]; exact hsz) (by rw [Stand.throwing_heap]; exact hcell) (fun k hk => by rw [hvm] at hk; cases hk) ⟨k₁, hk₁⟩ ⟨j₁, hj₁⟩, if_neg (by rw [hwarm₁.alike.assignable, n3]; decide)]
  rw [go_cold (c := cell.cls) (cell := cell) (vm' := vm₂) (by simp only [covers, h1, h2]; simp; exact hpc) hct hg₂ hsz2 (by show ((T.setTop g).pushFrame (.throwing x)).heap[x]? = _; rw [Stand.throwing_heap]; exact hcell) (fun k hk => by rw [hvm] at hk; cases hk) ⟨k₂, hk₂⟩ ⟨k₂, hk₂⟩, if_pos (by rw [hwarm₂.alike.assignable]; exact hasg), h3]
  rfl
end CA
