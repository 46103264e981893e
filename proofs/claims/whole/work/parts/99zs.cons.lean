/-! CONSTRUCTORS: a world given as a list of cells, an instruction a row -/
def CW (nL : Nat) (R : Room) (p : Program) (l : Launch) (e : Env) (s : State) (m : MethodId) (args : Array Value) (below : List Frame) (meth : Method) (c : Code) (D : va_G) (A : Nat → Prop) (Q : State → Prop) (ce sn pc : Nat) (lv : List (Nat × Value)) (stk : List Value) (ws : va_W) : Prop :=
  ∀ (H : Heap) (locs : List Loc) (ls : Array Slot), va_P D vwCl ws H → va_D A ws → va_S A s.heap H locs → lv_has ls nL lv → W p l e R s m args below meth c H locs ce sn Q (F0 m pc ls stk)
/-- a constructor's contract: of its own cell e0 at q, with the arguments As, it makes the cells of res -/
def CnI (y : MethodName) (bytes : ByteArray) (maxL : Nat) (rm : Room) (e0 : va_E) (As : List Value) (res : ClassId → ClassId → ClassId → Nat → (Nat → Nat) → va_W) : Prop :=
  ∀ (l : Launch) (D : va_G) (cI cZ cB : ClassId) (q sz : Nat), Met l y (.code y bytes maxL none :: tbg) rm (va_Pc (.ref q :: As) (fun U => U.heap.size = sz ∧ NS U ∧ va_P D vwCl [(q, e0)] U.heap ∧ va_K D vwCl (tyl cI cZ cB) U ∧ va_D (fun _ => True) [(q, e0)])) (va_Qv (fun _ : Nat → Nat => True) (fun u t => va_P D vwCl (res cI cZ cB q u) t.heap ∧ va_D (va_A [(q, e0)] sz) (res cI cZ cB q u)) (va_A [(q, e0)] sz)) rm.cells rm.slots (va_A [(q, e0)] sz)
def okI (own : String) (index : Nat) (y : MethodName) (bytes : ByteArray) (maxL n : Nat) : Prop :=
  (Cond.methodLink own index y ∈ tbg ∧ Cond.instanceMethod y ∈ tbg ∧ Cond.initialized y.cls ∈ tbg ∧ Cond.code y bytes maxL none ∈ tbg) ∧ y.name = "<init>" ∧ y.cls ≠ "java/lang/invoke/MethodHandle" ∧ y.cls ≠ "java/lang/invoke/VarHandle" ∧ (parseMethodDescriptor y.desc).map (fun d => d.parameters.length) = some n
def okIN (own : String) (index : Nat) (y : MethodName) (host : String) (bytes : ByteArray) (maxL n : Nat) : Prop :=
  ((own, index, y, host) ∈ nst ∧ Cond.instanceMethod y ∈ tbg ∧ Cond.initialized y.cls ∈ tbg ∧ Cond.code y bytes maxL none ∈ tbg) ∧ y.name = "<init>" ∧ y.cls ≠ "java/lang/invoke/MethodHandle" ∧ y.cls ≠ "java/lang/invoke/VarHandle" ∧ (parseMethodDescriptor y.desc).map (fun d => d.parameters.length) = some n
theorem ob_1 : Cond.instanceMethod Lib.objectInit ∈ tbg := in_1 26 (by decide +kernel) rfl
theorem ob_2 : Cond.code Lib.objectInit ⟨#[0xb1]⟩ 1 none ∈ tbg := in_1 27 (by decide +kernel) rfl
section CWR
variable {p : Program} {l : Launch} {e : Env} {s : State} {m : MethodId} {args : Array Value} {below : List Frame} {meth : Method} {c : Code} {D : va_G} {cI cZ cB : ClassId} {A : Nat → Prop} {own : String} {cc : ByteArray} {nL : Nat} {ret : Option FieldType} {R : Room} {Q : State → Prop}
variable {ce sn pc : Nat} {lv : List (Nat × Value)} {stk : List Value} {ws : va_W}
theorem cw_aload (F : FX p s m args meth c D cI cZ cB A own cc nL ret) {k : Fin 4} {x : Nat} (j : Nat) (hj : lv[j]? = some ((k : Nat), .ref x)) (hd : decode cc pc = .ok (.aload_n k, 1)) (kk : CW nL R p l e s m args below meth c D A Q ce sn (pc + 1) lv (.ref x :: stk) ws) : CW nL R p l e s m args below meth c D A Q ce sn pc lv stk ws := by
  intro H locs ls hP hD hS hl
  exact lv_aload_n F.1.1 F.1.2.1 hd rfl (lv_at hl j hj) (kk H locs ls hP hD hS hl)
theorem cw_iload (F : FX p s m args meth c D cI cZ cB A own cc nL ret) {k : Fin 4} {x : Int32} (j : Nat) (hj : lv[j]? = some ((k : Nat), .int x)) (hd : decode cc pc = .ok (.iload_n k, 1)) (kk : CW nL R p l e s m args below meth c D A Q ce sn (pc + 1) lv (.int x :: stk) ws) : CW nL R p l e s m args below meth c D A Q ce sn pc lv stk ws := by
  intro H locs ls hP hD hS hl
  exact lv_iload_n F.1.1 F.1.2.1 hd rfl (lv_at hl j hj) (kk H locs ls hP hD hS hl)
theorem cw_bipush (F : FX p s m args meth c D cI cZ cB A own cc nL ret) {n : Int} (v : Int32) (hv : (Int8.ofInt n).toInt32 = v) (hd : decode cc pc = .ok (.bipush n, 2)) (kk : CW nL R p l e s m args below meth c D A Q ce sn (pc + 2) lv (.int v :: stk) ws) : CW nL R p l e s m args below meth c D A Q ce sn pc lv stk ws := by
  intro H locs ls hP hD hS hl
  exact lv_bipush F.1.1 F.1.2.1 hd hv (kk H locs ls hP hD hS hl)
theorem cw_sipush (F : FX p s m args meth c D cI cZ cB A own cc nL ret) {n : Int} (v : Int32) (hv : (Int16.ofInt n).toInt32 = v) (hd : decode cc pc = .ok (.sipush n, 3)) (kk : CW nL R p l e s m args below meth c D A Q ce sn (pc + 3) lv (.int v :: stk) ws) : CW nL R p l e s m args below meth c D A Q ce sn pc lv stk ws := by
  intro H locs ls hP hD hS hl
  exact lv_sipush F.1.1 F.1.2.1 hd hv (kk H locs ls hP hD hS hl)
theorem cw_iconst (F : FX p s m args meth c D cI cZ cB A own cc nL ret) {n : Int} (v : Int32) (hv : Int32.ofInt n = v) (hd : decode cc pc = .ok (.iconst n, 1)) (kk : CW nL R p l e s m args below meth c D A Q ce sn (pc + 1) lv (.int v :: stk) ws) : CW nL R p l e s m args below meth c D A Q ce sn pc lv stk ws := by
  intro H locs ls hP hD hS hl
  exact lv_iconst F.1.1 F.1.2.1 hd hv (kk H locs ls hP hD hS hl)
theorem cw_dup (F : FX p s m args meth c D cI cZ cB A own cc nL ret) {x : Nat} (hd : decode cc pc = .ok (.dup, 1)) (kk : CW nL R p l e s m args below meth c D A Q ce sn (pc + 1) lv (.ref x :: .ref x :: stk) ws) : CW nL R p l e s m args below meth c D A Q ce sn pc lv (.ref x :: stk) ws := by
  intro H locs ls hP hD hS hl
  exact lv_dup F.1.1 F.1.2.1 hd rfl (kk H locs ls hP hD hS hl)
theorem cw_obj (F : FX p s m args meth c D cI cZ cB A own cc nL ret) {x idx : Nat} (hw : Cond.methodLink own idx Lib.objectInit ∈ tbg) (hR : 1 ≤ R.frames ∧ 12 ≤ R.locals) (hd : decode cc pc = .ok (.invokespecial idx, 3)) (kk : CW nL R p l e s m args below meth c D A Q ce sn (pc + 3) lv [] ws) : CW nL R p l e s m args below meth c D A Q ce sn pc lv [.ref x] ws := by
  intro H locs ls hP hD hS hl
  refine W.objInit F.1.1 F.1.2.1 F.1.2.2.2.1 (F.1.2.2.2.2 _ hw) (F.1.2.2.2.2 _ ob_1) (F.1.2.2.2.2 _ ob_2) rfl (by rw [F.1.2.2.1]; exact hl.1) rfl hd hR.1 hR.2 ?_
  exact W.eq (g2 := F0 m (pc + 3) ls []) rfl (kk H locs ls hP hD hS hl)
theorem cw_newa (F : FX p s m args meth c D cI cZ cB A own cc nL ret) {atype : ArrayType} {ty : FieldType} (hty : newarray.typeOf atype = ty) (kx : Nat) {cX : ClassId} (hkx : (tyl cI cZ cB)[kx]? = some (cX, ty)) (hRA : ∀ a, va_RA s a ty → s.vm.findClass ("[" ++ ty.toString) = some a) (harr : Cond.arrayClass ty ∈ tbg) (hdef : defaultValue ty = .int 0) {n : Nat} {v : Int32} (hn : ¬ v < 0) (hN : v.toNatClampNeg = n) (hb : n * componentBytes ty ≤ 536870912) (hcs : ce + 1 ≤ R.cells ∧ sn + n ≤ R.slots) (hd : decode cc pc = .ok (.newarray atype, 2))
    (kk : ∀ q, CW nL R p l e s m args below meth c D A Q (ce + 1) (sn + n) (pc + 2) lv (.ref q :: stk) (ws ++ [(q, .inl (cX, n, .inl (fun _ => 0)))])) : CW nL R p l e s m args below meth c D A Q ce sn pc lv (.int v :: stk) ws := by
  subst hty
  intro H locs ls hP hD hS hl
  refine va_newa (atype := atype) (n := v) (N' := n) (a0 := (n, .inl (fun _ => 0))) F.1.1 F.1.2.1 (F.1.2.2.2.2 _ harr) rfl F.2.2.1 hP hD hS F.2.2.2 (fun cA => by rw [hdef]; rfl) hn hN hb hcs.1 hcs.2 hd (fun q cA H1 hK1 hP1 hD1 hS1 => ?_)
  have eA : cA = cX := by
    have a := hRA _ (hK1.2 kx (cX, _) (by rw [List.getElem?_append_left (List.getElem?_eq_some_iff.mp hkx).1]; exact hkx)).2
    have b := hRA _ (hK1.2 3 (cA, _) rfl).2
    exact Option.some.inj (b.symm.trans a)
  subst eA
  exact kk q H1 locs ls hP1 hD1 hS1 hl
theorem cw_putF (F : FX p s m args meth c D cI cZ cB A own cc nL ret) {ci j n index x : Nat} {T : u_T} {ty : Nat → FieldType} {fs : List Value} {v : Value} (ok : okC ci own T n ty) (hin : meth.name = "<init>") (hj : j < n) (hw : Cond.fieldLink own index (T j).1 (T j).2.1 (T j).2.2.1 ∈ tbg) (hfin : (T j).2.2.2 = true) (hdecl : (T j).1 = own) (hn : narrow (ty j) v = v) (hfit : fits (ty j) v = true) (hl : j < fs.length) (hd : decode cc pc = .ok (.putfield index, 3))
    (kk : CW nL R p l e s m args below meth c D A Q ce sn (pc + 3) lv stk ((x, .inr (ci, fs.set j v)) :: ws)) : CW nL R p l e s m args below meth c D A Q ce sn pc lv (v :: .ref x :: stk) ((x, .inr (ci, fs)) :: ws) := by
  intro H locs ls hP hD hS hlv
  exact va_putF (v := v) (ty := ty j) F.1.1 F.1.2.1 F.1.2.2.2.2 ok.2.1 ty ok.2.2.1 ok.2.2.2 F.1.2.2.2.1 F.2.2.1 hP hD hS 0 rfl ok.1 j hj (F.1.2.2.2.2 _ hw) (fun _ h => h) hfin hin hdecl (ok.2.2.1 j hj) hn hfit hl hd (fun H1 locs1 hP1 hD1 hS1 => kk H1 locs1 ls hP1 hD1 hS1 hlv)
theorem cw_put (F : FX p s m args meth c D cI cZ cB A own cc nL ret) {ci j n index x : Nat} {C : String} {T : u_T} {ty : Nat → FieldType} {fs : List Value} {v : Value} (ok : okC ci C T n ty) (hj : j < n) (hw : Cond.fieldLink own index (T j).1 (T j).2.1 (T j).2.2.1 ∈ tbg) (hfin : (T j).2.2.2 = false) (hn : narrow (ty j) v = v) (hfit : fits (ty j) v = true) (hl : j < fs.length) (hd : decode cc pc = .ok (.putfield index, 3))
    (kk : CW nL R p l e s m args below meth c D A Q ce sn (pc + 3) lv stk ((x, .inr (ci, fs.set j v)) :: ws)) : CW nL R p l e s m args below meth c D A Q ce sn pc lv (v :: .ref x :: stk) ((x, .inr (ci, fs)) :: ws) := by
  intro H locs ls hP hD hS hlv
  exact va_put (v := v) (ty := ty j) F.1.1 F.1.2.1 F.1.2.2.2.2 ok.2.1 ty ok.2.2.1 ok.2.2.2 F.1.2.2.2.1 F.2.2.1 hP hD hS 0 rfl ok.1 j hj (F.1.2.2.2.2 _ hw) (fun _ h => h) hfin (ok.2.2.1 j hj) hn hfit hl hd (fun H1 locs1 hP1 hD1 hS1 => kk H1 locs1 ls hP1 hD1 hS1 hlv)
theorem cw_get (F : FX p s m args meth c D cI cZ cB A own cc nL ret) {ci j n index x : Nat} {C : String} {T : u_T} {ty : Nat → FieldType} {fs : List Value} {v : Value} (ok : okC ci C T n ty) (hj : j < n) (hw : Cond.fieldLink own index (T j).1 (T j).2.1 (T j).2.2.1 ∈ tbg) (hv : fs[j]? = some v) (hd : decode cc pc = .ok (.getfield index, 3))
    (kk : CW nL R p l e s m args below meth c D A Q ce sn (pc + 3) lv (v :: stk) ((x, .inr (ci, fs)) :: ws)) : CW nL R p l e s m args below meth c D A Q ce sn pc lv (.ref x :: stk) ((x, .inr (ci, fs)) :: ws) := by
  intro H locs ls hP hD hS hlv
  exact va_get F.1.1 F.1.2.1 F.1.2.2.2.2 ok.2.1 F.1.2.2.2.1 F.2.2.1 hP 0 rfl ok.1 j hj (F.1.2.2.2.2 _ hw) (fun _ h => h) hv hd (kk H locs ls hP hD hS hlv)
theorem cw_new (F : FX p s m args meth c D cI cZ cB A own cc nL ret) {ci n index : Nat} {C : String} {T : u_T} {ty : Nat → FieldType} {fs : List Value} (ok : okC ci C T n ty) (hcl : Cond.classLink own index C ∈ tbg) (hi : Cond.instantiable C n ∈ tbg) (hini : Cond.initialized C ∈ tbg) (hfs : ∀ j, j < n → defaultValue (ty j) = vp_V fs j) (hcs : ce + 1 ≤ R.cells ∧ sn + n ≤ R.slots) (hd : decode cc pc = .ok (.new index, 3))
    (kk : ∀ q, CW nL R p l e s m args below meth c D A Q (ce + 1) (sn + n) (pc + 3) lv (.ref q :: stk) (ws ++ [(q, .inr (ci, fs))])) : CW nL R p l e s m args below meth c D A Q ce sn pc lv stk ws := by
  intro H locs ls hP hD hS hl
  exact va_new F.1.1 F.1.2.1 F.1.2.2.2.2 ok.2.1 ty ok.2.2.1 F.1.2.2.2.1 (F.1.2.2.2.2 _ hcl) (F.1.2.2.2.2 _ hi) (F.1.2.2.2.2 _ hini) F.2.2.1 hP hD hS F.2.2.2 ok.1 hfs hcs.1 hcs.2 hd (fun q H1 hP1 hD1 hS1 => kk q H1 locs ls hP1 hD1 hS1 hl)
theorem cw_behind {H : Heap} {locs : List Loc} {ls : Array Slot} {rm : Room} {e0 : va_E} {As st0 : List Value} {q : Nat} {res : ClassId → ClassId → ClassId → Nat → (Nat → Nat) → va_W} (F : FX p s m args meth c D cI cZ cB A own cc nL ret)
    (hr : va_Run p l e R s m args below meth c H locs ce sn rm.cells rm.slots (F0 m pc ls st0) stk (va_Qv (fun _ : Nat → Nat => True) (fun u t => va_P D vwCl (res cI cZ cB q u) t.heap ∧ va_D (va_A [(q, e0)] H.size) (res cI cZ cB q u)) (va_A [(q, e0)] H.size) (Value.ref q :: As).toArray) (va_A [(q, e0)] H.size))
    (hP : va_P D vwCl (ws ++ [(q, e0)]) H) (hD : va_D A (ws ++ [(q, e0)])) (hS : va_S A s.heap H locs) (hl : lv_has ls nL lv)
    (kk : ∀ u, CW nL R p l e s m args below meth c D A Q (ce + rm.cells) (sn + rm.slots) (pc + 3) lv stk (ws ++ res cI cZ cB q u)) : W p l e R s m args below meth c H locs ce sn Q (F0 m pc ls st0) := by
  have hA2 : ∀ q, H.size ≤ q → A q := fun q h => F.2.2.2 q (Nat.le_trans hS.1 h)
  have hP2 := P_sw hP
  have hD2 := D_sw hD
  have hF : ∀ q1, va_A [(q, e0)] H.size q1 → A q1 := by
    intro q1 h
    rcases h with ⟨k, e, h⟩ | h
    · exact (D_l hD2).2 k _ h
    · exact hA2 q1 h
  refine va_callv hr hS (fun q _ h => hF q h) hF (fun u t H1 locs1 ht hvm hp hB hz1 hk1 hS1 => ?_)
  obtain ⟨j1, j2⟩ := jnw hP2 hD2 hA2 (by rw [← ht]; exact hB.1) hB.2 hk1
  exact kk u H1 locs1 ls (P_sw j1) (D_sw j2) hS1 hl
theorem cw_call (F : FX p s m args meth c D cI cZ cB A own cc nL ret) {y : MethodName} {bytes : ByteArray} {maxL index n : Nat} {rm : Room} {e0 : va_E} {As st0 : List Value} {q : Nat} {res : ClassId → ClassId → ClassId → Nat → (Nat → Nat) → va_W}
    (hw : okI own index y bytes maxL n) (hd : decode cc pc = .ok (.invokespecial index, 3)) (hc : CnI y bytes maxL rm e0 As res) (hrm : rm.frames + 1 ≤ R.frames ∧ 8 + (maxL + 11) + rm.locals ≤ R.locals) (hcs : ce + rm.cells ≤ R.cells ∧ sn + rm.slots ≤ R.slots) (hn : As.length = n) (h8 : (stk.map fun v => v.category).sum ≤ 8) (hst : st0 = As.reverse ++ .ref q :: stk)
    (kk : ∀ u, CW nL R p l e s m args below meth c D A Q (ce + rm.cells) (sn + rm.slots) (pc + 3) lv stk (ws ++ res cI cZ cB q u)) : CW nL R p l e s m args below meth c D A Q ce sn pc lv st0 (ws ++ [(q, e0)]) := by
  intro H locs ls hP hD hS hl
  subst hst
  have hP1 := P_r hP
  have hD1 := D_r hD
  exact cw_behind F (va_runI (As := As) (rest := stk) (g := F0 m pc ls (As.reverse ++ .ref q :: stk)) ⟨F.1.1, F.1.2.1, F.1.2.2.1, F.1.2.2.2.1, F.1.2.2.2.2⟩ (hc l D cI cZ cB q H.size) (cwI n F.1.2.2.2.2 (good_code hw.1.2.2.2) rfl rfl rfl (F.1.2.2.2.2 _ hw.1.2.2.1) (F.1.2.2.2.2 _ hw.1.1) (F.1.2.2.2.2 _ hw.1.2.1) hw.2.1 hw.2.2 hrm) ⟨fun a U g mk q => ⟨q.1, q.2.1, q.2.2.1.same rfl, q.2.2.2.1, va_K.moved (u := U) (U := U.calling g mk a) (Vm.Alike.refl U.vm) q.2.2.2.2.1, q.2.2.2.2.2⟩, fun U hU hW => ⟨rfl, by rw [hU], F.2.1.2.2.warm hW, by rw [hU]; exact hP1, va_K.moved hW.alike F.2.2.1, hD1.weaken (fun _ _ _ _ => trivial)⟩⟩ rfl hn hl.1 rfl (lv_room h8) hd hcs) hP hD hS hl kk
theorem cw_callN (F : FX p s m args meth c D cI cZ cB A own cc nL ret) {y : MethodName} {host : String} {bytes : ByteArray} {maxL index n : Nat} {rm : Room} {e0 : va_E} {As st0 : List Value} {q : Nat} {res : ClassId → ClassId → ClassId → Nat → (Nat → Nat) → va_W}
    (hw : okIN own index y host bytes maxL n) (hd : decode cc pc = .ok (.invokespecial index, 3)) (hc : CnI y bytes maxL rm e0 As res) (hrm : rm.frames + 1 ≤ R.frames ∧ 8 + (maxL + 11) + rm.locals ≤ R.locals) (hcs : ce + rm.cells ≤ R.cells ∧ sn + rm.slots ≤ R.slots) (hn : As.length = n) (h8 : (stk.map fun v => v.category).sum ≤ 8) (hst : st0 = As.reverse ++ .ref q :: stk)
    (kk : ∀ u, CW nL R p l e s m args below meth c D A Q (ce + rm.cells) (sn + rm.slots) (pc + 3) lv stk (ws ++ res cI cZ cB q u)) : CW nL R p l e s m args below meth c D A Q ce sn pc lv st0 (ws ++ [(q, e0)]) := by
  intro H locs ls hP hD hS hl
  subst hst
  have hP1 := P_r hP
  have hD1 := D_r hD
  exact cw_behind F (va_runIN (As := As) (rest := stk) (g := F0 m pc ls (As.reverse ++ .ref q :: stk)) ⟨F.1.1, F.1.2.1, F.1.2.2.1, F.1.2.2.2.1, F.1.2.2.2.2⟩ (hc l D cI cZ cB q H.size) ⟨va_cnB n F.1.2.2.2.2 (good_code hw.1.2.2.2) rfl rfl rfl (F.2.1.2.2 _ hw.1.1) (F.1.2.2.2.2 _ hw.1.2.2.1) hw.2.2 hrm, hw.2.1, F.1.2.2.2.2 _ hw.1.2.1⟩ ⟨fun a U g mk q => ⟨q.1, q.2.1, q.2.2.1.same rfl, q.2.2.2.1, va_K.moved (u := U) (U := U.calling g mk a) (Vm.Alike.refl U.vm) q.2.2.2.2.1, q.2.2.2.2.2⟩, fun U hU hW => ⟨rfl, by rw [hU], F.2.1.2.2.warm hW, by rw [hU]; exact hP1, va_K.moved hW.alike F.2.2.1, hD1.weaken (fun _ _ _ _ => trivial)⟩⟩ rfl hn hl.1 rfl (lv_room h8) hd hcs) hP hD hS hl kk
theorem cw_ret (F : FX p s m args meth c D cI cZ cB A own cc nL none) {f : (Nat → Nat) → va_W} (u : Nat → Nat) (hws : ws = f u) (hd : decode cc pc = .ok (.return_, 1)) : CW nL R p l e s m args below meth c D A (MQ below (va_Qv (fun _ : Nat → Nat => True) (fun u t => va_P D vwCl (f u) t.heap ∧ va_D A (f u)) A) args s ce sn A) ce sn pc lv [] ws := by
  intro H locs ls hP hD hS hl
  subst hws
  exact W.vret F.1.1 F.1.2.1 F.2.1.1 (fun t ht hW => ⟨⟨u, rfl, trivial, by rw [ht]; exact hP, hD⟩, hS.F ht⟩) hS.2.2 hd F.2.1.2.1
/-- from cells to numbers -/
theorem cw_kk {sh : Nat → Sh} {N : Nat} {ad : Nat → Nat} {M : Mem} {lv' : Lv} {stk' : List V} (hws : ws = wsOf sh N cI cZ cB ad M) (hlv : lv = lm ad lv') (hst : stk = stk'.map (vv ad)) (hM : Rg M) (kk : (∀ M, va_D A (wsOf sh N cI cZ cB ad M)) → KK sh N nL R p l e s m args below meth c D cI cZ cB ad A ce sn Q pc lv' stk' M) : CW nL R p l e s m args below meth c D A Q ce sn pc lv stk ws := by
  intro H locs ls hP hD hS hl
  subst hws; subst hlv; subst hst
  exact kk (fun M' => wsOf_D hD M') hM H locs ls hP hS hl
end CWR
theorem CnI_of {y : MethodName} {bytes : ByteArray} {maxL : Nat} {rm : Room} {e0 : va_E} {As : List Value} {res : ClassId → ClassId → ClassId → Nat → (Nat → Nat) → va_W} (hy : plainName y.cls = true) (hin : y.name = "<init>") (hlen : ∀ q, (lg_sl (Value.ref q :: As)).length ≤ maxL)
    (body : ∀ (p : Program) (l : Launch) (e : Env) (s : State) (m : MethodId) (below : List Frame) (meth : Method) (c : Code) (D : va_G) (cI cZ cB : ClassId) (q : Nat) (A : Nat → Prop), FX p s m (Value.ref q :: As).toArray meth c D cI cZ cB A y.cls bytes maxL none → meth.name = "<init>" → CW maxL rm p l e s m (Value.ref q :: As).toArray below meth c D A (MQ below (va_Qv (fun _ : Nat → Nat => True) (fun u t => va_P D vwCl (res cI cZ cB q u) t.heap ∧ va_D A (res cI cZ cB q u)) A) (Value.ref q :: As).toArray s rm.cells rm.slots A) 0 0 0 (lv_args 0 (.ref q :: As)) [] [(q, e0)]) : CnI y bytes maxL rm e0 As res := by
  intro l D cI cZ cB q sz
  refine Met.ofW (cc := bytes) (maxL := maxL) (ret := none) hy rfl ?_
  intro p e s m vs below meth c s₁ B hml hv
  obtain ⟨rfl, hsz, hns, hP, hK, hD0⟩ := hv
  have hts := atoms_spec (ws := .code y bytes maxL none :: tbg) B.pre
  have hown : s.vm.findClass y.cls = some m.cls := findClass_of_methodNamed B.named
  have hnm : meth.name = "<init>" := (name_of_methodNamed B.named B.method).1.trans hin
  subst hsz
  have hl := lv_entry (Value.ref q :: As) (n := maxL) (hlen q)
  rw [lg_entry_eq]
  exact body p l e s m below meth c D cI cZ cB q (va_A [(q, e0)] s.heap.size) ⟨⟨B.exec, B.bytes, hml, hown, fun w hw => hts w (List.mem_cons_of_mem _ hw)⟩, ⟨B.returns, B.notSynchronized, hns⟩, hK, fun q h => Or.inr h⟩ hnm s.heap [] _ hP hD0.self va_S.rf hl
