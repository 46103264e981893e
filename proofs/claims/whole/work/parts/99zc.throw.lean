/-! A THROW FROM ANY POINT OF A WALK -/
def reb (s T : State) : State := ({ s with heap := T.heap, slotsUsed := T.slotsUsed } : State).setVm T.vm
theorem same_nil {s s' : State} {k n : Nat} (h : s.sameButNew s' [] k n) {q : Nat} (hq : q < s.heap.size) : s'.heap[q]? = s.heap[q]? := by
  have hc : s.heap[q]? = some s.heap[q] := Array.getElem?_eq_getElem hq
  obtain ⟨c', h1, h2, h3, h4⟩ := h.2.2.2.2.2 q _ hc
  have e : c'.slots = s.heap[q].slots := Array.ext_getElem? (fun i => h4 i List.not_mem_nil)
  have e2 : c' = s.heap[q] := by rw [h2, e]
  rw [h1, hc, e2]
section ST
variable {p : Program} {l : Launch} {e : Env} {R : Room} {s : State} {m : MethodId} {args : Array Value} {below : List Frame} {meth : Method} {c : Code} {T : State} {locs : List Loc} {cells slots : Nat}
/-- the same walk, looked at from here on -/
theorem st_re (X : Stand p l e R s m args below meth c T locs cells slots) (hc : cells ≤ R.cells) (hs : slots ≤ R.slots) : Stand p l e { frames := R.frames, cells := R.cells - cells, slots := R.slots - slots, locals := R.locals } (reb s T) m args below meth c T [] 0 0 := by
  have hm : T.vm.method? m = some meth := X.method'
  have al := X.warmed.alike
  refine ⟨X.admits, X.cas, X.clock, X.frames, ?_, ?_, hm, X.code, X.here, X.tail, State.WarmedH.refl (reb s T), X.limits, X.bytes, ?_⟩
  · have r := X.room
    have e1 : (reb s T).localsInUse = s.localsInUse := by
      rw [State.localsInUse_invoking (s := reb s T) X.frames hm X.code, State.localsInUse_invoking X.frames X.method X.code]
    have hz := X.heapSize
    have hu := X.used
    have hb := X.book
    simp only [State.hasRoom, Bool.and_eq_true, decide_eq_true_eq] at r ⊢
    rw [e1]
    obtain ⟨⟨⟨⟨r1, r2⟩, r3⟩, r4⟩, r5⟩ := r
    refine ⟨⟨⟨⟨r1, r2⟩, ?_⟩, ?_⟩, hb⟩
    · show T.heap.size + (R.cells - cells) ≤ e.platform.maxCells
      omega
    · show T.slotsUsed + (R.slots - slots) ≤ e.platform.maxSlots
      omega
  · have h := X.hears
    cases below with
    | nil =>
      have h2 : (s.vm.method? m).any (·.sig.returnType.isNone) = true := h
      show (T.vm.method? m).any (·.sig.returnType.isNone) = true
      rw [hm]; rw [X.method] at h2; exact h2
    | cons f b =>
      cases f with
      | java g =>
        have h2 : ((s.code? g.method).bind fun c => (decode c.code g.pc).toOption).isSome = true := h
        show (((reb s T).code? g.method).bind fun c => (decode c.code g.pc).toOption).isSome = true
        rw [State.code?_eq] at h2 ⊢
        have em : (reb s T).vm.method? g.method = s.vm.method? g.method := al.method? g.method
        rw [em]; exact h2
      | native _ => rfl
      | proc _ => rfl
      | _ =>
        have h2 : (s.vm.method? m).any (·.sig.returnType.isNone) = true := h
        show (T.vm.method? m).any (·.sig.returnType.isNone) = true
        rw [hm]; rw [X.method] at h2; exact h2
  · refine ⟨?_, Nat.le_refl _, Nat.le_refl _, ?_, ?_, fun a c h => ⟨c, h, rfl, rfl, fun _ _ => rfl⟩⟩
    · exact congrArg (fun z : State => z.setVm T.vm) X.same.1
    · show T.slotsUsed = T.slotsUsed + ((T.heap.toList.drop T.heap.size).map (·.slots.size)).sum
      rw [List.drop_of_length_le (by simp)]; rfl
    · show ((T.heap.toList.drop T.heap.size).map (·.slots.size)).sum ≤ 0
      rw [List.drop_of_length_le (by simp)]; exact Nat.le_refl _
theorem st_back (X : Stand p l e R s m args below meth c T locs cells slots) {U : State} {k n : Nat} (h : (reb s T).sameButNew ({ U with vm := (reb s T).vm } : State) [] k n) : s.sameButNew ({ U with vm := s.vm } : State) locs (cells + k) (slots + n) := by
  have g : (T.setVm s.vm).sameButNew ({ U with vm := s.vm } : State) [] k n := by
    refine ⟨?_, h.2.1, h.2.2.1, h.2.2.2.1, h.2.2.2.2.1, h.2.2.2.2.2⟩
    have a1 := congrArg (fun z : State => z.setVm s.vm) h.1
    refine a1.trans ?_
    have e : T.setVm s.vm = { s.setFrames T.frames with heap := T.heap, slotsUsed := T.slotsUsed } := X.same.1
    have e2 : (T.setVm s.vm).setFrames U.frames = { (s.setFrames T.frames).setFrames U.frames with heap := T.heap, slotsUsed := T.slotsUsed } := by rw [e]; rfl
    show _ = { (T.setVm s.vm).setFrames U.frames with heap := U.heap, slotsUsed := U.slotsUsed }
    rw [e2, State.setFrames_setFrames]
    rfl
  have r := X.same.trans g
  rw [List.append_nil] at r
  exact r
end ST
theorem at_ns {D : va_G} {q : Nat × va_E} {H : Heap} (h : va_at D vwCl q H) {cell : Cell} (hc : H[q.1]? = some cell) : cell.vm.isStatics = false := by
  obtain ⟨a, e⟩ := q
  cases e with
  | inl x =>
    have h2 : H[a]? = some (vp_cell x.1 x.2) := h
    have e : cell = vp_cell x.1 x.2 := Option.some.inj (hc.symm.trans h2)
    rw [e]
    unfold vp_cell
    split <;> rfl
  | inr o =>
    obtain ⟨r, h1, c2, h2, h3, h4, h5⟩ := h
    have e : cell = c2 := Option.some.inj (hc.symm.trans h2)
    rw [e, h4]; rfl
/-- statics are no cells of the world -/
theorem st_apart {D : va_G} {ws : va_W} {s : State} (hP : va_P D vwCl ws s.heap) {q : Addr} {cell : Cell} (hc : s.heap[q]? = some cell) (hs : cell.vm.isStatics = true) : ¬ va_A ws s.heap.size q := by
  intro h
  rcases h with ⟨k, e, h⟩ | h
  · have := at_ns (hP k _ h) hc
    rw [hs] at this; cases this
  · have := (Array.getElem?_eq_some_iff.mp hc).1
    omega
/-- the end of a method that has thrown -/
def thQ (sh : Nat → Sh) (N : Nat) (D : va_G) (cI cZ cB : ClassId) (ad : Nat → Nat) (A : Nat → Prop) (X : String) (M : Mem) (s t : State) (x : Addr) (mc ms : Nat) : Prop :=
  ∃ (ce : Cell) (L : List Loc), s.WarmedH t.vm ∧ s.sameButNew ({ t with vm := s.vm } : State) L mc ms ∧ (∀ q ∈ L, A q.base) ∧ t.heap[x]? = some ce ∧ ce.vm = .none ∧ s.vm.findClass X = some ce.cls ∧ s.heap.size ≤ x ∧ wd sh N D cI cZ cB ad A M t ∧ va_F A s t
def thE (sh : Nat → Sh) (N : Nat) (D : va_G) (cI cZ cB : ClassId) (ad : Nat → Nat) (A : Nat → Prop) (X : String) (M : Mem) (s : State) (below : List Frame) (mc ms : Nat) : State → Prop :=
  fun t => ∃ x, t.status = .running ∧ Ended t below (.threw x) ∧ thQ sh N D cI cZ cB ad A X M s t x mc ms
/-- which exception, by which pool numbers -/
def okX (X : String) (inew ic : Nat) : Prop := (∀ w ∈ Bundle.ownAtoms RX10 ic X xNs, w ∈ twl ∨ w ∈ tbg) ∧ Bundle.fit X = true ∧ Cond.classLink RX10 inew X ∈ tbg ∧ Cond.instantiable X 6 ∈ tbg ∧ Cond.initialized X ∈ tbg
section GT
variable {p : Program} {l : Launch} {e : Env} {s : State} {m : MethodId} {args : Array Value} {below : List Frame} {meth : Method} {c : Code} {D : va_G} {cI cZ cB : ClassId} {A : Nat → Prop} {cc : ByteArray} {nL : Nat} {ret : Option FieldType} {R : Room}
variable {sh : Nat → Sh} {N : Nat} {ad : Nat → Nat} {ce sn pc : Nat} {lv : Lv} {stk : List V} {M : Mem}
theorem gx_throw (F : FX p s m args meth c D cI cZ cB A RX10 cc nL ret) (hD : ∀ M, va_D A (wsOf sh N cI cZ cB ad M)) (hE : c.exceptionTable.isEmpty = true) (htr : e.platform.stackTraces = false) (hT : ThW s) (hcs : ce + 1 ≤ R.cells ∧ sn + 6 ≤ R.slots) (hR : 6 ≤ R.frames ∧ 200 ≤ R.locals) (hst : ∀ (q : Addr) (cell : Cell), s.heap[q]? = some cell → cell.vm.isStatics = true → ¬ A q)
    {X tx : String} {inew ix ic : Nat} (hX : okX X inew ic) (hq : (ix, tx) ∈ strs) (d0 : decode cc pc = .ok (.new inew, 3)) (d3 : decode cc (pc + 3) = .ok (.dup, 1)) (d4 : decode cc (pc + 4) = .ok (.ldc ix, 2)) (d6 : decode cc (pc + 6) = .ok (.invokespecial ic, 3)) (d9 : decode cc (pc + 9) = .ok (.athrow, 1)) (h8 : stk.length ≤ 8) :
    KK sh N nL R p l e s m args below meth c D cI cZ cB ad A ce sn (thE sh N D cI cZ cB ad A X M s below (ce + 1) (sn + 6)) pc lv stk M := by
  obtain ⟨⟨hx, hb, hml, hown, hts⟩, ⟨hr, hlk, hns⟩, hK, hA⟩ := F
  obtain ⟨o1, o2, o3, o4, o5⟩ := hX
  intro hM H locs ls hP hS hl T hTH X1
  have X2 := st_re X1 (by omega) (by omega)
  have hW := X1.warmed
  have hT1 : ThW (reb s T) := hT.keep (U := reb s T) hW (fun q cell h1 h2 => by
    show T.heap[q]? = some cell
    rw [hTH, hS.2.1 q (Array.getElem?_eq_some_iff.mp h1).1 (hst q cell h1 h2)]; exact h1)
  have hts1 : ∀ w ∈ tbg, w.before args (reb s T) = true := fun w hw => word_at (U := reb s T) hW (good_of_word (List.all_eq_true.mp tbl_good w hw)) (hts w hw)
  have own1 : (reb s T).vm.findClass RX10 = some m.cls := by
    show T.vm.findClass RX10 = some m.cls
    rw [hW.alike.findClass]; exact hown
  obtain ⟨sa, hsa⟩ := hT1.2.1 _ hq
  have key : W p l e { frames := R.frames, cells := R.cells - ce, slots := R.slots - sn, locals := R.locals } (reb s T) m args below meth c T.heap [] 0 0 (thE sh N D cI cZ cB ad A X M s below (ce + 1) (sn + 6)) (F0 m pc ls (stk.map (vv ad))) := by
    refine W.newc hx hb own1 (hts1 _ o3) (hts1 _ o4) (hts1 _ o5) rfl d0 (by show 0 + 1 ≤ R.cells - ce; omega) (by show 0 + 6 ≤ R.slots - sn; omega) (fun cC kC f1 f2 f3 f4 => ?_)
    refine lv_dup (va := .ref T.heap.size) hx hb d3 rfl ?_
    refine va_ldcS hx hb own1 hsa d4 ?_
    intro T3 hT3 X3
    have nohan : ∀ x ∈ c.exceptionTable.toList, covers x (pc + 6 + 3) = false := fun x hx => by
      rw [Array.isEmpty_iff.mp hE] at hx
      exact absurd hx List.not_mem_nil
    obtain ⟨U, u1, u2, u3, u4, u5, cex, u6, u7⟩ := X3.ctorThrowS hx htr own1 o2 (names := xNs) (ic := ic) (by decide +kernel) (hT1.at o1 hts1) (fun x hx => absurd hx List.not_mem_nil) f1 f2 (a := T.heap.size) (by rw [hT3]; exact Array.getElem?_push_size) (Nat.le_refl _) (msg := .ref sa) rfl (g := F0 m (pc + 6) ls (.ref sa :: .ref T.heap.size :: .ref T.heap.size :: stk.map (vv ad))) rfl (hl.1.trans hml.symm) rfl rfl (rest := stk.map (vv ad)) rfl (by rw [hb]; exact d6) (by rw [hb]; exact d9) nohan (by show 2 + 3 < R.frames; omega) (by
      have z := vvs_cat ad stk
      show 2 * 0 + (1 + ((stk.map (vv ad)).map fun v => v.category).sum) + (13 * (2 + 1) + 42) ≤ R.locals
      rw [z]; omega) hlk
    have old : ∀ q : Nat, q < H.size → U.heap[q]? = H[q]? := fun q hq => by
      have := same_nil u5 (q := q) (by show q < T.heap.size; rw [hTH]; exact hq)
      rw [← hTH]; exact this
    have hsz : H.size ≤ U.heap.size := by rw [← hTH]; exact u5.2.1
    refine ⟨U, u1, T.heap.size, u2, u3, cex, locs, State.WarmedH.trans hW u4, st_back X1 u5, hS.2.2, u6, u7.vm, ?_, by rw [hTH]; exact hS.1, ⟨hM, ?_, va_K.moved (State.WarmedH.trans hW u4).alike hK, hD M⟩, Nat.le_trans hS.1 hsz, fun q h1 h2 => ?_⟩
    · have := u7.cls
      rw [← hW.alike.findClass]; exact this
    · exact hP.kept (fun k q hk => old q.1 ((hP k q hk).lt))
    · rw [old q (Nat.lt_of_lt_of_le h1 hS.1)]; exact hS.2.1 q h1 h2
  exact key T rfl X2
end GT
