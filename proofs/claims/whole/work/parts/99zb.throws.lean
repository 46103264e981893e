/-! THROWS: the words that a throw needs -/
def xIA : String := "java/lang/IllegalArgumentException"
def xIO : String := "java/lang/IndexOutOfBoundsException"
def xNs : List String := ["java/lang/RuntimeException", "java/lang/Exception"]
/-- words that are not among the good ones -/
def twl : List Cond := [.declares (Bundle.initS "java/lang/RuntimeException"), .declares (Bundle.initS "java/lang/Exception"), .declares (Bundle.initS "java/lang/Throwable"), .castable xIA xIA, .castable xIO xIO, .laysStatic Bundle.tN "UNASSIGNED_STACK" Bundle.steD, .laysStatic Bundle.tN "SUPPRESSED_SENTINEL" Bundle.listD, .isRef (.static Bundle.tN "UNASSIGNED_STACK" Bundle.steD), .isRef (.static Bundle.tN "SUPPRESSED_SENTINEL" Bundle.listD)]
theorem tw_0 : Cond.declares (Bundle.initS "java/lang/RuntimeException") ∈ twl := List.mem_of_getElem? (i := 0) rfl
theorem tw_1 : Cond.declares (Bundle.initS "java/lang/Exception") ∈ twl := List.mem_of_getElem? (i := 1) rfl
theorem tw_2 : Cond.declares (Bundle.initS "java/lang/Throwable") ∈ twl := List.mem_of_getElem? (i := 2) rfl
theorem tw_3 : Cond.castable xIA xIA ∈ twl := List.mem_of_getElem? (i := 3) rfl
theorem tw_4 : Cond.castable xIO xIO ∈ twl := List.mem_of_getElem? (i := 4) rfl
theorem tw_5 : Cond.laysStatic Bundle.tN "UNASSIGNED_STACK" Bundle.steD ∈ twl := List.mem_of_getElem? (i := 5) rfl
theorem tw_6 : Cond.laysStatic Bundle.tN "SUPPRESSED_SENTINEL" Bundle.listD ∈ twl := List.mem_of_getElem? (i := 6) rfl
theorem tw_7 : Cond.isRef (.static Bundle.tN "UNASSIGNED_STACK" Bundle.steD) ∈ twl := List.mem_of_getElem? (i := 7) rfl
theorem tw_8 : Cond.isRef (.static Bundle.tN "SUPPRESSED_SENTINEL" Bundle.listD) ∈ twl := List.mem_of_getElem? (i := 8) rfl
set_option maxRecDepth 100000 in
theorem tw_T : ∀ w ∈ Bundle.throwableAtoms, w ∈ twl ∨ w ∈ tbg := List.forall_mem_cons.mpr ⟨Or.inr (in_1 15 (by decide +kernel) rfl), List.forall_mem_cons.mpr ⟨Or.inr (in_4 21 (by decide +kernel) rfl), List.forall_mem_cons.mpr ⟨Or.inr (in_4 30 (by decide +kernel) rfl), List.forall_mem_cons.mpr ⟨Or.inr (in_4 33 (by decide +kernel) rfl), List.forall_mem_cons.mpr ⟨Or.inr (in_4 36 (by decide +kernel) rfl), List.forall_mem_cons.mpr ⟨Or.inr (in_4 38 (by decide +kernel) rfl), List.forall_mem_cons.mpr ⟨Or.inr (in_4 22 (by decide +kernel) rfl), List.forall_mem_cons.mpr ⟨Or.inr (in_4 23 (by decide +kernel) rfl), List.forall_mem_cons.mpr ⟨Or.inr (in_1 26 (by decide +kernel) rfl), List.forall_mem_cons.mpr ⟨Or.inr (in_1 27 (by decide +kernel) rfl), List.forall_mem_cons.mpr ⟨Or.inr (in_4 24 (by decide +kernel) rfl), List.forall_mem_cons.mpr ⟨Or.inr (in_4 29 (by decide +kernel) rfl), List.forall_mem_cons.mpr ⟨Or.inr (in_4 34 (by decide +kernel) rfl), List.forall_mem_cons.mpr ⟨Or.inr (in_4 54 (by decide +kernel) rfl), List.forall_mem_cons.mpr ⟨Or.inr (in_4 11 (by decide +kernel) rfl), List.forall_mem_cons.mpr ⟨Or.inr (in_4 55 (by decide +kernel) rfl), List.forall_mem_cons.mpr ⟨Or.inr (in_4 13 (by decide +kernel) rfl), List.forall_mem_cons.mpr ⟨Or.inr (in_4 56 (by decide +kernel) rfl), List.forall_mem_cons.mpr ⟨Or.inr (in_4 15 (by decide +kernel) rfl), List.forall_mem_cons.mpr ⟨Or.inr (in_4 25 (by decide +kernel) rfl), List.forall_mem_cons.mpr ⟨Or.inl (tw_5), List.forall_mem_cons.mpr ⟨Or.inr (in_4 27 (by decide +kernel) rfl), List.forall_mem_cons.mpr ⟨Or.inl (tw_6), List.forall_mem_cons.mpr ⟨Or.inr (in_4 17 (by decide +kernel) rfl), fun _ h => absurd h List.not_mem_nil⟩⟩⟩⟩⟩⟩⟩⟩⟩⟩⟩⟩⟩⟩⟩⟩⟩⟩⟩⟩⟩⟩⟩⟩
set_option maxRecDepth 100000 in
theorem tw_S : ∀ w ∈ Bundle.throwableSAtoms, w ∈ twl ∨ w ∈ tbg := List.forall_mem_cons.mpr ⟨Or.inr (in_4 50 (by decide +kernel) rfl), List.forall_mem_cons.mpr ⟨Or.inr (in_4 51 (by decide +kernel) rfl), List.forall_mem_cons.mpr ⟨Or.inr (in_4 53 (by decide +kernel) rfl), List.forall_mem_cons.mpr ⟨Or.inr (in_4 17 (by decide +kernel) rfl), fun _ h => absurd h List.not_mem_nil⟩⟩⟩⟩
set_option maxRecDepth 100000 in
theorem tw_CA : ∀ w ∈ Bundle.chainSAtoms xIA xNs, w ∈ twl ∨ w ∈ tbg := by
  unfold xIA xNs
  exact List.forall_mem_append.mpr ⟨List.forall_mem_cons.mpr ⟨Or.inr (in_4 41 (by decide +kernel) rfl), List.forall_mem_cons.mpr ⟨Or.inr (in_4 42 (by decide +kernel) rfl), List.forall_mem_cons.mpr ⟨Or.inr (in_4 43 (by decide +kernel) rfl), List.forall_mem_cons.mpr ⟨Or.inr (in_4 44 (by decide +kernel) rfl), List.forall_mem_cons.mpr ⟨Or.inl (tw_0), fun _ h => absurd h List.not_mem_nil⟩⟩⟩⟩⟩, List.forall_mem_append.mpr ⟨List.forall_mem_cons.mpr ⟨Or.inr (in_4 44 (by decide +kernel) rfl), List.forall_mem_cons.mpr ⟨Or.inr (in_4 45 (by decide +kernel) rfl), List.forall_mem_cons.mpr ⟨Or.inr (in_4 46 (by decide +kernel) rfl), List.forall_mem_cons.mpr ⟨Or.inr (in_4 47 (by decide +kernel) rfl), List.forall_mem_cons.mpr ⟨Or.inl (tw_1), fun _ h => absurd h List.not_mem_nil⟩⟩⟩⟩⟩, List.forall_mem_cons.mpr ⟨Or.inr (in_4 47 (by decide +kernel) rfl), List.forall_mem_cons.mpr ⟨Or.inr (in_4 48 (by decide +kernel) rfl), List.forall_mem_cons.mpr ⟨Or.inr (in_4 49 (by decide +kernel) rfl), List.forall_mem_cons.mpr ⟨Or.inr (in_4 50 (by decide +kernel) rfl), List.forall_mem_cons.mpr ⟨Or.inl (tw_2), fun _ h => absurd h List.not_mem_nil⟩⟩⟩⟩⟩⟩⟩
set_option maxRecDepth 100000 in
theorem tw_A : ∀ w ∈ Bundle.ownAtoms RX10 100 xIA xNs, w ∈ twl ∨ w ∈ tbg := List.forall_mem_append.mpr ⟨List.forall_mem_append.mpr ⟨List.forall_mem_append.mpr ⟨tw_T, tw_S⟩, tw_CA⟩, List.forall_mem_cons.mpr ⟨Or.inr (in_4 40 (by decide +kernel) rfl), List.forall_mem_cons.mpr ⟨Or.inr (in_4 0 (by decide +kernel) rfl), List.forall_mem_cons.mpr ⟨Or.inl (tw_3), List.forall_mem_cons.mpr ⟨Or.inr (in_4 8 (by decide +kernel) rfl), List.forall_mem_cons.mpr ⟨Or.inr (in_4 9 (by decide +kernel) rfl), List.forall_mem_cons.mpr ⟨Or.inr (in_4 10 (by decide +kernel) rfl), List.forall_mem_cons.mpr ⟨Or.inr (in_4 12 (by decide +kernel) rfl), List.forall_mem_cons.mpr ⟨Or.inr (in_4 14 (by decide +kernel) rfl), List.forall_mem_cons.mpr ⟨Or.inr (in_4 16 (by decide +kernel) rfl), List.forall_mem_cons.mpr ⟨Or.inl (tw_7), List.forall_mem_cons.mpr ⟨Or.inl (tw_8), List.forall_mem_cons.mpr ⟨Or.inr (in_4 20 (by decide +kernel) rfl), List.forall_mem_cons.mpr ⟨Or.inr (in_4 19 (by decide +kernel) rfl), List.forall_mem_cons.mpr ⟨Or.inr (in_4 18 (by decide +kernel) rfl), fun _ h => absurd h List.not_mem_nil⟩⟩⟩⟩⟩⟩⟩⟩⟩⟩⟩⟩⟩⟩⟩
set_option maxRecDepth 100000 in
theorem tw_CO : ∀ w ∈ Bundle.chainSAtoms xIO xNs, w ∈ twl ∨ w ∈ tbg := by
  unfold xIO xNs
  exact List.forall_mem_append.mpr ⟨List.forall_mem_cons.mpr ⟨Or.inr (in_4 86 (by decide +kernel) rfl), List.forall_mem_cons.mpr ⟨Or.inr (in_4 87 (by decide +kernel) rfl), List.forall_mem_cons.mpr ⟨Or.inr (in_4 88 (by decide +kernel) rfl), List.forall_mem_cons.mpr ⟨Or.inr (in_4 44 (by decide +kernel) rfl), List.forall_mem_cons.mpr ⟨Or.inl (tw_0), fun _ h => absurd h List.not_mem_nil⟩⟩⟩⟩⟩, List.forall_mem_append.mpr ⟨List.forall_mem_cons.mpr ⟨Or.inr (in_4 44 (by decide +kernel) rfl), List.forall_mem_cons.mpr ⟨Or.inr (in_4 45 (by decide +kernel) rfl), List.forall_mem_cons.mpr ⟨Or.inr (in_4 46 (by decide +kernel) rfl), List.forall_mem_cons.mpr ⟨Or.inr (in_4 47 (by decide +kernel) rfl), List.forall_mem_cons.mpr ⟨Or.inl (tw_1), fun _ h => absurd h List.not_mem_nil⟩⟩⟩⟩⟩, List.forall_mem_cons.mpr ⟨Or.inr (in_4 47 (by decide +kernel) rfl), List.forall_mem_cons.mpr ⟨Or.inr (in_4 48 (by decide +kernel) rfl), List.forall_mem_cons.mpr ⟨Or.inr (in_4 49 (by decide +kernel) rfl), List.forall_mem_cons.mpr ⟨Or.inr (in_4 50 (by decide +kernel) rfl), List.forall_mem_cons.mpr ⟨Or.inl (tw_2), fun _ h => absurd h List.not_mem_nil⟩⟩⟩⟩⟩⟩⟩
set_option maxRecDepth 100000 in
theorem tw_O : ∀ w ∈ Bundle.ownAtoms RX10 128 xIO xNs, w ∈ twl ∨ w ∈ tbg := List.forall_mem_append.mpr ⟨List.forall_mem_append.mpr ⟨List.forall_mem_append.mpr ⟨tw_T, tw_S⟩, tw_CO⟩, List.forall_mem_cons.mpr ⟨Or.inr (in_4 85 (by decide +kernel) rfl), List.forall_mem_cons.mpr ⟨Or.inr (in_4 76 (by decide +kernel) rfl), List.forall_mem_cons.mpr ⟨Or.inl (tw_4), List.forall_mem_cons.mpr ⟨Or.inr (in_4 78 (by decide +kernel) rfl), List.forall_mem_cons.mpr ⟨Or.inr (in_4 32 (by decide +kernel) rfl), List.forall_mem_cons.mpr ⟨Or.inr (in_4 79 (by decide +kernel) rfl), List.forall_mem_cons.mpr ⟨Or.inr (in_4 80 (by decide +kernel) rfl), List.forall_mem_cons.mpr ⟨Or.inr (in_4 81 (by decide +kernel) rfl), List.forall_mem_cons.mpr ⟨Or.inr (in_4 82 (by decide +kernel) rfl), List.forall_mem_cons.mpr ⟨Or.inl (tw_7), List.forall_mem_cons.mpr ⟨Or.inl (tw_8), List.forall_mem_cons.mpr ⟨Or.inr (in_4 20 (by decide +kernel) rfl), List.forall_mem_cons.mpr ⟨Or.inr (in_4 19 (by decide +kernel) rfl), List.forall_mem_cons.mpr ⟨Or.inr (in_4 83 (by decide +kernel) rfl), fun _ h => absurd h List.not_mem_nil⟩⟩⟩⟩⟩⟩⟩⟩⟩⟩⟩⟩⟩⟩⟩
/-- what a throw needs of a state -/
def strs : List (Nat × String) := [(98, "no such call"), (126, "no such row was told"), (142, "no such what"), (226, "no such state"), (182, "the tape has not so many bytes")]
def ThW (U : State) : Prop := (∀ w ∈ twl, w.before #[] U = true) ∧ (∀ q ∈ strs, ∃ a, vk_R RX10 q.1 q.2 a U) ∧ ∃ a b, U.vm.findClass xIA = some a ∧ U.vm.findClass xIO = some b ∧ U.vm.assignable a b = false
theorem ls_move {A B : State} (hv : B.vm = A.vm) (hst : ∀ (q : Addr) (cell : Cell), A.heap[q]? = some cell → cell.vm.isStatics = true → B.heap[q]? = some cell) {o n d : String} {as bs : Array Value} (h : (Cond.laysStatic o n d).before as A = true) : (Cond.laysStatic o n d).before bs B = true := by
  have ef : B.fieldFound? o n d = A.fieldFound? o n d := by unfold State.fieldFound?; rw [hv]
  simp only [Cond.before, Cond.holds, Cond.value] at h ⊢
  rw [hv, ef]
  cases h1 : A.vm.findClass o with
  | none => rw [h1] at h; simp at h
  | some c =>
    cases h2 : A.fieldFound? o n d with
    | none => rw [h1, h2] at h; simp at h
    | some x =>
      obtain ⟨c', k, i, f⟩ := x
      rw [h1, h2] at h
      cases h3 : k.statics with
      | none => simp [h3] at h
      | some a =>
        cases h4 : A.heap[a]? with
        | none => simp [h3, h4] at h
        | some cell =>
          simp [h3, h4] at h
          have h5 := hst a cell h4 h.1.1.1.2
          simp [h3, h5, h]
theorem ir_move {A B : State} (hv : B.vm = A.vm) (hst : ∀ (q : Addr) (cell : Cell), A.heap[q]? = some cell → cell.vm.isStatics = true → B.heap[q]? = some cell) {o n d : String} {as bs : Array Value} (h : (Cond.isRef (.static o n d)).before as A = true) : (Cond.isRef (.static o n d)).before bs B = true := by
  have ef : B.fieldFound? o n d = A.fieldFound? o n d := by unfold State.fieldFound?; rw [hv]
  have en : B.fieldNamed? o n d true = A.fieldNamed? o n d true := by unfold State.fieldNamed?; rw [ef]
  simp only [Cond.before, Cond.holds, Cond.value, Term.eval] at h ⊢
  rw [en]
  cases h1 : A.fieldNamed? o n d true with
  | none => rw [h1] at h; simp at h
  | some x =>
    obtain ⟨c, k, sl⟩ := x
    rw [h1] at h
    cases h3 : k.statics with
    | none => simp [h3] at h
    | some a =>
      cases h4 : A.heap[a]? with
      | none => simp [h3, h4] at h
      | some cell =>
        cases h6 : cell.vm.isStatics with
        | false => simp [h3, h4, h6] at h
        | true =>
          have h5 := hst a cell h4 h6
          simp [h3, h4, h6] at h
          simp [h3, h5, h6, h]
theorem wm_move {s U : State} (hW : s.WarmedH U.vm) {w : Cond} (h1 : w.warmOk s) (h2 : w.onTables = true) (h : w.before #[] s = true) : w.before #[] U = true := by
  have a := Cond.before_warmed hW w h1 h
  rw [Cond.onTables_vm (A' := #[]) (U' := U) U.vm w h2, State.setVm_self] at a
  exact a
theorem ThW.keep {s U : State} (h : ThW s) (hW : s.WarmedH U.vm) (hst : ∀ (q : Addr) (cell : Cell), s.heap[q]? = some cell → cell.vm.isStatics = true → U.heap[q]? = some cell) : ThW U := by
  refine ⟨?_, fun q hq => ?_, ?_⟩
  · have g := h.1
    have m : ∀ w, w ∈ twl → w.before #[] s = true := g
    have sh : ∀ w, w ∈ twl → w.keeps = true → w.before #[] (s.setVm U.vm) = true := fun w hw hk => Cond.holds_shifted (State.Shifted.of_warmed hW) w [] hk (m w hw)
    exact List.forall_mem_cons.mpr ⟨wm_move hW trivial rfl (m _ tw_0), List.forall_mem_cons.mpr ⟨wm_move hW trivial rfl (m _ tw_1), List.forall_mem_cons.mpr ⟨wm_move hW trivial rfl (m _ tw_2), List.forall_mem_cons.mpr ⟨wm_move hW trivial rfl (m _ tw_3), List.forall_mem_cons.mpr ⟨wm_move hW trivial rfl (m _ tw_4), List.forall_mem_cons.mpr ⟨ls_move (A := s.setVm U.vm) (B := U) rfl hst (sh _ tw_5 rfl), List.forall_mem_cons.mpr ⟨ls_move (A := s.setVm U.vm) (B := U) rfl hst (sh _ tw_6 rfl), List.forall_mem_cons.mpr ⟨ir_move (A := s.setVm U.vm) (B := U) rfl hst (sh _ tw_7 rfl), List.forall_mem_cons.mpr ⟨ir_move (A := s.setVm U.vm) (B := U) rfl hst (sh _ tw_8 rfl), fun _ h => absurd h List.not_mem_nil⟩⟩⟩⟩⟩⟩⟩⟩⟩
  · obtain ⟨a, ha⟩ := h.2.1 q hq
    exact ⟨a, vk_R.warm hW ha⟩
  · obtain ⟨a, b, h1, h2, h3⟩ := h.2.2
    exact ⟨a, b, by rw [hW.alike.findClass]; exact h1, by rw [hW.alike.findClass]; exact h2, by rw [hW.alike.assignable]; exact h3⟩
theorem ThW.same {s U : State} (h : ThW s) (hv : U.vm = s.vm) (hh : U.heap = s.heap) : ThW U := h.keep (by rw [hv]; exact State.WarmedH.refl s) (fun q cell a _ => by rw [hh]; exact a)
theorem ThW.at {s : State} (h : ThW s) {args : Array Value} {ic : Nat} {X : String} (g : ∀ w ∈ Bundle.ownAtoms RX10 ic X xNs, w ∈ twl ∨ w ∈ tbg) (hts : ∀ w ∈ tbg, w.before args s = true) : ∀ w ∈ Bundle.ownAtoms RX10 ic X xNs, w.before args s = true := by
  intro w hw
  rcases g w hw with a | a
  · have b := h.1 w a
    have one : ∀ w ∈ twl, w.before #[] s = true → w.before args s = true := List.forall_mem_cons.mpr ⟨fun h => h, List.forall_mem_cons.mpr ⟨fun h => h, List.forall_mem_cons.mpr ⟨fun h => h, List.forall_mem_cons.mpr ⟨fun h => h, List.forall_mem_cons.mpr ⟨fun h => h, List.forall_mem_cons.mpr ⟨fun h => h, List.forall_mem_cons.mpr ⟨fun h => h, List.forall_mem_cons.mpr ⟨fun h => h, List.forall_mem_cons.mpr ⟨fun h => h, fun _ h => absurd h List.not_mem_nil⟩⟩⟩⟩⟩⟩⟩⟩⟩
    exact one w a b
  · exact hts w a
