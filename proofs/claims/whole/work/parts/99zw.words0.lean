/-! THE START: the words that the tables and the start give -/
set_option maxRecDepth 100000 in
theorem tb_t {w : Cond} (h : w ∈ tables_1) : w ∈ lw_tbl := List.mem_append_right _ h
set_option maxRecDepth 100000 in
theorem tb_1 {w : Cond} (i : Nat) (h : tables_1_1[i]? = some w) : w ∈ lw_tbl := tb_t (List.mem_append_left _ (List.mem_of_getElem? h))
set_option maxRecDepth 100000 in
theorem tb_2 {w : Cond} (i : Nat) (h : tables_1_2[i]? = some w) : w ∈ lw_tbl := tb_t (List.mem_append_right _ (List.mem_append_left _ (List.mem_of_getElem? h)))
set_option maxRecDepth 100000 in
theorem tb_3 {w : Cond} (i : Nat) (h : tables_1_3[i]? = some w) : w ∈ lw_tbl := tb_t (List.mem_append_right _ (List.mem_append_right _ (List.mem_append_left _ (List.mem_of_getElem? h))))
set_option maxRecDepth 100000 in
theorem tb_4 {w : Cond} (i : Nat) (h : tables_1_4[i]? = some w) : w ∈ lw_tbl := tb_t (List.mem_append_right _ (List.mem_append_right _ (List.mem_append_right _ (List.mem_append_left _ (List.mem_of_getElem? h)))))
set_option maxRecDepth 100000 in
theorem tb_5 {w : Cond} (i : Nat) (h : tables_1_5[i]? = some w) : w ∈ lw_tbl := tb_t (List.mem_append_right _ (List.mem_append_right _ (List.mem_append_right _ (List.mem_append_right _ (List.mem_append_left _ (List.mem_of_getElem? h))))))
set_option maxRecDepth 100000 in
theorem tb_6 {w : Cond} (i : Nat) (h : tables_1_6[i]? = some w) : w ∈ lw_tbl := tb_t (List.mem_append_right _ (List.mem_append_right _ (List.mem_append_right _ (List.mem_append_right _ (List.mem_append_right _ (List.mem_of_getElem? h))))))
set_option maxRecDepth 100000 in
theorem NS_of {s : State} {args : Array Value} (hts : ∀ w ∈ lw_tbl, w.before args s = true) : NS s := by
  unfold NS nst
  exact List.forall_mem_cons.mpr ⟨va_Nw.of rfl (hts _ (tb_1 52 (by decide +kernel))), List.forall_mem_cons.mpr ⟨va_Nw.of rfl (hts _ (tb_1 214 (by decide +kernel))), List.forall_mem_cons.mpr ⟨va_Nw.of rfl (hts _ (tb_3 94 (by decide +kernel))), List.forall_mem_cons.mpr ⟨va_Nw.of rfl (hts _ (tb_4 174 (by decide +kernel))), List.forall_mem_cons.mpr ⟨va_Nw.of rfl (hts _ (tb_3 42 (by decide +kernel))), List.forall_mem_cons.mpr ⟨va_Nw.of rfl (hts _ (tb_3 158 (by decide +kernel))), List.forall_mem_cons.mpr ⟨va_Nw.of rfl (hts _ (tb_2 195 (by decide +kernel))), List.forall_mem_nil _⟩⟩⟩⟩⟩⟩⟩
theorem str_of {own tx : String} {k : Nat} {args : Array Value} {s : State} (h1 : (Cond.stringRef own k tx).before args s = true) (h2 : (Cond.exactly (.string own k) "java/lang/String").before args s = true) : ∃ a, vk_R own k tx a s := by
  obtain ⟨a, -, -, -, h, -⟩ := Cond.exactly_spec h2
  exact ⟨a, vk_R.of h1 h⟩
theorem nca_of {args : Array Value} {s : State} {x y : String} (h : (Cond.not (.castable x y)).before args s = true) : ∃ a b, s.vm.findClass x = some a ∧ s.vm.findClass y = some b ∧ s.vm.assignable a b = false := by
  simp only [Cond.before, Cond.holds, Cond.value] at h
  cases h1 : s.vm.findClass x with
  | none => rw [h1] at h; simp at h
  | some a =>
    cases h2 : s.vm.findClass y with
    | none => rw [h1, h2] at h; simp at h
    | some b =>
      rw [h1, h2] at h
      exact ⟨a, b, rfl, rfl, by simpa using h⟩
set_option maxRecDepth 100000 in
theorem ThW_of {s : State} {args : Array Value} (hts : ∀ w ∈ lw_tbl, w.before args s = true) (hgv : (Jvm.Cond.and given_1 narrow_1).before args s = true) : ThW s := by
  have hg := flat_of_before _ hgv
  refine ⟨?_, ?_, nca_of (hg (.not (.castable "java/lang/IllegalArgumentException" "java/lang/IndexOutOfBoundsException")) (by decide +kernel))⟩
  · unfold twl
    exact List.forall_mem_cons.mpr ⟨va_Nw.of rfl (hts _ (tb_4 3 (by decide +kernel))), List.forall_mem_cons.mpr ⟨va_Nw.of rfl (hts _ (tb_4 5 (by decide +kernel))), List.forall_mem_cons.mpr ⟨va_Nw.of rfl (hts _ (tb_4 7 (by decide +kernel))), List.forall_mem_cons.mpr ⟨va_Nw.of rfl (hts _ (tb_4 1 (by decide +kernel))), List.forall_mem_cons.mpr ⟨va_Nw.of rfl (hts _ (tb_4 77 (by decide +kernel))), List.forall_mem_cons.mpr ⟨ls_move (A := s) (B := s) rfl (fun _ _ h _ => h) (hts _ (tb_4 26 (by decide +kernel))), List.forall_mem_cons.mpr ⟨ls_move (A := s) (B := s) rfl (fun _ _ h _ => h) (hts _ (tb_4 28 (by decide +kernel))), List.forall_mem_cons.mpr ⟨ir_move (A := s) (B := s) rfl (fun _ _ h _ => h) (hg (.isRef (.static "java/lang/Throwable" "UNASSIGNED_STACK" "[Ljava/lang/StackTraceElement;")) (by decide +kernel)), List.forall_mem_cons.mpr ⟨ir_move (A := s) (B := s) rfl (fun _ _ h _ => h) (hg (.isRef (.static "java/lang/Throwable" "SUPPRESSED_SENTINEL" "Ljava/util/List;")) (by decide +kernel)), List.forall_mem_nil _⟩⟩⟩⟩⟩⟩⟩⟩⟩
  · unfold strs
    exact List.forall_mem_cons.mpr ⟨str_of (hts _ (tb_4 39 (by decide +kernel))) (hg (.exactly (.string "UsageDesk" 98) "java/lang/String") (by decide +kernel)), List.forall_mem_cons.mpr ⟨str_of (hts _ (tb_4 84 (by decide +kernel))) (hg (.exactly (.string "UsageDesk" 126) "java/lang/String") (by decide +kernel)), List.forall_mem_cons.mpr ⟨str_of (hts _ (tb_4 104 (by decide +kernel))) (hg (.exactly (.string "UsageDesk" 142) "java/lang/String") (by decide +kernel)), List.forall_mem_cons.mpr ⟨str_of (hts _ (tb_4 117 (by decide +kernel))) (hg (.exactly (.string "UsageDesk" 226) "java/lang/String") (by decide +kernel)), List.forall_mem_cons.mpr ⟨str_of (hts _ (tb_4 136 (by decide +kernel))) (hg (.exactly (.string "UsageDesk" 182) "java/lang/String") (by decide +kernel)), List.forall_mem_nil _⟩⟩⟩⟩⟩
theorem arr_of {s : State} {args : Array Value} {ty : FieldType} (h : (Cond.arrayClass ty).before args s = true) : ∃ cA, ArrOfT s cA ty ∧ s.vm.findClass ("[" ++ ty.toString) = some cA := by
  obtain ⟨cA, kA, comp, h1, h2, h3⟩ := Cond.arrayClass_spec h
  exact ⟨cA, fun n z => ⟨fun k h => (by cases h), kA, h2, comp, h3⟩, h1⟩
set_option maxHeartbeats 4000000 in
set_option maxRecDepth 100000 in
theorem K_of {s : State} {args : Array Value} (hts : ∀ w ∈ lw_tbl, w.before args s = true) : ∃ (D : va_G) (cI cZ cB cJ : ClassId), va_K D vwCl (tyl cI cZ cB ++ [(cJ, .long)]) s := by
  have htg : ∀ w ∈ tbg, w.before args s = true := fun w hw => hts w (List.mem_filter.mp hw).1
  have one : ∀ (k : Nat) (q : vw_C), vwCl[k]? = some q → ∃ (cC : ClassId) (iS : Nat → Nat), u_Kn s q.1 q.2.1 q.2.2 cC iS := by
    intro k q hq
    match k, hq with
    | 0, hq => cases hq; exact u_known (C := RX0) (T := TX0) (n := 7) htg okC0.2.1 (htg _ ins_X0)
    | 1, hq => cases hq; exact u_known (C := RX1) (T := TX1) (n := 5) htg okC1.2.1 (htg _ ins_X1)
    | 2, hq => cases hq; exact u_known (C := RX2) (T := TX2) (n := 4) htg okC2.2.1 (htg _ ins_X2)
    | 3, hq => cases hq; exact u_known (C := RX3) (T := TX3) (n := 10) htg okC3.2.1 (htg _ ins_X3)
    | 4, hq => cases hq; exact u_known (C := RX4) (T := TX4) (n := 3) htg okC4.2.1 (htg _ ins_X4)
    | 5, hq => cases hq; exact u_known (C := RX5) (T := TX5) (n := 2) htg okC5.2.1 (htg _ ins_X5)
    | 6, hq => cases hq; exact u_known (C := RX6) (T := TX6) (n := 13) htg okC6.2.1 (htg _ ins_X6)
    | 7, hq => cases hq; exact u_known (C := RX7) (T := TX7) (n := 6) htg okC7.2.1 (htg _ ins_X7)
    | 8, hq => cases hq; exact u_known (C := RX8) (T := TX8) (n := 8) htg okC8.2.1 (htg _ ins_X8)
    | 9, hq => cases hq; exact u_known (C := RX9) (T := TX9) (n := 7) htg okC9.2.1 (htg _ ins_X9)
    | 10, hq => cases hq; exact u_known (C := RX10) (T := TX10) (n := 11) htg okC10.2.1 (htg _ ins_X10)
    | 11, hq => cases hq; exact u_known (C := RX11) (T := TX11) (n := 55) htg okC11.2.1 (htg _ ins_X11)
    | k + 12, hq => simp [vwCl] at hq
  obtain ⟨c0, i0, h0⟩ := one 0 _ rfl
  have all : ∀ k : Nat, ∃ (cC : ClassId) (iS : Nat → Nat), ∀ q, vwCl[k]? = some q → u_Kn s q.1 q.2.1 q.2.2 cC iS := by
    intro k
    cases h : vwCl[k]? with
    | none => exact ⟨c0, i0, fun q z => by cases z⟩
    | some q =>
      obtain ⟨a, b, z⟩ := one k q h
      exact ⟨a, b, fun q' e => by cases e; exact z⟩
  obtain ⟨cI, a1, b1⟩ := arr_of (htg _ arr_int)
  obtain ⟨cZ, a2, b2⟩ := arr_of (htg _ arr_boolean)
  obtain ⟨cB, a3, b3⟩ := arr_of (htg _ arr_byte)
  obtain ⟨cJ, a4, b4⟩ := arr_of (hts (.arrayClass .long) (tb_6 104 (by decide +kernel)))
  refine ⟨(fun k => (all k).choose, fun k => (all k).choose_spec.choose), cI, cZ, cB, cJ, fun k q h => (all k).choose_spec.choose_spec q h, fun k q h => ?_⟩
  match k, h with
  | 0, h => cases h; exact ⟨a1, b1⟩
  | 1, h => cases h; exact ⟨a2, b2⟩
  | 2, h => cases h; exact ⟨a3, b3⟩
  | 3, h => cases h; exact ⟨a4, b4⟩
  | k + 4, h => simp at h
