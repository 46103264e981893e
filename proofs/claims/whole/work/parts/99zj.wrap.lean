/-! THE LAW: its eight wrappers -/
def oE (cJ : ClassId) (f : Nat → Int64) : va_E := .inl (cJ, 1, .inr (.inl f))
abbrev wsO (cI cZ cB cJ : ClassId) (ad : Nat → Nat) (ao : Nat) (M : Mem) (f : Nat → Int64) : va_W := wsOf shC nC cI cZ cB ad M ++ [(ao, oE cJ f)]
def rmW : Room := { frames := 8, cells := 1, slots := 6, locals := 512 }
def CtW (y : MethodName) (cc : ByteArray) (nL : Nat) (hs : List (Nat × Nat × Nat × Nat)) (zs : List Int) (M : Mem) (post : Int → Mem → Int64 → Prop) : Prop :=
  ∀ (l : Launch), l.stackTraces = false → ∀ (D : va_G) (cI cZ cB cJ : ClassId) (ad : Nat → Nat) (ao : Nat) (f : Nat → Int64) (sz : Nat),
    Met l y (.codeWith y cc nL (some .int) hs :: tbg) rmW (va_Pc (.ref (ad 0) :: (zs.map fun z => Value.int (Int32.ofInt z)) ++ [.ref ao]) (fun U => U.heap.size = sz ∧ NS U ∧ ThW U ∧ Rg M ∧ va_P D vwCl (wsO cI cZ cB cJ ad ao M f) U.heap ∧ va_K D vwCl (tyl cI cZ cB ++ [(cJ, .long)]) U ∧ va_D (fun _ => True) (wsO cI cZ cB cJ ad ao M f)))
      (va_Qi (S := Mem × (Nat → Int64)) (fun r u => ∃ z, r = Int32.ofInt z ∧ inR z ∧ post z u.1 (u.2 0)) (fun u t => Rg u.1 ∧ va_P D vwCl (wsO cI cZ cB cJ ad ao u.1 u.2) t.heap ∧ va_K D vwCl (tyl cI cZ cB ++ [(cJ, .long)]) t ∧ va_D (va_A (wsO cI cZ cB cJ ad ao M f) sz) (wsO cI cZ cB cJ ad ao u.1 u.2)) (va_A (wsO cI cZ cB cJ ad ao M f) sz)) 1 6 (va_A (wsO cI cZ cB cJ ad ao M f) sz)
/-- what a wrapper says: 1 or 2 where it caught, 0 and the answer where not -/
def WrP (M : Mem) (bad1 bad2 : Prop) (pst : Int → Mem → Prop) (z : Int) (M' : Mem) (v : Int64) : Prop := (z = 1 ∧ bad1 ∧ M = M') ∨ (z = 2 ∧ ¬ bad1 ∧ bad2 ∧ M = M') ∨ (z = 0 ∧ ¬ bad1 ∧ ¬ bad2 ∧ ∃ r, v = (Int32.ofInt r).toInt64 ∧ inR r ∧ pst r M')
theorem one_h {l : List ExceptionTableEntry} {a b c d : Nat} (h : l.map (fun h => (h.startPc, h.endPc, h.handlerPc, h.catchType)) = [(a, b, c, d)]) : ∃ x, l = [x] ∧ x.startPc = a ∧ x.endPc = b ∧ x.handlerPc = c ∧ x.catchType = d := by
  match l, h with
  | [x], h =>
    simp only [List.map_cons, List.map_nil, List.cons.injEq, Prod.mk.injEq, and_true] at h
    exact ⟨x, rfl, h⟩
theorem two_h {l : List ExceptionTableEntry} {a b c d a2 b2 c2 d2 : Nat} (h : l.map (fun h => (h.startPc, h.endPc, h.handlerPc, h.catchType)) = [(a, b, c, d), (a2, b2, c2, d2)]) : ∃ x y, l = [x, y] ∧ (x.startPc = a ∧ x.endPc = b ∧ x.handlerPc = c ∧ x.catchType = d) ∧ y.startPc = a2 ∧ y.endPc = b2 ∧ y.handlerPc = c2 ∧ y.catchType = d2 := by
  match l, h with
  | [x, y], h =>
    simp only [List.map_cons, List.map_nil, List.cons.injEq, Prod.mk.injEq, and_true] at h
    exact ⟨x, y, rfl, h.1, h.2⟩
theorem wsO_at {cI cZ cB cJ : ClassId} {ad : Nat → Nat} {ao : Nat} {M : Mem} {f : Nat → Int64} : (wsO cI cZ cB cJ ad ao M f)[55]? = some (ao, .inl (cJ, 1, .inr (.inl f))) := by
  have := ap_r (a := wsOf shC nC cI cZ cB ad M) (b := [(ao, oE cJ f)]) (k := 0) rfl
  rw [wsOf_len] at this
  exact this
theorem wsO_set {cI cZ cB cJ : ClassId} {ad : Nat → Nat} {ao : Nat} {M : Mem} {f g : Nat → Int64} : (wsO cI cZ cB cJ ad ao M f).set 55 (ao, .inl (cJ, 1, .inr (.inl g))) = wsO cI cZ cB cJ ad ao M g := by
  unfold wsO
  rw [List.set_append_right _ _ (by rw [wsOf_len]; exact Nat.le_refl _), wsOf_len]
  rfl
theorem i0 : (Int32.ofInt 0).toNatClampNeg = 0 := by decide
theorem vp0 : vp_in (Int32.ofInt 0) 1 := by unfold vp_in; decide
set_option maxHeartbeats 4000000 in
set_option maxRecDepth 100000 in
theorem w_push (M : Mem) (c : Int) (hi : inR c) : CtW yL_push cL_push 4 [(0, 9, 12, 13)] [c] M (WrP M (¬ (0 ≤ c ∧ c < 8)) False (fun r M' => if 0 ≤ M 1 1 ∧ M 1 1 < 12 then r = M 1 1 + 1 ∧ M' = up (up M 2 (M 1 1) c) 1 1 (M 1 1 + 1) else r = -1 ∧ M = M')) := by
  intro l hl0 D cI cZ cB cJ ad ao f sz
  refine met_with (by decide +kernel) ?_
  intro p e s m vs below meth cd s₁ B hml hhs hv
  obtain ⟨rfl, hsz, hns, htw, hM, hP, hK, hD0⟩ := hv
  have hts := atoms_spec (ws := .codeWith yL_push cL_push 4 (some .int) [(0, 9, 12, 13)] :: tbg) B.pre
  have hown : s.vm.findClass RL = some m.cls := findClass_of_methodNamed B.named
  subst hsz
  have hD : va_D (va_A (wsO cI cZ cB cJ ad ao M f) s.heap.size) (wsO cI cZ cB cJ ad ao M f) := hD0.self
  have hst1 : ∀ (q : Addr) (cell : Cell), s.heap[q]? = some cell → cell.vm.isStatics = true → ¬ va_A (wsO cI cZ cB cJ ad ao M f) s.heap.size q := fun q cell h1 h2 => st_apart hP h1 h2
  have hA : ∀ q : Nat, s.heap.size ≤ q → va_A (wsO cI cZ cB cJ ad ao M f) s.heap.size q := fun q h => Or.inr h
  generalize hAA : va_A (wsO cI cZ cB cJ ad ao M f) s.heap.size = A at *
  have F : FL p s m [Value.ref (ad 0), .int (Int32.ofInt c), .ref ao].toArray cd D cI cZ cB [(cJ, .long)] A RL cL_push 4 := ⟨⟨B.exec, B.bytes, hml, hown, fun w hw => hts w (List.mem_cons_of_mem _ hw)⟩, hns, hK, hA⟩
  have hl0' := lv_entry [Value.ref (ad 0), .int (Int32.ofInt c), .ref ao] (n := 4) (Nat.le_of_ble_eq_true rfl)
  rw [lg_entry_eq]
  have hl : lv_has _ 4 [(0, Value.ref (ad 0)), (1, .int (Int32.ofInt c)), (2, .ref ao)] := hl0'
  refine lv_aload_n B.exec B.bytes dL_push_0 rfl (lv_at hl 2 rfl) ?_
  refine lv_iconst B.exec B.bytes dL_push_1 rfl ?_
  refine lv_aload_n B.exec B.bytes dL_push_2 rfl (lv_at hl 0 rfl) ?_
  refine lv_iload_n B.exec B.bytes dL_push_3 rfl (lv_at hl 1 rfl) ?_
  by_cases g1 : 0 ≤ c ∧ c < 8
  · refine lw_call F (As := [.inl c]) okL_7 dL_push_4 (c_push M c hi g1) rfl (by decide) rfl ⟨rfl, rfl, by decide, by decide⟩ ⟨Nat.zero_le _, Nat.zero_le _⟩ rfl (Nat.le_of_ble_eq_true rfl) hl.1 rfl hM hP hD va_S.rf (fun r M1 H1 locs1 hr hp hM1 hP1 hD1 hS1 => ?_)
    refine lv_i2l B.exec B.bytes dL_push_7 rfl ?_
    refine va_last B.exec B.bytes hK hP1 hD1 hS1 55 3 wsO_at rfl vp0 dL_push_8 (fun H2 locs2 hP2 hD2 hS2 => ?_)
    rw [wsO_set] at hP2 hD2
    refine lv_goto B.exec B.bytes (tgt := 15) dL_push_9 rfl ?_
    refine lv_iconst B.exec B.bytes dL_push_15 rfl ?_
    refine W.widen (k := 1) (n := 6) (Nat.zero_le _) (Nat.zero_le _) ?_
    exact W.iret (v := Int32.ofInt 0) B.exec B.bytes B.returns (fun t ht hW => ⟨⟨Int32.ofInt 0, (M1, _), rfl, ⟨0, rfl, by decide, Or.inr (Or.inr ⟨rfl, fun z => z g1, fun z => z, r, by show vp_updL f (Int32.ofInt 0).toNatClampNeg _ 0 = _; rw [i0]; exact rfl, hr, hp⟩)⟩, hM1, by rw [ht]; exact hP2, va_K.moved hW.alike hK, hD2⟩, hS2.F ht⟩) hS2.2.2 dL_push_16 B.notSynchronized
  · refine lw_callT F hl0 htw hst1 (X := xIA) (d := 7) (hp := 12) (As := [.inl c]) okL_7 rfl dL_push_4 (t_push M c hi g1) ⟨by decide, by decide⟩ ⟨by decide, by decide⟩ rfl (Nat.le_of_ble_eq_true rfl) hl.1 rfl hM hP hD va_S.rf (fun T' locs' ce' sn' x cell X' q1 q2 q3 => ?_) (fun x H1 locs1 hP1 hS1 => ?_)
    · obtain ⟨hx, hx1, hx2⟩ := one_h hhs
      exact st_catch1 X' q1 q2 hown q3 (htw.1 _ tw_3) hx1 hx2 (by decide) (hts _ (List.mem_cons_of_mem _ clL_13)) rfl ⟨Nat.zero_le _, by show 4 < 9; decide⟩
    · refine lv_astore_n B.exec B.bytes dL_push_12 rfl hl (by decide) rfl (fun ls' hl' => ?_)
      refine lv_iconst B.exec B.bytes dL_push_13 rfl ?_
      exact W.iret (v := Int32.ofInt 1) B.exec B.bytes B.returns (fun t ht hW => ⟨⟨Int32.ofInt 1, (M, f), rfl, ⟨1, rfl, by decide, Or.inl ⟨rfl, g1, rfl⟩⟩, hM, by rw [ht]; exact hP1, va_K.moved hW.alike hK, hD⟩, hS1.F ht⟩) hS1.2.2 dL_push_14 B.notSynchronized
set_option maxHeartbeats 4000000 in
set_option maxRecDepth 100000 in
theorem w_drop (M : Mem) (hB : BkC M) (r0 : Int) (hi : inR r0) : CtW yL_drop cL_drop 4 [(0, 16, 19, 19)] [r0] M (WrP M (¬ (0 ≤ r0 ∧ r0 < M 3 6)) False (fun z M' => z = M 7 r0 ∧ M' = up M 7 r0 0)) := by
  intro l hl0 D cI cZ cB cJ ad ao f sz
  refine met_with (by decide +kernel) ?_
  intro p e s m vs below meth cd s₁ B hml hhs hv
  obtain ⟨rfl, hsz, hns, htw, hM, hP, hK, hD0⟩ := hv
  have hts := atoms_spec (ws := .codeWith yL_drop cL_drop 4 (some .int) [(0, 16, 19, 19)] :: tbg) B.pre
  have hown : s.vm.findClass RL = some m.cls := findClass_of_methodNamed B.named
  subst hsz
  have hD : va_D (va_A (wsO cI cZ cB cJ ad ao M f) s.heap.size) (wsO cI cZ cB cJ ad ao M f) := hD0.self
  have hst1 : ∀ (q : Addr) (cell : Cell), s.heap[q]? = some cell → cell.vm.isStatics = true → ¬ va_A (wsO cI cZ cB cJ ad ao M f) s.heap.size q := fun q cell h1 h2 => st_apart hP h1 h2
  have hA : ∀ q : Nat, s.heap.size ≤ q → va_A (wsO cI cZ cB cJ ad ao M f) s.heap.size q := fun q h => Or.inr h
  generalize hAA : va_A (wsO cI cZ cB cJ ad ao M f) s.heap.size = A at *
  have F : FL p s m [Value.ref (ad 0), .int (Int32.ofInt r0), .ref ao].toArray cd D cI cZ cB [(cJ, .long)] A RL cL_drop 4 := ⟨⟨B.exec, B.bytes, hml, hown, fun w hw => hts w (List.mem_cons_of_mem _ hw)⟩, hns, hK, hA⟩
  have hl0' := lv_entry [Value.ref (ad 0), .int (Int32.ofInt r0), .ref ao] (n := 4) (Nat.le_of_ble_eq_true rfl)
  rw [lg_entry_eq]
  have hl : lv_has _ 4 [(0, Value.ref (ad 0)), (1, .int (Int32.ofInt r0)), (2, .ref ao)] := hl0'
  refine lv_aload_n B.exec B.bytes dL_drop_0 rfl (lv_at hl 2 rfl) ?_
  refine lv_iconst B.exec B.bytes dL_drop_1 rfl ?_
  refine lv_aload_n B.exec B.bytes dL_drop_2 rfl (lv_at hl 0 rfl) ?_
  refine lv_iload_n B.exec B.bytes dL_drop_3 rfl (lv_at hl 1 rfl) ?_
  by_cases g1 : 0 ≤ r0 ∧ r0 < M 3 6
  · refine lw_call F (As := [.inl r0]) okL_15 dL_drop_4 (c_drop M hB r0 hi g1) rfl (by decide) rfl ⟨rfl, rfl, by decide, by decide⟩ ⟨Nat.zero_le _, Nat.zero_le _⟩ rfl (Nat.le_of_ble_eq_true rfl) hl.1 rfl hM hP hD va_S.rf (fun r M1 H1 locs1 hr hp hM1 hP1 hD1 hS1 => ?_)
    have b := hB.2.2 r0 g1.1 g1.2
    have e1 := hp.1
    have z01 : r = 0 ∨ r = 1 := by omega
    rcases z01 with rfl | rfl
    · refine lv_if_eq B.exec B.bytes (tgt := 14) dL_drop_7 rfl (fun z => ?_) (fun z => absurd rfl z)
      refine lv_lconst B.exec B.bytes dL_drop_14 rfl ?_
      refine va_last B.exec B.bytes hK hP1 hD1 hS1 55 3 wsO_at rfl vp0 dL_drop_15 (fun H2 locs2 hP2 hD2 hS2 => ?_)
      rw [wsO_set] at hP2 hD2
      refine lv_goto B.exec B.bytes (tgt := 22) dL_drop_16 rfl ?_
      refine lv_iconst B.exec B.bytes dL_drop_22 rfl ?_
      refine W.widen (k := 1) (n := 6) (Nat.zero_le _) (Nat.zero_le _) ?_
      exact W.iret (v := Int32.ofInt 0) B.exec B.bytes B.returns (fun t ht hW => ⟨⟨Int32.ofInt 0, (M1, _), rfl, ⟨0, rfl, by decide, Or.inr (Or.inr ⟨rfl, fun z => z g1, fun z => z, 0, by show vp_updL f (Int32.ofInt 0).toNatClampNeg _ 0 = _; rw [i0]; exact rfl, hr, hp⟩)⟩, hM1, by rw [ht]; exact hP2, va_K.moved hW.alike hK, hD2⟩, hS2.F ht⟩) hS2.2.2 dL_drop_23 B.notSynchronized
    · refine lv_if_eq B.exec B.bytes (tgt := 14) dL_drop_7 rfl (fun z => absurd z (by decide)) (fun z => ?_)
      refine lv_lconst B.exec B.bytes dL_drop_10 rfl ?_
      refine lv_goto B.exec B.bytes (tgt := 15) dL_drop_11 rfl ?_
      refine va_last B.exec B.bytes hK hP1 hD1 hS1 55 3 wsO_at rfl vp0 dL_drop_15 (fun H2 locs2 hP2 hD2 hS2 => ?_)
      rw [wsO_set] at hP2 hD2
      refine lv_goto B.exec B.bytes (tgt := 22) dL_drop_16 rfl ?_
      refine lv_iconst B.exec B.bytes dL_drop_22 rfl ?_
      refine W.widen (k := 1) (n := 6) (Nat.zero_le _) (Nat.zero_le _) ?_
      exact W.iret (v := Int32.ofInt 0) B.exec B.bytes B.returns (fun t ht hW => ⟨⟨Int32.ofInt 0, (M1, _), rfl, ⟨0, rfl, by decide, Or.inr (Or.inr ⟨rfl, fun z => z g1, fun z => z, 1, by show vp_updL f (Int32.ofInt 0).toNatClampNeg _ 0 = _; rw [i0]; exact rfl, hr, hp⟩)⟩, hM1, by rw [ht]; exact hP2, va_K.moved hW.alike hK, hD2⟩, hS2.F ht⟩) hS2.2.2 dL_drop_23 B.notSynchronized
  · refine lw_callT F hl0 htw hst1 (X := xIO) (d := 7) (hp := 19) (As := [.inl r0]) okL_15 rfl dL_drop_4 (t_drop M r0 hi g1) ⟨by decide, by decide⟩ ⟨by decide, by decide⟩ rfl (Nat.le_of_ble_eq_true rfl) hl.1 rfl hM hP hD va_S.rf (fun T' locs' ce' sn' x cell X' q1 q2 q3 => ?_) (fun x H1 locs1 hP1 hS1 => ?_)
    · obtain ⟨hx, hx1, hx2⟩ := one_h hhs
      exact st_catch1 X' q1 q2 hown q3 (htw.1 _ tw_4) hx1 hx2 (by decide) (hts _ (List.mem_cons_of_mem _ clL_19)) rfl ⟨Nat.zero_le _, by show 4 < 16; decide⟩
    · refine lv_astore_n B.exec B.bytes dL_drop_19 rfl hl (by decide) rfl (fun ls' hl' => ?_)
      refine lv_iconst B.exec B.bytes dL_drop_20 rfl ?_
      exact W.iret (v := Int32.ofInt 1) B.exec B.bytes B.returns (fun t ht hW => ⟨⟨Int32.ofInt 1, (M, f), rfl, ⟨1, rfl, by decide, Or.inl ⟨rfl, g1, rfl⟩⟩, hM, by rw [ht]; exact hP1, va_K.moved hW.alike hK, hD⟩, hS1.F ht⟩) hS1.2.2 dL_drop_21 B.notSynchronized
set_option maxHeartbeats 4000000 in
set_option maxRecDepth 100000 in
theorem w_told (M : Mem) (hB : BkC M) (r0 wh : Int) (hi : inR r0) (hw : inR wh) : CtW yL_told cL_told 5 [(0, 10, 13, 19), (0, 10, 17, 13)] [r0, wh] M (WrP M (¬ (0 ≤ r0 ∧ r0 < M 3 6)) (¬ (0 ≤ wh ∧ wh ≤ 3)) (fun z M' => M = M' ∧ ((wh = 0 ∧ z = M 7 r0) ∨ (wh = 1 ∧ z = M 6 r0) ∨ (wh = 2 ∧ z = M 5 r0) ∨ (wh = 3 ∧ z = iteP (M 7 r0 = 0) 0 (iteP (M 6 r0 = 0) (iteP (lof (M 3 6) (M 5) (M 6) (M 7) (M 4) r0) 1 0) (cutI (M 5) (M 6) (M 7) (M 4) r0 (M 3 6))))))) := by
  intro l hl0 D cI cZ cB cJ ad ao f sz
  refine met_with (by decide +kernel) ?_
  intro p e s m vs below meth cd s₁ B hml hhs hv
  obtain ⟨rfl, hsz, hns, htw, hM, hP, hK, hD0⟩ := hv
  have hts := atoms_spec (ws := .codeWith yL_told cL_told 5 (some .int) [(0, 10, 13, 19), (0, 10, 17, 13)] :: tbg) B.pre
  have hown : s.vm.findClass RL = some m.cls := findClass_of_methodNamed B.named
  subst hsz
  have hD : va_D (va_A (wsO cI cZ cB cJ ad ao M f) s.heap.size) (wsO cI cZ cB cJ ad ao M f) := hD0.self
  have hst1 : ∀ (q : Addr) (cell : Cell), s.heap[q]? = some cell → cell.vm.isStatics = true → ¬ va_A (wsO cI cZ cB cJ ad ao M f) s.heap.size q := fun q cell h1 h2 => st_apart hP h1 h2
  have hA : ∀ q : Nat, s.heap.size ≤ q → va_A (wsO cI cZ cB cJ ad ao M f) s.heap.size q := fun q h => Or.inr h
  generalize hAA : va_A (wsO cI cZ cB cJ ad ao M f) s.heap.size = A at *
  have F : FL p s m [Value.ref (ad 0), .int (Int32.ofInt r0), .int (Int32.ofInt wh), .ref ao].toArray cd D cI cZ cB [(cJ, .long)] A RL cL_told 5 := ⟨⟨B.exec, B.bytes, hml, hown, fun w hw => hts w (List.mem_cons_of_mem _ hw)⟩, hns, hK, hA⟩
  have hl0' := lv_entry [Value.ref (ad 0), .int (Int32.ofInt r0), .int (Int32.ofInt wh), .ref ao] (n := 5) (Nat.le_of_ble_eq_true rfl)
  rw [lg_entry_eq]
  have hl : lv_has _ 5 [(0, Value.ref (ad 0)), (1, .int (Int32.ofInt r0)), (2, .int (Int32.ofInt wh)), (3, .ref ao)] := hl0'
  refine lv_aload_n B.exec B.bytes dL_told_0 rfl (lv_at hl 3 rfl) ?_
  refine lv_iconst B.exec B.bytes dL_told_1 rfl ?_
  refine lv_aload_n B.exec B.bytes dL_told_2 rfl (lv_at hl 0 rfl) ?_
  refine lv_iload_n B.exec B.bytes dL_told_3 rfl (lv_at hl 1 rfl) ?_
  refine lv_iload_n B.exec B.bytes dL_told_4 rfl (lv_at hl 2 rfl) ?_
  by_cases g1 : 0 ≤ r0 ∧ r0 < M 3 6
  · by_cases g2 : 0 ≤ wh ∧ wh ≤ 3
    · refine lw_call F (As := [.inl r0, .inl wh]) okL_21 dL_told_5 (c_told M hB r0 hi g1 wh hw g2) rfl (by decide) rfl ⟨rfl, rfl, by decide, by decide⟩ ⟨Nat.zero_le _, Nat.zero_le _⟩ rfl (Nat.le_of_ble_eq_true rfl) hl.1 rfl hM hP hD va_S.rf (fun r M1 H1 locs1 hr hp hM1 hP1 hD1 hS1 => ?_)
      refine lv_i2l B.exec B.bytes dL_told_8 rfl ?_
      refine va_last B.exec B.bytes hK hP1 hD1 hS1 55 3 wsO_at rfl vp0 dL_told_9 (fun H2 locs2 hP2 hD2 hS2 => ?_)
      rw [wsO_set] at hP2 hD2
      refine lv_goto B.exec B.bytes (tgt := 21) dL_told_10 rfl ?_
      refine lv_iconst B.exec B.bytes dL_told_21 rfl ?_
      refine W.widen (k := 1) (n := 6) (Nat.zero_le _) (Nat.zero_le _) ?_
      exact W.iret (v := Int32.ofInt 0) B.exec B.bytes B.returns (fun t ht hW => ⟨⟨Int32.ofInt 0, (M1, _), rfl, ⟨0, rfl, by decide, Or.inr (Or.inr ⟨rfl, fun z => z g1, fun z => z g2, r, by show vp_updL f (Int32.ofInt 0).toNatClampNeg _ 0 = _; rw [i0]; exact rfl, hr, hp⟩)⟩, hM1, by rw [ht]; exact hP2, va_K.moved hW.alike hK, hD2⟩, hS2.F ht⟩) hS2.2.2 dL_told_22 B.notSynchronized
    · refine lw_callT F hl0 htw hst1 (X := xIA) (d := 7) (hp := 17) (As := [.inl r0, .inl wh]) okL_21 rfl dL_told_5 (t_told2 M hB r0 wh hi hw g1 g2) ⟨by decide, by decide⟩ ⟨by decide, by decide⟩ rfl (Nat.le_of_ble_eq_true rfl) hl.1 rfl hM hP hD va_S.rf (fun T' locs' ce' sn' x cell X' q1 q2 q3 => ?_) (fun x H1 locs1 hP1 hS1 => ?_)
      · obtain ⟨hx, hy, hx1, hx2, hx3⟩ := two_h hhs
        exact st_catch2 X' q1 q2 hown q3 (htw.1 _ tw_3) htw.2.2 hx1 ⟨hx2.1, hx2.2.1, hx2.2.2.2⟩ hx3 (by decide) (by decide) (hts _ (List.mem_cons_of_mem _ clL_13)) (hts _ (List.mem_cons_of_mem _ clL_19)) rfl ⟨Nat.zero_le _, by show 5 < 10; decide⟩
      · refine lv_astore B.exec B.bytes dL_told_17 hl (by decide) rfl (fun ls' hl' => ?_)
        refine lv_iconst B.exec B.bytes dL_told_19 rfl ?_
        exact W.iret (v := Int32.ofInt 2) B.exec B.bytes B.returns (fun t ht hW => ⟨⟨Int32.ofInt 2, (M, f), rfl, ⟨2, rfl, by decide, Or.inr (Or.inl ⟨rfl, fun z => z g1, g2, rfl⟩)⟩, hM, by rw [ht]; exact hP1, va_K.moved hW.alike hK, hD⟩, hS1.F ht⟩) hS1.2.2 dL_told_20 B.notSynchronized
  · refine lw_callT F hl0 htw hst1 (X := xIO) (d := 7) (hp := 13) (As := [.inl r0, .inl wh]) okL_21 rfl dL_told_5 (t_told1 M r0 wh hi g1) ⟨by decide, by decide⟩ ⟨by decide, by decide⟩ rfl (Nat.le_of_ble_eq_true rfl) hl.1 rfl hM hP hD va_S.rf (fun T' locs' ce' sn' x cell X' q1 q2 q3 => ?_) (fun x H1 locs1 hP1 hS1 => ?_)
    · obtain ⟨hx, hy, hx1, hx2, hx3⟩ := two_h hhs
      exact st_catch1 X' q1 q2 hown q3 (htw.1 _ tw_4) hx1 hx2 (by decide) (hts _ (List.mem_cons_of_mem _ clL_19)) rfl ⟨Nat.zero_le _, by show 5 < 10; decide⟩
    · refine lv_astore B.exec B.bytes dL_told_13 hl (by decide) rfl (fun ls' hl' => ?_)
      refine lv_iconst B.exec B.bytes dL_told_15 rfl ?_
      exact W.iret (v := Int32.ofInt 1) B.exec B.bytes B.returns (fun t ht hW => ⟨⟨Int32.ofInt 1, (M, f), rfl, ⟨1, rfl, by decide, Or.inl ⟨rfl, g1, rfl⟩⟩, hM, by rw [ht]; exact hP1, va_K.moved hW.alike hK, hD⟩, hS1.F ht⟩) hS1.2.2 dL_told_16 B.notSynchronized
set_option maxHeartbeats 4000000 in
set_option maxRecDepth 100000 in
theorem w_step (M : Mem) (hL : LwC M) (s0 c : Int) (hs : inR s0) (hc : inR c) : CtW yL_step cL_step 5 [(0, 10, 13, 19), (0, 10, 17, 13)] [s0, c] M (WrP M (¬ (0 ≤ s0 ∧ s0 < M 23 2)) (¬ (0 ≤ c ∧ c < 8)) (fun r M' => M = M' ∧ r = M 24 (8 * s0 + c))) := by
  intro l hl0 D cI cZ cB cJ ad ao f sz
  refine met_with (by decide +kernel) ?_
  intro p e s m vs below meth cd s₁ B hml hhs hv
  obtain ⟨rfl, hsz, hns, htw, hM, hP, hK, hD0⟩ := hv
  have hts := atoms_spec (ws := .codeWith yL_step cL_step 5 (some .int) [(0, 10, 13, 19), (0, 10, 17, 13)] :: tbg) B.pre
  have hown : s.vm.findClass RL = some m.cls := findClass_of_methodNamed B.named
  subst hsz
  have hD : va_D (va_A (wsO cI cZ cB cJ ad ao M f) s.heap.size) (wsO cI cZ cB cJ ad ao M f) := hD0.self
  have hst1 : ∀ (q : Addr) (cell : Cell), s.heap[q]? = some cell → cell.vm.isStatics = true → ¬ va_A (wsO cI cZ cB cJ ad ao M f) s.heap.size q := fun q cell h1 h2 => st_apart hP h1 h2
  have hA : ∀ q : Nat, s.heap.size ≤ q → va_A (wsO cI cZ cB cJ ad ao M f) s.heap.size q := fun q h => Or.inr h
  generalize hAA : va_A (wsO cI cZ cB cJ ad ao M f) s.heap.size = A at *
  have F : FL p s m [Value.ref (ad 0), .int (Int32.ofInt s0), .int (Int32.ofInt c), .ref ao].toArray cd D cI cZ cB [(cJ, .long)] A RL cL_step 5 := ⟨⟨B.exec, B.bytes, hml, hown, fun w hw => hts w (List.mem_cons_of_mem _ hw)⟩, hns, hK, hA⟩
  have hl0' := lv_entry [Value.ref (ad 0), .int (Int32.ofInt s0), .int (Int32.ofInt c), .ref ao] (n := 5) (Nat.le_of_ble_eq_true rfl)
  rw [lg_entry_eq]
  have hl : lv_has _ 5 [(0, Value.ref (ad 0)), (1, .int (Int32.ofInt s0)), (2, .int (Int32.ofInt c)), (3, .ref ao)] := hl0'
  refine lv_aload_n B.exec B.bytes dL_step_0 rfl (lv_at hl 3 rfl) ?_
  refine lv_iconst B.exec B.bytes dL_step_1 rfl ?_
  refine lv_aload_n B.exec B.bytes dL_step_2 rfl (lv_at hl 0 rfl) ?_
  refine lv_iload_n B.exec B.bytes dL_step_3 rfl (lv_at hl 1 rfl) ?_
  refine lv_iload_n B.exec B.bytes dL_step_4 rfl (lv_at hl 2 rfl) ?_
  by_cases g1 : 0 ≤ s0 ∧ s0 < M 23 2
  · by_cases g2 : 0 ≤ c ∧ c < 8
    · refine lw_call F (As := [.inl s0, .inl c]) okL_25 dL_step_5 (c_step M hL s0 c hs hc g1 g2) rfl (by decide) rfl ⟨rfl, rfl, by decide, by decide⟩ ⟨Nat.zero_le _, Nat.zero_le _⟩ rfl (Nat.le_of_ble_eq_true rfl) hl.1 rfl hM hP hD va_S.rf (fun r M1 H1 locs1 hr hp hM1 hP1 hD1 hS1 => ?_)
      refine lv_i2l B.exec B.bytes dL_step_8 rfl ?_
      refine va_last B.exec B.bytes hK hP1 hD1 hS1 55 3 wsO_at rfl vp0 dL_step_9 (fun H2 locs2 hP2 hD2 hS2 => ?_)
      rw [wsO_set] at hP2 hD2
      refine lv_goto B.exec B.bytes (tgt := 21) dL_step_10 rfl ?_
      refine lv_iconst B.exec B.bytes dL_step_21 rfl ?_
      refine W.widen (k := 1) (n := 6) (Nat.zero_le _) (Nat.zero_le _) ?_
      exact W.iret (v := Int32.ofInt 0) B.exec B.bytes B.returns (fun t ht hW => ⟨⟨Int32.ofInt 0, (M1, _), rfl, ⟨0, rfl, by decide, Or.inr (Or.inr ⟨rfl, fun z => z g1, fun z => z g2, r, by show vp_updL f (Int32.ofInt 0).toNatClampNeg _ 0 = _; rw [i0]; exact rfl, hr, hp⟩)⟩, hM1, by rw [ht]; exact hP2, va_K.moved hW.alike hK, hD2⟩, hS2.F ht⟩) hS2.2.2 dL_step_22 B.notSynchronized
    · refine lw_callT F hl0 htw hst1 (X := xIA) (d := 7) (hp := 17) (As := [.inl s0, .inl c]) okL_25 rfl dL_step_5 (t_step2 M hL s0 c hs hc g1 g2) ⟨by decide, by decide⟩ ⟨by decide, by decide⟩ rfl (Nat.le_of_ble_eq_true rfl) hl.1 rfl hM hP hD va_S.rf (fun T' locs' ce' sn' x cell X' q1 q2 q3 => ?_) (fun x H1 locs1 hP1 hS1 => ?_)
      · obtain ⟨hx, hy, hx1, hx2, hx3⟩ := two_h hhs
        exact st_catch2 X' q1 q2 hown q3 (htw.1 _ tw_3) htw.2.2 hx1 ⟨hx2.1, hx2.2.1, hx2.2.2.2⟩ hx3 (by decide) (by decide) (hts _ (List.mem_cons_of_mem _ clL_13)) (hts _ (List.mem_cons_of_mem _ clL_19)) rfl ⟨Nat.zero_le _, by show 5 < 10; decide⟩
      · refine lv_astore B.exec B.bytes dL_step_17 hl (by decide) rfl (fun ls' hl' => ?_)
        refine lv_iconst B.exec B.bytes dL_step_19 rfl ?_
        exact W.iret (v := Int32.ofInt 2) B.exec B.bytes B.returns (fun t ht hW => ⟨⟨Int32.ofInt 2, (M, f), rfl, ⟨2, rfl, by decide, Or.inr (Or.inl ⟨rfl, fun z => z g1, g2, rfl⟩)⟩, hM, by rw [ht]; exact hP1, va_K.moved hW.alike hK, hD⟩, hS1.F ht⟩) hS1.2.2 dL_step_20 B.notSynchronized
  · refine lw_callT F hl0 htw hst1 (X := xIO) (d := 7) (hp := 13) (As := [.inl s0, .inl c]) okL_25 rfl dL_step_5 (t_step1 M hL s0 c hs hc g1) ⟨by decide, by decide⟩ ⟨by decide, by decide⟩ rfl (Nat.le_of_ble_eq_true rfl) hl.1 rfl hM hP hD va_S.rf (fun T' locs' ce' sn' x cell X' q1 q2 q3 => ?_) (fun x H1 locs1 hP1 hS1 => ?_)
    · obtain ⟨hx, hy, hx1, hx2, hx3⟩ := two_h hhs
      exact st_catch1 X' q1 q2 hown q3 (htw.1 _ tw_4) hx1 hx2 (by decide) (hts _ (List.mem_cons_of_mem _ clL_19)) rfl ⟨Nat.zero_le _, by show 5 < 10; decide⟩
    · refine lv_astore B.exec B.bytes dL_step_13 hl (by decide) rfl (fun ls' hl' => ?_)
      refine lv_iconst B.exec B.bytes dL_step_15 rfl ?_
      exact W.iret (v := Int32.ofInt 1) B.exec B.bytes B.returns (fun t ht hW => ⟨⟨Int32.ofInt 1, (M, f), rfl, ⟨1, rfl, by decide, Or.inl ⟨rfl, g1, rfl⟩⟩, hM, by rw [ht]; exact hP1, va_K.moved hW.alike hK, hD⟩, hS1.F ht⟩) hS1.2.2 dL_step_16 B.notSynchronized
set_option maxHeartbeats 4000000 in
set_option maxRecDepth 100000 in
theorem w_seen (M : Mem) (hL : LwC M) (s0 c : Int) (hs : inR s0) (hc : inR c) : CtW yL_seen cL_seen 5 [(0, 10, 13, 19), (0, 10, 17, 13)] [s0, c] M (WrP M (¬ (0 ≤ s0 ∧ s0 < M 23 2)) (¬ (0 ≤ c ∧ c < 8)) (fun r M' => M = M' ∧ r = M 25 (8 * s0 + c))) := by
  intro l hl0 D cI cZ cB cJ ad ao f sz
  refine met_with (by decide +kernel) ?_
  intro p e s m vs below meth cd s₁ B hml hhs hv
  obtain ⟨rfl, hsz, hns, htw, hM, hP, hK, hD0⟩ := hv
  have hts := atoms_spec (ws := .codeWith yL_seen cL_seen 5 (some .int) [(0, 10, 13, 19), (0, 10, 17, 13)] :: tbg) B.pre
  have hown : s.vm.findClass RL = some m.cls := findClass_of_methodNamed B.named
  subst hsz
  have hD : va_D (va_A (wsO cI cZ cB cJ ad ao M f) s.heap.size) (wsO cI cZ cB cJ ad ao M f) := hD0.self
  have hst1 : ∀ (q : Addr) (cell : Cell), s.heap[q]? = some cell → cell.vm.isStatics = true → ¬ va_A (wsO cI cZ cB cJ ad ao M f) s.heap.size q := fun q cell h1 h2 => st_apart hP h1 h2
  have hA : ∀ q : Nat, s.heap.size ≤ q → va_A (wsO cI cZ cB cJ ad ao M f) s.heap.size q := fun q h => Or.inr h
  generalize hAA : va_A (wsO cI cZ cB cJ ad ao M f) s.heap.size = A at *
  have F : FL p s m [Value.ref (ad 0), .int (Int32.ofInt s0), .int (Int32.ofInt c), .ref ao].toArray cd D cI cZ cB [(cJ, .long)] A RL cL_seen 5 := ⟨⟨B.exec, B.bytes, hml, hown, fun w hw => hts w (List.mem_cons_of_mem _ hw)⟩, hns, hK, hA⟩
  have hl0' := lv_entry [Value.ref (ad 0), .int (Int32.ofInt s0), .int (Int32.ofInt c), .ref ao] (n := 5) (Nat.le_of_ble_eq_true rfl)
  rw [lg_entry_eq]
  have hl : lv_has _ 5 [(0, Value.ref (ad 0)), (1, .int (Int32.ofInt s0)), (2, .int (Int32.ofInt c)), (3, .ref ao)] := hl0'
  refine lv_aload_n B.exec B.bytes dL_seen_0 rfl (lv_at hl 3 rfl) ?_
  refine lv_iconst B.exec B.bytes dL_seen_1 rfl ?_
  refine lv_aload_n B.exec B.bytes dL_seen_2 rfl (lv_at hl 0 rfl) ?_
  refine lv_iload_n B.exec B.bytes dL_seen_3 rfl (lv_at hl 1 rfl) ?_
  refine lv_iload_n B.exec B.bytes dL_seen_4 rfl (lv_at hl 2 rfl) ?_
  by_cases g1 : 0 ≤ s0 ∧ s0 < M 23 2
  · by_cases g2 : 0 ≤ c ∧ c < 8
    · refine lw_call F (As := [.inl s0, .inl c]) okL_28 dL_seen_5 (c_seen M hL s0 c hs hc g1 g2) rfl (by decide) rfl ⟨rfl, rfl, by decide, by decide⟩ ⟨Nat.zero_le _, Nat.zero_le _⟩ rfl (Nat.le_of_ble_eq_true rfl) hl.1 rfl hM hP hD va_S.rf (fun r M1 H1 locs1 hr hp hM1 hP1 hD1 hS1 => ?_)
      refine lv_i2l B.exec B.bytes dL_seen_8 rfl ?_
      refine va_last B.exec B.bytes hK hP1 hD1 hS1 55 3 wsO_at rfl vp0 dL_seen_9 (fun H2 locs2 hP2 hD2 hS2 => ?_)
      rw [wsO_set] at hP2 hD2
      refine lv_goto B.exec B.bytes (tgt := 21) dL_seen_10 rfl ?_
      refine lv_iconst B.exec B.bytes dL_seen_21 rfl ?_
      refine W.widen (k := 1) (n := 6) (Nat.zero_le _) (Nat.zero_le _) ?_
      exact W.iret (v := Int32.ofInt 0) B.exec B.bytes B.returns (fun t ht hW => ⟨⟨Int32.ofInt 0, (M1, _), rfl, ⟨0, rfl, by decide, Or.inr (Or.inr ⟨rfl, fun z => z g1, fun z => z g2, r, by show vp_updL f (Int32.ofInt 0).toNatClampNeg _ 0 = _; rw [i0]; exact rfl, hr, hp⟩)⟩, hM1, by rw [ht]; exact hP2, va_K.moved hW.alike hK, hD2⟩, hS2.F ht⟩) hS2.2.2 dL_seen_22 B.notSynchronized
    · refine lw_callT F hl0 htw hst1 (X := xIA) (d := 7) (hp := 17) (As := [.inl s0, .inl c]) okL_28 rfl dL_seen_5 (t_seen2 M hL s0 c hs hc g1 g2) ⟨by decide, by decide⟩ ⟨by decide, by decide⟩ rfl (Nat.le_of_ble_eq_true rfl) hl.1 rfl hM hP hD va_S.rf (fun T' locs' ce' sn' x cell X' q1 q2 q3 => ?_) (fun x H1 locs1 hP1 hS1 => ?_)
      · obtain ⟨hx, hy, hx1, hx2, hx3⟩ := two_h hhs
        exact st_catch2 X' q1 q2 hown q3 (htw.1 _ tw_3) htw.2.2 hx1 ⟨hx2.1, hx2.2.1, hx2.2.2.2⟩ hx3 (by decide) (by decide) (hts _ (List.mem_cons_of_mem _ clL_13)) (hts _ (List.mem_cons_of_mem _ clL_19)) rfl ⟨Nat.zero_le _, by show 5 < 10; decide⟩
      · refine lv_astore B.exec B.bytes dL_seen_17 hl (by decide) rfl (fun ls' hl' => ?_)
        refine lv_iconst B.exec B.bytes dL_seen_19 rfl ?_
        exact W.iret (v := Int32.ofInt 2) B.exec B.bytes B.returns (fun t ht hW => ⟨⟨Int32.ofInt 2, (M, f), rfl, ⟨2, rfl, by decide, Or.inr (Or.inl ⟨rfl, fun z => z g1, g2, rfl⟩)⟩, hM, by rw [ht]; exact hP1, va_K.moved hW.alike hK, hD⟩, hS1.F ht⟩) hS1.2.2 dL_seen_20 B.notSynchronized
  · refine lw_callT F hl0 htw hst1 (X := xIO) (d := 7) (hp := 13) (As := [.inl s0, .inl c]) okL_28 rfl dL_seen_5 (t_seen1 M hL s0 c hs hc g1) ⟨by decide, by decide⟩ ⟨by decide, by decide⟩ rfl (Nat.le_of_ble_eq_true rfl) hl.1 rfl hM hP hD va_S.rf (fun T' locs' ce' sn' x cell X' q1 q2 q3 => ?_) (fun x H1 locs1 hP1 hS1 => ?_)
    · obtain ⟨hx, hy, hx1, hx2, hx3⟩ := two_h hhs
      exact st_catch1 X' q1 q2 hown q3 (htw.1 _ tw_4) hx1 hx2 (by decide) (hts _ (List.mem_cons_of_mem _ clL_19)) rfl ⟨Nat.zero_le _, by show 5 < 10; decide⟩
    · refine lv_astore B.exec B.bytes dL_seen_13 hl (by decide) rfl (fun ls' hl' => ?_)
      refine lv_iconst B.exec B.bytes dL_seen_15 rfl ?_
      exact W.iret (v := Int32.ofInt 1) B.exec B.bytes B.returns (fun t ht hW => ⟨⟨Int32.ofInt 1, (M, f), rfl, ⟨1, rfl, by decide, Or.inl ⟨rfl, g1, rfl⟩⟩, hM, by rw [ht]; exact hP1, va_K.moved hW.alike hK, hD⟩, hS1.F ht⟩) hS1.2.2 dL_seen_16 B.notSynchronized
set_option maxHeartbeats 4000000 in
set_option maxRecDepth 100000 in
theorem w_routine (M : Mem) (hz : 0 ≤ M 29 1 ∧ M 29 1 ≤ 200) (hb : ∀ i, 0 ≤ i → i < 200 → 0 ≤ M 30 i ∧ M 30 i < 256) (ht : ∀ i, 0 ≤ i → i < 200 → 0 ≤ M 32 i ∧ M 32 i < 256) (n : Int) (hi : inR n) : CtW yL_routine cL_routine 4 [(0, 9, 12, 13)] [n] M (WrP M (¬ (0 ≤ n ∧ n ≤ M 29 1)) False (fun r M' => (scf (M 30) n 201 0 0 0 = -1 ∧ r = 0 ∧ RpF (up M 29 1 0) M' ∧ RtC M' ∧ M' 31 7 = n ∧ ∀ i, 0 ≤ i → i < n → M' 32 i = M 30 i) ∨ (¬ scf (M 30) n 201 0 0 0 = -1 ∧ r = -2 - scf (M 30) n 201 0 0 0 ∧ M' = up M 29 1 0))) := by
  intro l hl0 D cI cZ cB cJ ad ao f sz
  refine met_with (by decide +kernel) ?_
  intro p e s m vs below meth cd s₁ B hml hhs hv
  obtain ⟨rfl, hsz, hns, htw, hM, hP, hK, hD0⟩ := hv
  have hts := atoms_spec (ws := .codeWith yL_routine cL_routine 4 (some .int) [(0, 9, 12, 13)] :: tbg) B.pre
  have hown : s.vm.findClass RL = some m.cls := findClass_of_methodNamed B.named
  subst hsz
  have hD : va_D (va_A (wsO cI cZ cB cJ ad ao M f) s.heap.size) (wsO cI cZ cB cJ ad ao M f) := hD0.self
  have hst1 : ∀ (q : Addr) (cell : Cell), s.heap[q]? = some cell → cell.vm.isStatics = true → ¬ va_A (wsO cI cZ cB cJ ad ao M f) s.heap.size q := fun q cell h1 h2 => st_apart hP h1 h2
  have hA : ∀ q : Nat, s.heap.size ≤ q → va_A (wsO cI cZ cB cJ ad ao M f) s.heap.size q := fun q h => Or.inr h
  generalize hAA : va_A (wsO cI cZ cB cJ ad ao M f) s.heap.size = A at *
  have F : FL p s m [Value.ref (ad 0), .int (Int32.ofInt n), .ref ao].toArray cd D cI cZ cB [(cJ, .long)] A RL cL_routine 4 := ⟨⟨B.exec, B.bytes, hml, hown, fun w hw => hts w (List.mem_cons_of_mem _ hw)⟩, hns, hK, hA⟩
  have hl0' := lv_entry [Value.ref (ad 0), .int (Int32.ofInt n), .ref ao] (n := 4) (Nat.le_of_ble_eq_true rfl)
  rw [lg_entry_eq]
  have hl : lv_has _ 4 [(0, Value.ref (ad 0)), (1, .int (Int32.ofInt n)), (2, .ref ao)] := hl0'
  refine lv_aload_n B.exec B.bytes dL_routine_0 rfl (lv_at hl 2 rfl) ?_
  refine lv_iconst B.exec B.bytes dL_routine_1 rfl ?_
  refine lv_aload_n B.exec B.bytes dL_routine_2 rfl (lv_at hl 0 rfl) ?_
  refine lv_iload_n B.exec B.bytes dL_routine_3 rfl (lv_at hl 1 rfl) ?_
  by_cases g1 : 0 ≤ n ∧ n ≤ M 29 1
  · refine lw_call F (As := [.inl n]) okL_31 dL_routine_4 (c_routine M hz hb ht n hi g1) rfl (by decide) rfl ⟨rfl, rfl, by decide, by decide⟩ ⟨Nat.zero_le _, Nat.zero_le _⟩ rfl (Nat.le_of_ble_eq_true rfl) hl.1 rfl hM hP hD va_S.rf (fun r M1 H1 locs1 hr hp hM1 hP1 hD1 hS1 => ?_)
    refine lv_i2l B.exec B.bytes dL_routine_7 rfl ?_
    refine va_last B.exec B.bytes hK hP1 hD1 hS1 55 3 wsO_at rfl vp0 dL_routine_8 (fun H2 locs2 hP2 hD2 hS2 => ?_)
    rw [wsO_set] at hP2 hD2
    refine lv_goto B.exec B.bytes (tgt := 15) dL_routine_9 rfl ?_
    refine lv_iconst B.exec B.bytes dL_routine_15 rfl ?_
    refine W.widen (k := 1) (n := 6) (Nat.zero_le _) (Nat.zero_le _) ?_
    exact W.iret (v := Int32.ofInt 0) B.exec B.bytes B.returns (fun t ht hW => ⟨⟨Int32.ofInt 0, (M1, _), rfl, ⟨0, rfl, by decide, Or.inr (Or.inr ⟨rfl, fun z => z g1, fun z => z, r, by show vp_updL f (Int32.ofInt 0).toNatClampNeg _ 0 = _; rw [i0]; exact rfl, hr, hp⟩)⟩, hM1, by rw [ht]; exact hP2, va_K.moved hW.alike hK, hD2⟩, hS2.F ht⟩) hS2.2.2 dL_routine_16 B.notSynchronized
  · refine lw_callT F hl0 htw hst1 (X := xIA) (d := 7) (hp := 12) (As := [.inl n]) okL_31 rfl dL_routine_4 (t_routine M n hi g1) ⟨by decide, by decide⟩ ⟨by decide, by decide⟩ rfl (Nat.le_of_ble_eq_true rfl) hl.1 rfl hM hP hD va_S.rf (fun T' locs' ce' sn' x cell X' q1 q2 q3 => ?_) (fun x H1 locs1 hP1 hS1 => ?_)
    · obtain ⟨hx, hx1, hx2⟩ := one_h hhs
      exact st_catch1 X' q1 q2 hown q3 (htw.1 _ tw_3) hx1 hx2 (by decide) (hts _ (List.mem_cons_of_mem _ clL_13)) rfl ⟨Nat.zero_le _, by show 4 < 9; decide⟩
    · refine lv_astore_n B.exec B.bytes dL_routine_12 rfl hl (by decide) rfl (fun ls' hl' => ?_)
      refine lv_iconst B.exec B.bytes dL_routine_13 rfl ?_
      exact W.iret (v := Int32.ofInt 1) B.exec B.bytes B.returns (fun t ht hW => ⟨⟨Int32.ofInt 1, (M, f), rfl, ⟨1, rfl, by decide, Or.inl ⟨rfl, g1, rfl⟩⟩, hM, by rw [ht]; exact hP1, va_K.moved hW.alike hK, hD⟩, hS1.F ht⟩) hS1.2.2 dL_routine_14 B.notSynchronized
set_option maxHeartbeats 4000000 in
set_option maxRecDepth 100000 in
theorem w_habit (M : Mem) (hB : BkC M) (x0 y0 wh : Int) (hx : inR x0) (hy : inR y0) (hw : inR wh) : CtW yL_habit cL_habit 6 [(0, 12, 15, 13)] [x0, y0, wh] M (WrP M (¬ ((0 ≤ x0 ∧ x0 < 8) ∧ (0 ≤ y0 ∧ y0 < 8) ∧ (wh = 0 ∨ wh = 1))) False (fun r M' => (∀ k, k ≠ 52 → k ≠ 53 → k ≠ 54 → M' k = M k) ∧ ((wh = 0 ∧ r = cnI (hvP (M 5) (M 6) (M 7) (M 4) x0) (M 3 6)) ∨ (wh = 1 ∧ r = cnI (hoP (M 5) (M 6) (M 7) (M 4) x0 y0) (M 3 6))))) := by
  intro l hl0 D cI cZ cB cJ ad ao f sz
  refine met_with (by decide +kernel) ?_
  intro p e s m vs below meth cd s₁ B hml hhs hv
  obtain ⟨rfl, hsz, hns, htw, hM, hP, hK, hD0⟩ := hv
  have hts := atoms_spec (ws := .codeWith yL_habit cL_habit 6 (some .int) [(0, 12, 15, 13)] :: tbg) B.pre
  have hown : s.vm.findClass RL = some m.cls := findClass_of_methodNamed B.named
  subst hsz
  have hD : va_D (va_A (wsO cI cZ cB cJ ad ao M f) s.heap.size) (wsO cI cZ cB cJ ad ao M f) := hD0.self
  have hst1 : ∀ (q : Addr) (cell : Cell), s.heap[q]? = some cell → cell.vm.isStatics = true → ¬ va_A (wsO cI cZ cB cJ ad ao M f) s.heap.size q := fun q cell h1 h2 => st_apart hP h1 h2
  have hA : ∀ q : Nat, s.heap.size ≤ q → va_A (wsO cI cZ cB cJ ad ao M f) s.heap.size q := fun q h => Or.inr h
  generalize hAA : va_A (wsO cI cZ cB cJ ad ao M f) s.heap.size = A at *
  have F : FL p s m [Value.ref (ad 0), .int (Int32.ofInt x0), .int (Int32.ofInt y0), .int (Int32.ofInt wh), .ref ao].toArray cd D cI cZ cB [(cJ, .long)] A RL cL_habit 6 := ⟨⟨B.exec, B.bytes, hml, hown, fun w hw => hts w (List.mem_cons_of_mem _ hw)⟩, hns, hK, hA⟩
  have hl0' := lv_entry [Value.ref (ad 0), .int (Int32.ofInt x0), .int (Int32.ofInt y0), .int (Int32.ofInt wh), .ref ao] (n := 6) (Nat.le_of_ble_eq_true rfl)
  rw [lg_entry_eq]
  have hl : lv_has _ 6 [(0, Value.ref (ad 0)), (1, .int (Int32.ofInt x0)), (2, .int (Int32.ofInt y0)), (3, .int (Int32.ofInt wh)), (4, .ref ao)] := hl0'
  refine lv_aload B.exec B.bytes dL_habit_0 (lv_at hl 4 rfl) ?_
  refine lv_iconst B.exec B.bytes dL_habit_2 rfl ?_
  refine lv_aload_n B.exec B.bytes dL_habit_3 rfl (lv_at hl 0 rfl) ?_
  refine lv_iload_n B.exec B.bytes dL_habit_4 rfl (lv_at hl 1 rfl) ?_
  refine lv_iload_n B.exec B.bytes dL_habit_5 rfl (lv_at hl 2 rfl) ?_
  refine lv_iload_n B.exec B.bytes dL_habit_6 rfl (lv_at hl 3 rfl) ?_
  by_cases g1 : (0 ≤ x0 ∧ x0 < 8) ∧ (0 ≤ y0 ∧ y0 < 8) ∧ (wh = 0 ∨ wh = 1)
  · refine lw_call F (As := [.inl x0, .inl y0, .inl wh]) okL_34 dL_habit_7 (c_habit M hB x0 y0 wh hx hy hw g1.1 g1.2.1 g1.2.2) rfl (by decide) rfl ⟨rfl, rfl, by decide, by decide⟩ ⟨Nat.zero_le _, Nat.zero_le _⟩ rfl (Nat.le_of_ble_eq_true rfl) hl.1 rfl hM hP hD va_S.rf (fun r M1 H1 locs1 hr hp hM1 hP1 hD1 hS1 => ?_)
    refine lv_i2l B.exec B.bytes dL_habit_10 rfl ?_
    refine va_last B.exec B.bytes hK hP1 hD1 hS1 55 3 wsO_at rfl vp0 dL_habit_11 (fun H2 locs2 hP2 hD2 hS2 => ?_)
    rw [wsO_set] at hP2 hD2
    refine lv_goto B.exec B.bytes (tgt := 19) dL_habit_12 rfl ?_
    refine lv_iconst B.exec B.bytes dL_habit_19 rfl ?_
    refine W.widen (k := 1) (n := 6) (Nat.zero_le _) (Nat.zero_le _) ?_
    exact W.iret (v := Int32.ofInt 0) B.exec B.bytes B.returns (fun t ht hW => ⟨⟨Int32.ofInt 0, (M1, _), rfl, ⟨0, rfl, by decide, Or.inr (Or.inr ⟨rfl, fun z => z g1, fun z => z, r, by show vp_updL f (Int32.ofInt 0).toNatClampNeg _ 0 = _; rw [i0]; exact rfl, hr, hp⟩)⟩, hM1, by rw [ht]; exact hP2, va_K.moved hW.alike hK, hD2⟩, hS2.F ht⟩) hS2.2.2 dL_habit_20 B.notSynchronized
  · refine lw_callT F hl0 htw hst1 (X := xIA) (d := 7) (hp := 15) (As := [.inl x0, .inl y0, .inl wh]) okL_34 rfl dL_habit_7 (t_habit M x0 y0 wh hx hy hw g1) ⟨by decide, by decide⟩ ⟨by decide, by decide⟩ rfl (Nat.le_of_ble_eq_true rfl) hl.1 rfl hM hP hD va_S.rf (fun T' locs' ce' sn' x cell X' q1 q2 q3 => ?_) (fun x H1 locs1 hP1 hS1 => ?_)
    · obtain ⟨hx, hx1, hx2⟩ := one_h hhs
      exact st_catch1 X' q1 q2 hown q3 (htw.1 _ tw_3) hx1 hx2 (by decide) (hts _ (List.mem_cons_of_mem _ clL_13)) rfl ⟨Nat.zero_le _, by show 7 < 12; decide⟩
    · refine lv_astore B.exec B.bytes dL_habit_15 hl (by decide) rfl (fun ls' hl' => ?_)
      refine lv_iconst B.exec B.bytes dL_habit_17 rfl ?_
      exact W.iret (v := Int32.ofInt 1) B.exec B.bytes B.returns (fun t ht hW => ⟨⟨Int32.ofInt 1, (M, f), rfl, ⟨1, rfl, by decide, Or.inl ⟨rfl, g1, rfl⟩⟩, hM, by rw [ht]; exact hP1, va_K.moved hW.alike hK, hD⟩, hS1.F ht⟩) hS1.2.2 dL_habit_18 B.notSynchronized
set_option maxHeartbeats 4000000 in
set_option maxRecDepth 100000 in
theorem w_rank (M : Mem) (hB : BkC M) (k0 wh : Int) (hk : inR k0) (hw : inR wh) : CtW yL_rank cL_rank 5 [(0, 10, 13, 13)] [k0, wh] M (WrP M (¬ (wh = 0 ∨ wh = 1)) False (fun r M' => (∀ k, k ≠ 52 → k ≠ 53 → k ≠ 54 → M' k = M k) ∧ SvR M M' (M 3 6) ∧ ∃ q, RkP (M' 52) (M' 53) k0 q ∧ ((q = -1 ∧ r = -1) ∨ (0 ≤ q ∧ ((wh = 0 ∧ r = q / 8) ∨ (wh = 1 ∧ r = q % 8)))))) := by
  intro l hl0 D cI cZ cB cJ ad ao f sz
  refine met_with (by decide +kernel) ?_
  intro p e s m vs below meth cd s₁ B hml hhs hv
  obtain ⟨rfl, hsz, hns, htw, hM, hP, hK, hD0⟩ := hv
  have hts := atoms_spec (ws := .codeWith yL_rank cL_rank 5 (some .int) [(0, 10, 13, 13)] :: tbg) B.pre
  have hown : s.vm.findClass RL = some m.cls := findClass_of_methodNamed B.named
  subst hsz
  have hD : va_D (va_A (wsO cI cZ cB cJ ad ao M f) s.heap.size) (wsO cI cZ cB cJ ad ao M f) := hD0.self
  have hst1 : ∀ (q : Addr) (cell : Cell), s.heap[q]? = some cell → cell.vm.isStatics = true → ¬ va_A (wsO cI cZ cB cJ ad ao M f) s.heap.size q := fun q cell h1 h2 => st_apart hP h1 h2
  have hA : ∀ q : Nat, s.heap.size ≤ q → va_A (wsO cI cZ cB cJ ad ao M f) s.heap.size q := fun q h => Or.inr h
  generalize hAA : va_A (wsO cI cZ cB cJ ad ao M f) s.heap.size = A at *
  have F : FL p s m [Value.ref (ad 0), .int (Int32.ofInt k0), .int (Int32.ofInt wh), .ref ao].toArray cd D cI cZ cB [(cJ, .long)] A RL cL_rank 5 := ⟨⟨B.exec, B.bytes, hml, hown, fun w hw => hts w (List.mem_cons_of_mem _ hw)⟩, hns, hK, hA⟩
  have hl0' := lv_entry [Value.ref (ad 0), .int (Int32.ofInt k0), .int (Int32.ofInt wh), .ref ao] (n := 5) (Nat.le_of_ble_eq_true rfl)
  rw [lg_entry_eq]
  have hl : lv_has _ 5 [(0, Value.ref (ad 0)), (1, .int (Int32.ofInt k0)), (2, .int (Int32.ofInt wh)), (3, .ref ao)] := hl0'
  refine lv_aload_n B.exec B.bytes dL_rank_0 rfl (lv_at hl 3 rfl) ?_
  refine lv_iconst B.exec B.bytes dL_rank_1 rfl ?_
  refine lv_aload_n B.exec B.bytes dL_rank_2 rfl (lv_at hl 0 rfl) ?_
  refine lv_iload_n B.exec B.bytes dL_rank_3 rfl (lv_at hl 1 rfl) ?_
  refine lv_iload_n B.exec B.bytes dL_rank_4 rfl (lv_at hl 2 rfl) ?_
  by_cases g1 : wh = 0 ∨ wh = 1
  · refine lw_call F (As := [.inl k0, .inl wh]) okL_38 dL_rank_5 (c_rank M hB k0 wh hk hw g1) rfl (by decide) rfl ⟨rfl, rfl, by decide, by decide⟩ ⟨Nat.zero_le _, Nat.zero_le _⟩ rfl (Nat.le_of_ble_eq_true rfl) hl.1 rfl hM hP hD va_S.rf (fun r M1 H1 locs1 hr hp hM1 hP1 hD1 hS1 => ?_)
    refine lv_i2l B.exec B.bytes dL_rank_8 rfl ?_
    refine va_last B.exec B.bytes hK hP1 hD1 hS1 55 3 wsO_at rfl vp0 dL_rank_9 (fun H2 locs2 hP2 hD2 hS2 => ?_)
    rw [wsO_set] at hP2 hD2
    refine lv_goto B.exec B.bytes (tgt := 17) dL_rank_10 rfl ?_
    refine lv_iconst B.exec B.bytes dL_rank_17 rfl ?_
    refine W.widen (k := 1) (n := 6) (Nat.zero_le _) (Nat.zero_le _) ?_
    exact W.iret (v := Int32.ofInt 0) B.exec B.bytes B.returns (fun t ht hW => ⟨⟨Int32.ofInt 0, (M1, _), rfl, ⟨0, rfl, by decide, Or.inr (Or.inr ⟨rfl, fun z => z g1, fun z => z, r, by show vp_updL f (Int32.ofInt 0).toNatClampNeg _ 0 = _; rw [i0]; exact rfl, hr, hp⟩)⟩, hM1, by rw [ht]; exact hP2, va_K.moved hW.alike hK, hD2⟩, hS2.F ht⟩) hS2.2.2 dL_rank_18 B.notSynchronized
  · refine lw_callT F hl0 htw hst1 (X := xIA) (d := 7) (hp := 13) (As := [.inl k0, .inl wh]) okL_38 rfl dL_rank_5 (t_rank M k0 wh hk hw g1) ⟨by decide, by decide⟩ ⟨by decide, by decide⟩ rfl (Nat.le_of_ble_eq_true rfl) hl.1 rfl hM hP hD va_S.rf (fun T' locs' ce' sn' x cell X' q1 q2 q3 => ?_) (fun x H1 locs1 hP1 hS1 => ?_)
    · obtain ⟨hx, hx1, hx2⟩ := one_h hhs
      exact st_catch1 X' q1 q2 hown q3 (htw.1 _ tw_3) hx1 hx2 (by decide) (hts _ (List.mem_cons_of_mem _ clL_13)) rfl ⟨Nat.zero_le _, by show 5 < 10; decide⟩
    · refine lv_astore B.exec B.bytes dL_rank_13 hl (by decide) rfl (fun ls' hl' => ?_)
      refine lv_iconst B.exec B.bytes dL_rank_15 rfl ?_
      exact W.iret (v := Int32.ofInt 1) B.exec B.bytes B.returns (fun t ht hW => ⟨⟨Int32.ofInt 1, (M, f), rfl, ⟨1, rfl, by decide, Or.inl ⟨rfl, g1, rfl⟩⟩, hM, by rw [ht]; exact hP1, va_K.moved hW.alike hK, hD⟩, hS1.F ht⟩) hS1.2.2 dL_rank_16 B.notSynchronized
