/-! THE CLASS: the methods that throw -/
set_option maxRecDepth 100000 in
theorem okXA : okX xIA 96 100 := ⟨tw_A, by decide +kernel, in_3 239 (by decide +kernel) rfl, in_4 0 (by decide +kernel) rfl, in_1 18 (by decide +kernel) rfl⟩
set_option maxRecDepth 100000 in
theorem okXO : okX xIO 124 128 := ⟨tw_O, by decide +kernel, in_4 75 (by decide +kernel) rfl, in_4 76 (by decide +kernel) rfl, in_1 19 (by decide +kernel) rfl⟩
set_option maxHeartbeats 4000000 in
set_option maxRecDepth 100000 in
theorem t_push (M : Mem) (c : Int) (hi : inR c) (hc : ¬ (0 ≤ c ∧ c < 8)) : CtT 7 yX10_push cX10_push 2 (some .int) [.inr 0, .inl c] M xIA := by
  refine CtT_of (by decide +kernel) rfl (Nat.le_of_ble_eq_true rfl) (fun p l e s m below meth cd D cI cZ cB ad A hl0 F hD hE htr hT hst => ?_)
  have hR : 6 ≤ (rmT 7).frames ∧ 200 ≤ (rmT 7).locals := by decide
  have C := F.g (l := l) (e := e) (below := below) (R := rmT 7) (Q := thE shC nC D cI cZ cB ad A xIA M s below 1 6) hD (ce := 0) (sn := 0) ⟨Nat.zero_le _, Nat.zero_le _⟩
  refine g_iload_n C dX10_push_0 rfl rfl ?_
  refine g_callS C okX10_92 dX10_push_1 (c_isCall M c hi) rfl (by decide) rfl (Nat.le_of_ble_eq_true rfl) (fun r1 M1 hr1 hp1 => ?_)
  obtain ⟨rfl, g1⟩ := hp1
  refine g_if_ne C (tgt := 17) dX10_push_4 rfl (by omega) (fun c4 => ?_) (fun c4 => ?_)
  · exfalso; omega
  · exact gx_throw F hD hE htr hT ⟨Nat.le_refl _, Nat.le_refl _⟩ hR hst okXA (List.mem_of_getElem? (i := 0) rfl) dX10_push_7 dX10_push_10 dX10_push_11 dX10_push_13 dX10_push_16 (by decide)
set_option maxHeartbeats 4000000 in
set_option maxRecDepth 100000 in
theorem t_drop (M : Mem) (r : Int) (hi : inR r) (hr : ¬ (0 ≤ r ∧ r < M 3 6)) : CtT 7 yX10_drop cX10_drop 3 (some .boolean) [.inr 0, .inl r] M xIO := by
  refine CtT_of (by decide +kernel) rfl (Nat.le_of_ble_eq_true rfl) (fun p l e s m below meth cd D cI cZ cB ad A hl0 F hD hE htr hT hst => ?_)
  have hR : 6 ≤ (rmT 7).frames ∧ 200 ≤ (rmT 7).locals := by decide
  have C := F.g (l := l) (e := e) (below := below) (R := rmT 7) (Q := thE shC nC D cI cZ cB ad A xIO M s below 1 6) hD (ce := 0) (sn := 0) ⟨Nat.zero_le _, Nat.zero_le _⟩
  refine g_aload_n C dX10_drop_0 rfl rfl ?_
  refine g_getR C (j := 1) okC10 rfl (by decide) (by decide) rfl flX10_21 dX10_drop_1 ?_
  refine g_iload_n C dX10_drop_4 rfl rfl ?_
  refine g_callV C okX10_121 dX10_drop_5 (c_Book_knows M r hi) rfl rfl (by decide) rfl (by decide) rfl (Nat.le_of_ble_eq_true rfl) (fun r5 M5 hr5 hp5 => ?_)
  obtain ⟨rfl, g5⟩ := hp5
  refine g_if_ne C (tgt := 21) dX10_drop_8 rfl (by omega) (fun c8 => ?_) (fun c8 => ?_)
  · exfalso; omega
  · exact gx_throw F hD hE htr hT ⟨Nat.le_refl _, Nat.le_refl _⟩ hR hst okXO (List.mem_of_getElem? (i := 1) rfl) dX10_drop_11 dX10_drop_14 dX10_drop_15 dX10_drop_17 dX10_drop_20 (by decide)
set_option maxHeartbeats 4000000 in
set_option maxRecDepth 100000 in
theorem t_told1 (M : Mem) (r wh : Int) (hi : inR r) (hr : ¬ (0 ≤ r ∧ r < M 3 6)) : CtT 7 yX10_told cX10_told 3 (some .int) [.inr 0, .inl r, .inl wh] M xIO := by
  refine CtT_of (by decide +kernel) rfl (Nat.le_of_ble_eq_true rfl) (fun p l e s m below meth cd D cI cZ cB ad A hl0 F hD hE htr hT hst => ?_)
  have hR : 6 ≤ (rmT 7).frames ∧ 200 ≤ (rmT 7).locals := by decide
  have C := F.g (l := l) (e := e) (below := below) (R := rmT 7) (Q := thE shC nC D cI cZ cB ad A xIO M s below 1 6) hD (ce := 0) (sn := 0) ⟨Nat.zero_le _, Nat.zero_le _⟩
  refine g_aload_n C dX10_told_0 rfl rfl ?_
  refine g_getR C (j := 1) okC10 rfl (by decide) (by decide) rfl flX10_21 dX10_told_1 ?_
  refine g_iload_n C dX10_told_4 rfl rfl ?_
  refine g_callV C okX10_121 dX10_told_5 (c_Book_knows M r hi) rfl rfl (by decide) rfl (by decide) rfl (Nat.le_of_ble_eq_true rfl) (fun r5 M5 hr5 hp5 => ?_)
  obtain ⟨rfl, g5⟩ := hp5
  refine g_if_ne C (tgt := 21) dX10_told_8 rfl (by omega) (fun c8 => ?_) (fun c8 => ?_)
  · exfalso; omega
  · exact gx_throw F hD hE htr hT ⟨Nat.le_refl _, Nat.le_refl _⟩ hR hst okXO (List.mem_of_getElem? (i := 1) rfl) dX10_told_11 dX10_told_14 dX10_told_15 dX10_told_17 dX10_told_20 (by decide)
set_option maxHeartbeats 4000000 in
set_option maxRecDepth 100000 in
theorem t_told2 (M : Mem) (hB : BkC M) (r wh : Int) (hi : inR r) (hw : inR wh) (hr : 0 ≤ r ∧ r < M 3 6) (hwh : ¬ (0 ≤ wh ∧ wh ≤ 3)) : CtT 7 yX10_told cX10_told 3 (some .int) [.inr 0, .inl r, .inl wh] M xIA := by
  refine CtT_of (by decide +kernel) rfl (Nat.le_of_ble_eq_true rfl) (fun p l e s m below meth cd D cI cZ cB ad A hl0 F hD hE htr hT hst => ?_)
  have hR : 6 ≤ (rmT 7).frames ∧ 200 ≤ (rmT 7).locals := by decide
  have C := F.g (l := l) (e := e) (below := below) (R := rmT 7) (Q := thE shC nC D cI cZ cB ad A xIA M s below 1 6) hD (ce := 0) (sn := 0) ⟨Nat.zero_le _, Nat.zero_le _⟩
  have h60 := hB.2.1
  refine g_aload_n C dX10_told_0 rfl rfl ?_
  refine g_getR C (j := 1) okC10 rfl (by decide) (by decide) rfl flX10_21 dX10_told_1 ?_
  refine g_iload_n C dX10_told_4 rfl rfl ?_
  refine g_callV C okX10_121 dX10_told_5 (c_Book_knows M r hi) rfl rfl (by decide) rfl (by decide) rfl (Nat.le_of_ble_eq_true rfl) (fun r5 M5 hr5 hp5 => ?_)
  obtain ⟨rfl, g5⟩ := hp5
  refine g_if_ne C (tgt := 21) dX10_told_8 rfl (by omega) (fun c8 => ?_) (fun c8 => ?_)
  · refine g_iload_n C dX10_told_21 rfl rfl ?_
    refine g_table C (tgt := 106) dX10_told_22 hw rfl (fun off t z1 z2 z3 z4 => ?_) (fun z1 z2 => ?_) (fun z => ?_)
    · exfalso; omega
    · exfalso; omega
    · exact gx_throw F hD hE htr hT ⟨Nat.le_refl _, Nat.le_refl _⟩ hR hst okXA (List.mem_of_getElem? (i := 2) rfl) dX10_told_106 dX10_told_109 dX10_told_110 dX10_told_112 dX10_told_115 (by decide)
  · exfalso; omega
set_option maxHeartbeats 4000000 in
set_option maxRecDepth 100000 in
theorem t_check1 (M : Mem) (hL : LwC M) (s0 c : Int) (hs : inR s0) (hc : inR c) (gs : ¬ (0 ≤ s0 ∧ s0 < M 23 2)) : CtT 6 yX10_checkStep cX10_checkStep 3 none [.inr 0, .inl s0, .inl c] M xIO := by
  refine CtT_of (by decide +kernel) rfl (Nat.le_of_ble_eq_true rfl) (fun p l e s m below meth cd D cI cZ cB ad A hl0 F hD hE htr hT hst => ?_)
  have hR : 6 ≤ (rmT 6).frames ∧ 200 ≤ (rmT 6).locals := by decide
  have C := F.g (l := l) (e := e) (below := below) (R := rmT 6) (Q := thE shC nC D cI cZ cB ad A xIO M s below 1 6) hD (ce := 0) (sn := 0) ⟨Nat.zero_le _, Nat.zero_le _⟩
  have l1 := hL.1
  have l2 := hL.2.1
  refine g_aload_n C dX10_checkStep_0 rfl rfl ?_
  refine g_getR C (j := 4) okC10 rfl (by decide) (by decide) rfl flX10_46 dX10_checkStep_1 ?_
  refine g_iload_n C dX10_checkStep_4 rfl rfl ?_
  refine g_callV C okX10_223 dX10_checkStep_5 (c_Law_hasState M s0 hs) rfl rfl (by decide) rfl (by decide) rfl (Nat.le_of_ble_eq_true rfl) (fun r5 M5 hr5 hp5 => ?_)
  obtain ⟨rfl, g5⟩ := hp5
  refine g_if_ne C (tgt := 21) dX10_checkStep_8 rfl (by omega) (fun c8 => ?_) (fun c8 => ?_)
  · exfalso; omega
  · exact gx_throw F hD hE htr hT ⟨Nat.le_refl _, Nat.le_refl _⟩ hR hst okXO (List.mem_of_getElem? (i := 3) rfl) dX10_checkStep_11 dX10_checkStep_14 dX10_checkStep_15 dX10_checkStep_17 dX10_checkStep_20 (by decide)
set_option maxHeartbeats 4000000 in
set_option maxRecDepth 100000 in
theorem t_check2 (M : Mem) (hL : LwC M) (s0 c : Int) (hs : inR s0) (hc : inR c) (gs : 0 ≤ s0 ∧ s0 < M 23 2) (gc : ¬ (0 ≤ c ∧ c < 8)) : CtT 6 yX10_checkStep cX10_checkStep 3 none [.inr 0, .inl s0, .inl c] M xIA := by
  refine CtT_of (by decide +kernel) rfl (Nat.le_of_ble_eq_true rfl) (fun p l e s m below meth cd D cI cZ cB ad A hl0 F hD hE htr hT hst => ?_)
  have hR : 6 ≤ (rmT 6).frames ∧ 200 ≤ (rmT 6).locals := by decide
  have C := F.g (l := l) (e := e) (below := below) (R := rmT 6) (Q := thE shC nC D cI cZ cB ad A xIA M s below 1 6) hD (ce := 0) (sn := 0) ⟨Nat.zero_le _, Nat.zero_le _⟩
  have l1 := hL.1
  have l2 := hL.2.1
  refine g_aload_n C dX10_checkStep_0 rfl rfl ?_
  refine g_getR C (j := 4) okC10 rfl (by decide) (by decide) rfl flX10_46 dX10_checkStep_1 ?_
  refine g_iload_n C dX10_checkStep_4 rfl rfl ?_
  refine g_callV C okX10_223 dX10_checkStep_5 (c_Law_hasState M s0 hs) rfl rfl (by decide) rfl (by decide) rfl (Nat.le_of_ble_eq_true rfl) (fun r5 M5 hr5 hp5 => ?_)
  obtain ⟨rfl, g5⟩ := hp5
  refine g_if_ne C (tgt := 21) dX10_checkStep_8 rfl (by omega) (fun c8 => ?_) (fun c8 => ?_)
  · refine g_iload_n C dX10_checkStep_21 rfl rfl ?_
    refine g_callS C okX10_92 dX10_checkStep_22 (c_isCall M c hc) rfl (by decide) rfl (Nat.le_of_ble_eq_true rfl) (fun r22 M22 hr22 hp22 => ?_)
    obtain ⟨rfl, g22⟩ := hp22
    refine g_if_ne C (tgt := 38) dX10_checkStep_25 rfl (by omega) (fun c25 => ?_) (fun c25 => ?_)
    · exfalso; omega
    · exact gx_throw F hD hE htr hT ⟨Nat.le_refl _, Nat.le_refl _⟩ hR hst okXA (List.mem_of_getElem? (i := 0) rfl) dX10_checkStep_28 dX10_checkStep_31 dX10_checkStep_32 dX10_checkStep_34 dX10_checkStep_37 (by decide)
  · exfalso; omega
set_option maxHeartbeats 4000000 in
set_option maxRecDepth 100000 in
theorem t_step1 (M : Mem) (hL : LwC M) (s0 c : Int) (hs : inR s0) (hc : inR c) (gs : ¬ (0 ≤ s0 ∧ s0 < M 23 2)) : CtT 7 yX10_step cX10_step 3 (some .int) [.inr 0, .inl s0, .inl c] M xIO := by
  refine CtT_of (by decide +kernel) rfl (Nat.le_of_ble_eq_true rfl) (fun p l e s m below meth cd D cI cZ cB ad A hl0 F hD hE htr hT hst => ?_)
  have hR : 6 ≤ (rmT 7).frames ∧ 200 ≤ (rmT 7).locals := by decide
  have C := F.g (l := l) (e := e) (below := below) (R := rmT 7) (Q := thE shC nC D cI cZ cB ad A xIO M s below 1 6) hD (ce := 0) (sn := 0) ⟨Nat.zero_le _, Nat.zero_le _⟩
  refine g_aload_n C dX10_step_0 rfl rfl ?_
  refine g_iload_n C dX10_step_1 rfl rfl ?_
  refine g_iload_n C dX10_step_2 rfl rfl ?_
  exact gx_callT F hl0 hD hE hT hst ⟨Nat.le_refl _, Nat.le_refl _⟩ (As := [.inl s0, .inl c]) okX10_161 rfl (by decide) (t_check1 M hL s0 c hs hc gs) rfl dX10_step_3
set_option maxHeartbeats 4000000 in
set_option maxRecDepth 100000 in
theorem t_step2 (M : Mem) (hL : LwC M) (s0 c : Int) (hs : inR s0) (hc : inR c) (gs : 0 ≤ s0 ∧ s0 < M 23 2) (gc : ¬ (0 ≤ c ∧ c < 8)) : CtT 7 yX10_step cX10_step 3 (some .int) [.inr 0, .inl s0, .inl c] M xIA := by
  refine CtT_of (by decide +kernel) rfl (Nat.le_of_ble_eq_true rfl) (fun p l e s m below meth cd D cI cZ cB ad A hl0 F hD hE htr hT hst => ?_)
  have hR : 6 ≤ (rmT 7).frames ∧ 200 ≤ (rmT 7).locals := by decide
  have C := F.g (l := l) (e := e) (below := below) (R := rmT 7) (Q := thE shC nC D cI cZ cB ad A xIA M s below 1 6) hD (ce := 0) (sn := 0) ⟨Nat.zero_le _, Nat.zero_le _⟩
  refine g_aload_n C dX10_step_0 rfl rfl ?_
  refine g_iload_n C dX10_step_1 rfl rfl ?_
  refine g_iload_n C dX10_step_2 rfl rfl ?_
  exact gx_callT F hl0 hD hE hT hst ⟨Nat.le_refl _, Nat.le_refl _⟩ (As := [.inl s0, .inl c]) okX10_161 rfl (by decide) (t_check2 M hL s0 c hs hc gs gc) rfl dX10_step_3
set_option maxHeartbeats 4000000 in
set_option maxRecDepth 100000 in
theorem t_seen1 (M : Mem) (hL : LwC M) (s0 c : Int) (hs : inR s0) (hc : inR c) (gs : ¬ (0 ≤ s0 ∧ s0 < M 23 2)) : CtT 7 yX10_seen cX10_seen 3 (some .int) [.inr 0, .inl s0, .inl c] M xIO := by
  refine CtT_of (by decide +kernel) rfl (Nat.le_of_ble_eq_true rfl) (fun p l e s m below meth cd D cI cZ cB ad A hl0 F hD hE htr hT hst => ?_)
  have hR : 6 ≤ (rmT 7).frames ∧ 200 ≤ (rmT 7).locals := by decide
  have C := F.g (l := l) (e := e) (below := below) (R := rmT 7) (Q := thE shC nC D cI cZ cB ad A xIO M s below 1 6) hD (ce := 0) (sn := 0) ⟨Nat.zero_le _, Nat.zero_le _⟩
  refine g_aload_n C dX10_seen_0 rfl rfl ?_
  refine g_iload_n C dX10_seen_1 rfl rfl ?_
  refine g_iload_n C dX10_seen_2 rfl rfl ?_
  exact gx_callT F hl0 hD hE hT hst ⟨Nat.le_refl _, Nat.le_refl _⟩ (As := [.inl s0, .inl c]) okX10_161 rfl (by decide) (t_check1 M hL s0 c hs hc gs) rfl dX10_seen_3
set_option maxHeartbeats 4000000 in
set_option maxRecDepth 100000 in
theorem t_seen2 (M : Mem) (hL : LwC M) (s0 c : Int) (hs : inR s0) (hc : inR c) (gs : 0 ≤ s0 ∧ s0 < M 23 2) (gc : ¬ (0 ≤ c ∧ c < 8)) : CtT 7 yX10_seen cX10_seen 3 (some .int) [.inr 0, .inl s0, .inl c] M xIA := by
  refine CtT_of (by decide +kernel) rfl (Nat.le_of_ble_eq_true rfl) (fun p l e s m below meth cd D cI cZ cB ad A hl0 F hD hE htr hT hst => ?_)
  have hR : 6 ≤ (rmT 7).frames ∧ 200 ≤ (rmT 7).locals := by decide
  have C := F.g (l := l) (e := e) (below := below) (R := rmT 7) (Q := thE shC nC D cI cZ cB ad A xIA M s below 1 6) hD (ce := 0) (sn := 0) ⟨Nat.zero_le _, Nat.zero_le _⟩
  refine g_aload_n C dX10_seen_0 rfl rfl ?_
  refine g_iload_n C dX10_seen_1 rfl rfl ?_
  refine g_iload_n C dX10_seen_2 rfl rfl ?_
  exact gx_callT F hl0 hD hE hT hst ⟨Nat.le_refl _, Nat.le_refl _⟩ (As := [.inl s0, .inl c]) okX10_161 rfl (by decide) (t_check2 M hL s0 c hs hc gs gc) rfl dX10_seen_3
set_option maxHeartbeats 4000000 in
set_option maxRecDepth 100000 in
theorem t_routine (M : Mem) (n : Int) (hi : inR n) (hn : ¬ (0 ≤ n ∧ n ≤ M 29 1)) : CtT 7 yX10_routine cX10_routine 3 (some .int) [.inr 0, .inl n] M xIA := by
  refine CtT_of (by decide +kernel) rfl (Nat.le_of_ble_eq_true rfl) (fun p l e s m below meth cd D cI cZ cB ad A hl0 F hD hE htr hT hst => ?_)
  have hR : 6 ≤ (rmT 7).frames ∧ 200 ≤ (rmT 7).locals := by decide
  have C := F.g (l := l) (e := e) (below := below) (R := rmT 7) (Q := thE shC nC D cI cZ cB ad A xIA M s below 1 6) hD (ce := 0) (sn := 0) ⟨Nat.zero_le _, Nat.zero_le _⟩
  refine g_iload_n C dX10_routine_0 rfl rfl ?_
  refine g_if_lt C (tgt := 15) dX10_routine_1 rfl (by omega) (fun c1 => ?_) (fun c1 => ?_)
  · exact gx_throw F hD hE htr hT ⟨Nat.le_refl _, Nat.le_refl _⟩ hR hst okXA (List.mem_of_getElem? (i := 4) rfl) dX10_routine_15 dX10_routine_18 dX10_routine_19 dX10_routine_21 dX10_routine_24 (by decide)
  · refine g_iload_n C dX10_routine_4 rfl rfl ?_
    refine g_aload_n C dX10_routine_5 rfl rfl ?_
    refine g_getR C (j := 6) okC10 rfl (by decide) (by decide) rfl flX10_57 dX10_routine_6 ?_
    refine g_getJ C 1 1 rfl okC5 rfl (by decide) (by decide) rfl flX10_106 dX10_routine_9 (fun ld9 => ?_)
    refine g_icmp_le C (tgt := 25) dX10_routine_12 rfl (by omega) (by omega) (fun c12 => ?_) (fun c12 => ?_)
    · exfalso; omega
    · exact gx_throw F hD hE htr hT ⟨Nat.le_refl _, Nat.le_refl _⟩ hR hst okXA (List.mem_of_getElem? (i := 4) rfl) dX10_routine_15 dX10_routine_18 dX10_routine_19 dX10_routine_21 dX10_routine_24 (by decide)
set_option maxHeartbeats 4000000 in
set_option maxRecDepth 100000 in
theorem t_habit (M : Mem) (x y wh : Int) (hx : inR x) (hy : inR y) (hw : inR wh) (g : ¬ ((0 ≤ x ∧ x < 8) ∧ (0 ≤ y ∧ y < 8) ∧ (wh = 0 ∨ wh = 1))) : CtT 7 yX10_habit cX10_habit 4 (some .int) [.inr 0, .inl x, .inl y, .inl wh] M xIA := by
  refine CtT_of (by decide +kernel) rfl (Nat.le_of_ble_eq_true rfl) (fun p l e s m below meth cd D cI cZ cB ad A hl0 F hD hE htr hT hst => ?_)
  have hR : 6 ≤ (rmT 7).frames ∧ 200 ≤ (rmT 7).locals := by decide
  have C := F.g (l := l) (e := e) (below := below) (R := rmT 7) (Q := thE shC nC D cI cZ cB ad A xIA M s below 1 6) hD (ce := 0) (sn := 0) ⟨Nat.zero_le _, Nat.zero_le _⟩
  refine g_iload_n C dX10_habit_0 rfl rfl ?_
  refine g_callS C okX10_92 dX10_habit_1 (c_isCall M x hx) rfl (by decide) rfl (Nat.le_of_ble_eq_true rfl) (fun r1 M1 hr1 hp1 => ?_)
  obtain ⟨rfl, g1⟩ := hp1
  refine g_if_eq C (tgt := 14) dX10_habit_4 rfl (by omega) (fun c4 => ?_) (fun c4 => ?_)
  · exact gx_throw F hD hE htr hT ⟨Nat.le_refl _, Nat.le_refl _⟩ hR hst okXA (List.mem_of_getElem? (i := 0) rfl) dX10_habit_14 dX10_habit_17 dX10_habit_18 dX10_habit_20 dX10_habit_23 (by decide)
  · refine g_iload_n C dX10_habit_7 rfl rfl ?_
    refine g_callS C okX10_92 dX10_habit_8 (c_isCall M y hy) rfl (by decide) rfl (Nat.le_of_ble_eq_true rfl) (fun r8 M8 hr8 hp8 => ?_)
    obtain ⟨rfl, g8⟩ := hp8
    refine g_if_ne C (tgt := 24) dX10_habit_11 rfl (by omega) (fun c11 => ?_) (fun c11 => ?_)
    · refine g_iload_n C dX10_habit_24 rfl rfl ?_
      refine g_if_eq C (tgt := 43) dX10_habit_25 rfl (by omega) (fun c25 => ?_) (fun c25 => ?_)
      · exfalso; omega
      · refine g_iload_n C dX10_habit_28 rfl rfl ?_
        refine g_iconst C dX10_habit_29 ?_
        refine g_icmp_eq C (tgt := 43) dX10_habit_30 rfl (by omega) (by omega) (fun c30 => ?_) (fun c30 => ?_)
        · exfalso; omega
        · exact gx_throw F hD hE htr hT ⟨Nat.le_refl _, Nat.le_refl _⟩ hR hst okXA (List.mem_of_getElem? (i := 2) rfl) dX10_habit_33 dX10_habit_36 dX10_habit_37 dX10_habit_39 dX10_habit_42 (by decide)
    · exact gx_throw F hD hE htr hT ⟨Nat.le_refl _, Nat.le_refl _⟩ hR hst okXA (List.mem_of_getElem? (i := 0) rfl) dX10_habit_14 dX10_habit_17 dX10_habit_18 dX10_habit_20 dX10_habit_23 (by decide)
set_option maxHeartbeats 4000000 in
set_option maxRecDepth 100000 in
theorem t_rank (M : Mem) (k wh : Int) (hk : inR k) (hw : inR wh) (g : ¬ (wh = 0 ∨ wh = 1)) : CtT 7 yX10_rank cX10_rank 4 (some .int) [.inr 0, .inl k, .inl wh] M xIA := by
  refine CtT_of (by decide +kernel) rfl (Nat.le_of_ble_eq_true rfl) (fun p l e s m below meth cd D cI cZ cB ad A hl0 F hD hE htr hT hst => ?_)
  have hR : 6 ≤ (rmT 7).frames ∧ 200 ≤ (rmT 7).locals := by decide
  have C := F.g (l := l) (e := e) (below := below) (R := rmT 7) (Q := thE shC nC D cI cZ cB ad A xIA M s below 1 6) hD (ce := 0) (sn := 0) ⟨Nat.zero_le _, Nat.zero_le _⟩
  refine g_iload_n C dX10_rank_0 rfl rfl ?_
  refine g_if_eq C (tgt := 19) dX10_rank_1 rfl (by omega) (fun c1 => ?_) (fun c1 => ?_)
  · exfalso; omega
  · refine g_iload_n C dX10_rank_4 rfl rfl ?_
    refine g_iconst C dX10_rank_5 ?_
    refine g_icmp_eq C (tgt := 19) dX10_rank_6 rfl (by omega) (by omega) (fun c6 => ?_) (fun c6 => ?_)
    · exfalso; omega
    · exact gx_throw F hD hE htr hT ⟨Nat.le_refl _, Nat.le_refl _⟩ hR hst okXA (List.mem_of_getElem? (i := 2) rfl) dX10_rank_9 dX10_rank_12 dX10_rank_13 dX10_rank_15 dX10_rank_18 (by decide)
