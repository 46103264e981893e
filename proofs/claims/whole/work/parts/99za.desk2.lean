/-! THE CLASS: the methods that may throw, where they do not -/
theorem scf_rg {tx : Int → Int} {n : Int} : ∀ (f : Nat) (i op st : Int), 0 ≤ i → i ≤ n → -1 ≤ scf tx n f i op st ∧ scf tx n f i op st ≤ n := by
  intro f
  induction f with
  | zero => intro i op st a b; unfold scf; omega
  | succ f ih =>
    intro i op st a b
    unfold scf
    split
    · split
      · exact ih _ _ _ (by omega) (by omega)
      · split
        · exact ih _ _ _ (by omega) (by omega)
        · omega
    · split <;> omega
theorem SvR_ok {M N : Mem} (hB : BkC M) (h : SvR M N (M 3 6)) : okH N := by
  have h6 := hB.1
  have h60 := hB.2.1
  refine ⟨fun x a b => ?_, fun i a b => ?_⟩
  · rw [h.1 x a b]
    have := cnI_rg (hvP (M 5) (M 6) (M 7) (M 4) x) h6
    omega
  · have e : i = 8 * (i / 8) + i % 8 := by omega
    rw [e, h.2 (i / 8) (i % 8) (by omega) (by omega) (by omega) (by omega)]
    have := cnI_rg (hoP (M 5) (M 6) (M 7) (M 4) (i / 8) (i % 8)) h6
    omega
set_option maxHeartbeats 4000000 in
set_option maxRecDepth 100000 in
theorem c_push (M : Mem) (c : Int) (hi : inR c) (hc : 0 ≤ c ∧ c < 8) : Ct shC nC yX10_push cX10_push 2 (some .int) (lvl 1) [.inr 0, .inl c] M (fun r M' => if 0 ≤ M 1 1 ∧ M 1 1 < 12 then r = M 1 1 + 1 ∧ M' = up (up M 2 (M 1 1) c) 1 1 (M 1 1 + 1) else r = -1 ∧ M = M') := by
  refine Ct_of (by decide +kernel) (Nat.le_of_ble_eq_true rfl) (fun K C => ?_)
  refine k_rg C (fun hRg => ?_)
  have hx := hRg 1 1
  refine k_iload_n C dX10_push_0 rfl rfl ?_
  refine k_callS C okX10_92 dX10_push_1 (c_isCall M c hi) rfl (by decide) rfl (Nat.le_of_ble_eq_true rfl) (fun r1 M1 hr1 hp1 => ?_)
  obtain ⟨rfl, g1⟩ := hp1
  refine k_if_ne C (tgt := 17) dX10_push_4 rfl (by omega) (fun c4 => ?_) (fun c4 => ?_)
  · refine k_aload_n C dX10_push_17 rfl rfl ?_
    refine k_getR C (j := 0) okC10 rfl (by decide) (by decide) rfl flX10_14 dX10_push_18 ?_
    refine k_iload_n C dX10_push_21 rfl rfl ?_
    refine k_callV C okX10_103 dX10_push_22 (c_Line_append 1 2 12 rfl (by decide) rfl (by decide) (by decide) M c hi) rfl rfl (by decide) rfl (by decide) rfl (Nat.le_of_ble_eq_true rfl) (fun r22 M22 hr22 hp22 => ?_)
    by_cases q : 0 ≤ M 1 1 ∧ M 1 1 < 12
    · have q2 : 0 ≤ M 1 1 ∧ M 1 1 < (12 : Nat) := q
      rw [if_pos q2] at hp22
      obtain ⟨rfl, rfl⟩ := hp22
      refine k_if_eq C (tgt := 38) dX10_push_25 rfl (by omega) (fun c25 => ?_) (fun c25 => ?_)
      · exfalso; omega
      · refine k_aload_n C dX10_push_28 rfl rfl ?_
        refine k_getR C (j := 0) okC10 rfl (by decide) (by decide) rfl flX10_14 dX10_push_29 ?_
        refine k_getJ C 1 1 rfl okC5 rfl (by decide) (by decide) rfl flX10_106 dX10_push_32 (fun ld32 => ?_)
        rw [up_same] at ld32 ⊢
        refine k_goto C (tgt := 39) dX10_push_35 rfl ?_
        exact k_iret C dX10_push_39 (by omega) (fun _ => by rw [if_pos q]; exact ⟨rfl, rfl⟩)
    · have q2 : ¬ (0 ≤ M 1 1 ∧ M 1 1 < (12 : Nat)) := q
      rw [if_neg q2] at hp22
      obtain ⟨rfl, rfl⟩ := hp22
      refine k_if_eq C (tgt := 38) dX10_push_25 rfl (by omega) (fun c25 => ?_) (fun c25 => ?_)
      · refine k_iconst C dX10_push_38 ?_
        exact k_iret C dX10_push_39 (by omega) (fun _ => by rw [if_neg q]; exact ⟨rfl, rfl⟩)
      · exfalso; omega
  · exfalso; omega
set_option maxHeartbeats 4000000 in
set_option maxRecDepth 100000 in
theorem c_drop (M : Mem) (hB : BkC M) (r : Int) (hi : inR r) (hr : 0 ≤ r ∧ r < M 3 6) : Ct shC nC yX10_drop cX10_drop 3 (some .boolean) (lvl 1) [.inr 0, .inl r] M (fun z M' => z = M 7 r ∧ M' = up M 7 r 0) := by
  refine Ct_of (by decide +kernel) (Nat.le_of_ble_eq_true rfl) (fun K C => ?_)
  have h60 := hB.2.1
  have b := hB.2.2 r hr.1 hr.2
  refine k_aload_n C dX10_drop_0 rfl rfl ?_
  refine k_getR C (j := 1) okC10 rfl (by decide) (by decide) rfl flX10_21 dX10_drop_1 ?_
  refine k_iload_n C dX10_drop_4 rfl rfl ?_
  refine k_callV C okX10_121 dX10_drop_5 (c_Book_knows M r hi) rfl rfl (by decide) rfl (by decide) rfl (Nat.le_of_ble_eq_true rfl) (fun r5 M5 hr5 hp5 => ?_)
  obtain ⟨rfl, g5⟩ := hp5
  refine k_if_ne C (tgt := 21) dX10_drop_8 rfl (by omega) (fun c8 => ?_) (fun c8 => ?_)
  · refine k_aload_n C dX10_drop_21 rfl rfl ?_
    refine k_getR C (j := 1) okC10 rfl (by decide) (by decide) rfl flX10_21 dX10_drop_22 ?_
    refine k_getR C (j := 3) okC0 rfl (by decide) (by decide) rfl flX10_129 dX10_drop_25 ?_
    refine k_iload_n C dX10_drop_28 rfl rfl ?_
    refine k_zaload C rfl (by decide) (by decide) ⟨by omega, by omega⟩ dX10_drop_29 (fun ld29 => ?_)
    refine k_istore_n C dX10_drop_30 rfl (by decide) ?_
    refine k_aload_n C dX10_drop_31 rfl rfl ?_
    refine k_getR C (j := 1) okC10 rfl (by decide) (by decide) rfl flX10_21 dX10_drop_32 ?_
    refine k_getR C (j := 3) okC0 rfl (by decide) (by decide) rfl flX10_129 dX10_drop_35 ?_
    refine k_iload_n C dX10_drop_38 rfl rfl ?_
    refine k_iconst C dX10_drop_39 ?_
    refine k_zastore C rfl (by decide) (by decide) ⟨by omega, by omega⟩ (by omega) dX10_drop_40 ?_
    refine k_iload_n C dX10_drop_41 rfl rfl ?_
    exact k_zret C dX10_drop_42 (by omega) (fun _ => ⟨rfl, rfl⟩)
  · exfalso; omega
set_option maxHeartbeats 4000000 in
set_option maxRecDepth 100000 in
theorem c_told (M : Mem) (hB : BkC M) (r : Int) (hi : inR r) (hr : 0 ≤ r ∧ r < M 3 6) (wh : Int) (hw : inR wh) (hw4 : 0 ≤ wh ∧ wh ≤ 3) : Ct shC nC yX10_told cX10_told 3 (some .int) (lvl 5) [.inr 0, .inl r, .inl wh] M (fun z M' => M = M' ∧ ((wh = 0 ∧ z = M 7 r) ∨ (wh = 1 ∧ z = M 6 r) ∨ (wh = 2 ∧ z = M 5 r) ∨ (wh = 3 ∧ z = iteP (M 7 r = 0) 0 (iteP (M 6 r = 0) (iteP (lof (M 3 6) (M 5) (M 6) (M 7) (M 4) r) 1 0) (cutI (M 5) (M 6) (M 7) (M 4) r (M 3 6)))))) := by
  refine Ct_of (by decide +kernel) (Nat.le_of_ble_eq_true rfl) (fun K C => ?_)
  have h60 := hB.2.1
  have b := hB.2.2 r hr.1 hr.2
  refine k_aload_n C dX10_told_0 rfl rfl ?_
  refine k_getR C (j := 1) okC10 rfl (by decide) (by decide) rfl flX10_21 dX10_told_1 ?_
  refine k_iload_n C dX10_told_4 rfl rfl ?_
  refine k_callV C okX10_121 dX10_told_5 (c_Book_knows M r hi) rfl rfl (by decide) rfl (by decide) rfl (Nat.le_of_ble_eq_true rfl) (fun r5 M5 hr5 hp5 => ?_)
  obtain ⟨rfl, g5⟩ := hp5
  refine k_if_ne C (tgt := 21) dX10_told_8 rfl (by omega) (fun c8 => ?_) (fun c8 => ?_)
  · refine k_iload_n C dX10_told_21 rfl rfl ?_
    refine k_table C (tgt := 106) dX10_told_22 hw rfl (fun off t z1 z2 z3 z4 => ?_) (fun z1 z2 => ?_) (fun z => ?_)
    · have ew : wh = 0 ∨ wh = 1 ∨ wh = 2 ∨ wh = 3 := by omega
      rcases ew with rfl | rfl | rfl | rfl
      · have eo : off = 30 := by simpa using z3.symm
        subst eo
        have et : t = 52 := by omega
        subst et
        refine k_aload_n C dX10_told_52 rfl rfl ?_
        refine k_getR C (j := 1) okC10 rfl (by decide) (by decide) rfl flX10_21 dX10_told_53 ?_
        refine k_getR C (j := 3) okC0 rfl (by decide) (by decide) rfl flX10_129 dX10_told_56 ?_
        refine k_iload_n C dX10_told_59 rfl rfl ?_
        refine k_zaload C rfl (by decide) (by decide) ⟨by omega, by omega⟩ dX10_told_60 (fun ld60 => ?_)
        refine k_if_eq C (tgt := 68) dX10_told_61 rfl (by omega) (fun c61 => ?_) (fun c61 => ?_)
        · refine k_iconst C dX10_told_68 ?_
          exact k_iret C dX10_told_69 (by omega) (fun _ => ⟨rfl, Or.inl ⟨rfl, by omega⟩⟩)
        · refine k_iconst C dX10_told_64 ?_
          refine k_goto C (tgt := 69) dX10_told_65 rfl ?_
          exact k_iret C dX10_told_69 (by omega) (fun _ => ⟨rfl, Or.inl ⟨rfl, by omega⟩⟩)
      · have eo : off = 48 := by simpa using z3.symm
        subst eo
        have et : t = 70 := by omega
        subst et
        refine k_aload_n C dX10_told_70 rfl rfl ?_
        refine k_getR C (j := 1) okC10 rfl (by decide) (by decide) rfl flX10_21 dX10_told_71 ?_
        refine k_getR C (j := 2) okC0 rfl (by decide) (by decide) rfl flX10_133 dX10_told_74 ?_
        refine k_iload_n C dX10_told_77 rfl rfl ?_
        refine k_zaload C rfl (by decide) (by decide) ⟨by omega, by omega⟩ dX10_told_78 (fun ld78 => ?_)
        refine k_if_eq C (tgt := 86) dX10_told_79 rfl (by omega) (fun c79 => ?_) (fun c79 => ?_)
        · refine k_iconst C dX10_told_86 ?_
          exact k_iret C dX10_told_87 (by omega) (fun _ => ⟨rfl, Or.inr (Or.inl ⟨rfl, by omega⟩)⟩)
        · refine k_iconst C dX10_told_82 ?_
          refine k_goto C (tgt := 87) dX10_told_83 rfl ?_
          exact k_iret C dX10_told_87 (by omega) (fun _ => ⟨rfl, Or.inr (Or.inl ⟨rfl, by omega⟩)⟩)
      · have eo : off = 66 := by simpa using z3.symm
        subst eo
        have et : t = 88 := by omega
        subst et
        refine k_aload_n C dX10_told_88 rfl rfl ?_
        refine k_getR C (j := 1) okC10 rfl (by decide) (by decide) rfl flX10_21 dX10_told_89 ?_
        refine k_iload_n C dX10_told_92 rfl rfl ?_
        refine k_callV C okX10_136 dX10_told_93 (c_Book_sizeOf M r ⟨hr.1, hr.2, by omega⟩) rfl rfl (by decide) rfl (by decide) rfl (Nat.le_of_ble_eq_true rfl) (fun r93 M93 hr93 hp93 => ?_)
        obtain ⟨rfl, g93⟩ := hp93
        exact k_iret C dX10_told_96 (by omega) (fun _ => ⟨rfl, Or.inr (Or.inr (Or.inl ⟨rfl, g93⟩))⟩)
      · have eo : off = 75 := by simpa using z3.symm
        subst eo
        have et : t = 97 := by omega
        subst et
        refine k_aload_n C dX10_told_97 rfl rfl ?_
        refine k_getR C (j := 1) okC10 rfl (by decide) (by decide) rfl flX10_21 dX10_told_98 ?_
        refine k_iload_n C dX10_told_101 rfl rfl ?_
        refine k_callV C okX10_139 dX10_told_102 (c_Book_standingOf M hB r hr) rfl rfl (by decide) rfl (by decide) rfl (Nat.le_of_ble_eq_true rfl) (fun r102 M102 hr102 hp102 => ?_)
        obtain ⟨rfl, g102⟩ := hp102
        exact k_iret C dX10_told_105 (by omega) (fun _ => ⟨rfl, Or.inr (Or.inr (Or.inr ⟨rfl, g102⟩))⟩)
    · have ew : wh = 0 ∨ wh = 1 ∨ wh = 2 ∨ wh = 3 := by omega
      rcases ew with rfl | rfl | rfl | rfl
      · exact ⟨30, 52, rfl, rfl⟩
      · exact ⟨48, 70, rfl, rfl⟩
      · exact ⟨66, 88, rfl, rfl⟩
      · exact ⟨75, 97, rfl, rfl⟩
    · exfalso; omega
  · exfalso; omega
set_option maxHeartbeats 4000000 in
set_option maxRecDepth 100000 in
theorem c_checkStep (M : Mem) (hL : LwC M) (s c : Int) (hs : inR s) (hc : inR c) (gs : 0 ≤ s ∧ s < M 23 2) (gc : 0 ≤ c ∧ c < 8) : Ct shC nC yX10_checkStep cX10_checkStep 3 none (lvl 1) [.inr 0, .inl s, .inl c] M (fun _ M' => M = M') := by
  refine Ct_of (by decide +kernel) (Nat.le_of_ble_eq_true rfl) (fun K C => ?_)
  have l1 := hL.1
  have l2 := hL.2.1
  refine k_aload_n C dX10_checkStep_0 rfl rfl ?_
  refine k_getR C (j := 4) okC10 rfl (by decide) (by decide) rfl flX10_46 dX10_checkStep_1 ?_
  refine k_iload_n C dX10_checkStep_4 rfl rfl ?_
  refine k_callV C okX10_223 dX10_checkStep_5 (c_Law_hasState M s hs) rfl rfl (by decide) rfl (by decide) rfl (Nat.le_of_ble_eq_true rfl) (fun r5 M5 hr5 hp5 => ?_)
  obtain ⟨rfl, g5⟩ := hp5
  refine k_if_ne C (tgt := 21) dX10_checkStep_8 rfl (by omega) (fun c8 => ?_) (fun c8 => ?_)
  · refine k_iload_n C dX10_checkStep_21 rfl rfl ?_
    refine k_callS C okX10_92 dX10_checkStep_22 (c_isCall M c hc) rfl (by decide) rfl (Nat.le_of_ble_eq_true rfl) (fun r22 M22 hr22 hp22 => ?_)
    obtain ⟨rfl, g22⟩ := hp22
    refine k_if_ne C (tgt := 38) dX10_checkStep_25 rfl (by omega) (fun c25 => ?_) (fun c25 => ?_)
    · exact k_vret C dX10_checkStep_38 (fun _ => rfl)
    · exfalso; omega
  · exfalso; omega
set_option maxHeartbeats 4000000 in
set_option maxRecDepth 100000 in
theorem c_step (M : Mem) (hL : LwC M) (s c : Int) (hs : inR s) (hc : inR c) (gs : 0 ≤ s ∧ s < M 23 2) (gc : 0 ≤ c ∧ c < 8) : Ct shC nC yX10_step cX10_step 3 (some .int) (lvl 2) [.inr 0, .inl s, .inl c] M (fun r M' => M = M' ∧ r = M 24 (8 * s + c)) := by
  refine Ct_of (by decide +kernel) (Nat.le_of_ble_eq_true rfl) (fun K C => ?_)
  have l1 := hL.1
  have l2 := hL.2.1
  refine k_aload_n C dX10_step_0 rfl rfl ?_
  refine k_iload_n C dX10_step_1 rfl rfl ?_
  refine k_iload_n C dX10_step_2 rfl rfl ?_
  refine k_callV C okX10_161 dX10_step_3 (c_checkStep M hL s c hs hc gs gc) rfl rfl (by decide) rfl (by decide) rfl (Nat.le_of_ble_eq_true rfl) (fun r3 M3 hr3 hp3 => ?_)
  subst hp3
  refine k_aload_n C dX10_step_6 rfl rfl ?_
  refine k_getR C (j := 4) okC10 rfl (by decide) (by decide) rfl flX10_46 dX10_step_7 ?_
  refine k_iload_n C dX10_step_10 rfl rfl ?_
  refine k_iload_n C dX10_step_11 rfl rfl ?_
  refine k_callV C okX10_165 dX10_step_12 (c_Law_after M s c hs hc) rfl rfl (by decide) rfl (by decide) rfl (Nat.le_of_ble_eq_true rfl) (fun r12 M12 hr12 hp12 => ?_)
  obtain ⟨rfl, g12⟩ := hp12
  exact k_iret C dX10_step_15 (by omega) (fun _ => ⟨rfl, by omega⟩)
set_option maxHeartbeats 4000000 in
set_option maxRecDepth 100000 in
theorem c_seen (M : Mem) (hL : LwC M) (s c : Int) (hs : inR s) (hc : inR c) (gs : 0 ≤ s ∧ s < M 23 2) (gc : 0 ≤ c ∧ c < 8) : Ct shC nC yX10_seen cX10_seen 3 (some .int) (lvl 2) [.inr 0, .inl s, .inl c] M (fun r M' => M = M' ∧ r = M 25 (8 * s + c)) := by
  refine Ct_of (by decide +kernel) (Nat.le_of_ble_eq_true rfl) (fun K C => ?_)
  have l1 := hL.1
  have l2 := hL.2.1
  refine k_aload_n C dX10_seen_0 rfl rfl ?_
  refine k_iload_n C dX10_seen_1 rfl rfl ?_
  refine k_iload_n C dX10_seen_2 rfl rfl ?_
  refine k_callV C okX10_161 dX10_seen_3 (c_checkStep M hL s c hs hc gs gc) rfl rfl (by decide) rfl (by decide) rfl (Nat.le_of_ble_eq_true rfl) (fun r3 M3 hr3 hp3 => ?_)
  subst hp3
  refine k_aload_n C dX10_seen_6 rfl rfl ?_
  refine k_getR C (j := 4) okC10 rfl (by decide) (by decide) rfl flX10_46 dX10_seen_7 ?_
  refine k_iload_n C dX10_seen_10 rfl rfl ?_
  refine k_iload_n C dX10_seen_11 rfl rfl ?_
  refine k_callV C okX10_169 dX10_seen_12 (c_Law_timesOver M s c hs hc) rfl rfl (by decide) rfl (by decide) rfl (Nat.le_of_ble_eq_true rfl) (fun r12 M12 hr12 hp12 => ?_)
  obtain ⟨rfl, g12⟩ := hp12
  exact k_iret C dX10_seen_15 (by omega) (fun _ => ⟨rfl, by omega⟩)
set_option maxHeartbeats 4000000 in
set_option maxRecDepth 100000 in
theorem c_routine (M : Mem) (hz : 0 ≤ M 29 1 ∧ M 29 1 ≤ 200) (hb : ∀ i, 0 ≤ i → i < 200 → 0 ≤ M 30 i ∧ M 30 i < 256) (ht : ∀ i, 0 ≤ i → i < 200 → 0 ≤ M 32 i ∧ M 32 i < 256) (n : Int) (hi : inR n) (hn : 0 ≤ n ∧ n ≤ M 29 1) : Ct shC nC yX10_routine cX10_routine 3 (some .int) (lvl 3) [.inr 0, .inl n] M (fun r M' => (scf (M 30) n 201 0 0 0 = -1 ∧ r = 0 ∧ RpF (up M 29 1 0) M' ∧ RtC M' ∧ M' 31 7 = n ∧ ∀ i, 0 ≤ i → i < n → M' 32 i = M 30 i) ∨ (¬ scf (M 30) n 201 0 0 0 = -1 ∧ r = -2 - scf (M 30) n 201 0 0 0 ∧ M' = up M 29 1 0)) := by
  refine Ct_of (by decide +kernel) (Nat.le_of_ble_eq_true rfl) (fun K C => ?_)
  have e30 : up M 29 1 0 30 = M 30 := up_ne (by decide)
  have sr := scf_rg (tx := M 30) (n := n) 201 0 0 0 (Int.le_refl _) hn.1
  refine k_iload_n C dX10_routine_0 rfl rfl ?_
  refine k_if_lt C (tgt := 15) dX10_routine_1 rfl (by omega) (fun c1 => ?_) (fun c1 => ?_)
  · exfalso; omega
  · refine k_iload_n C dX10_routine_4 rfl rfl ?_
    refine k_aload_n C dX10_routine_5 rfl rfl ?_
    refine k_getR C (j := 6) okC10 rfl (by decide) (by decide) rfl flX10_57 dX10_routine_6 ?_
    refine k_getJ C 1 1 rfl okC5 rfl (by decide) (by decide) rfl flX10_106 dX10_routine_9 (fun ld9 => ?_)
    have l9 := ld9
    refine k_icmp_le C (tgt := 25) dX10_routine_12 rfl (by omega) (by omega) (fun c12 => ?_) (fun c12 => ?_)
    · refine k_aload_n C dX10_routine_25 rfl rfl ?_
      refine k_getR C (j := 6) okC10 rfl (by decide) (by decide) rfl flX10_57 dX10_routine_26 ?_
      refine k_iconst C dX10_routine_29 ?_
      refine k_putJ C 1 1 rfl okC5 rfl (by decide) (by decide) rfl rfl rfl (by omega) flX10_106 dX10_routine_30 ?_
      refine k_aload_n C dX10_routine_33 rfl rfl ?_
      refine k_getR C (j := 6) okC10 rfl (by decide) (by decide) rfl flX10_57 dX10_routine_34 ?_
      refine k_getR C (j := 0) okC5 rfl (by decide) (by decide) rfl flX10_184 dX10_routine_37 ?_
      refine k_iload_n C dX10_routine_40 rfl rfl ?_
      refine k_callS C okX10_188 dX10_routine_41 (c_faultIn (up M 29 1 0) n ⟨hn.1, by omega⟩ (fun i a b => by rw [up_ne (by decide)]; exact hb i a b)) rfl (by decide) rfl (Nat.le_of_ble_eq_true rfl) (fun r41 M41 hr41 hp41 => ?_)
      obtain ⟨rfl, g41⟩ := hp41
      rw [e30] at g41
      refine k_istore_n C dX10_routine_44 rfl (by decide) ?_
      refine k_iload_n C dX10_routine_45 rfl rfl ?_
      refine k_iconst C dX10_routine_46 ?_
      refine k_icmp_eq C (tgt := 55) dX10_routine_47 rfl (by omega) (by omega) (fun c47 => ?_) (fun c47 => ?_)
      · refine k_aload_n C dX10_routine_55 rfl rfl ?_
        refine k_getR C (j := 7) okC10 rfl (by decide) (by decide) rfl flX10_63 dX10_routine_56 ?_
        refine k_aload_n C dX10_routine_59 rfl rfl ?_
        refine k_getR C (j := 6) okC10 rfl (by decide) (by decide) rfl flX10_57 dX10_routine_60 ?_
        refine k_getR C (j := 0) okC5 rfl (by decide) (by decide) rfl flX10_184 dX10_routine_63 ?_
        refine k_iload_n C dX10_routine_66 rfl rfl ?_
        refine k_callV C okX10_192 dX10_routine_67 (c_replaceBy (up M 29 1 0) n ⟨hn.1, by omega⟩ (by rw [e30]; omega) (fun i a b => by rw [up_ne (by decide)]; exact hb i a b) (fun i a b => by rw [up_ne (by decide)]; exact ht i a b)) rfl rfl (by decide) rfl (by decide) rfl (Nat.le_of_ble_eq_true rfl) (fun r67 M67 hr67 hp67 => ?_)
        rw [up_ne (by decide)] at hp67
        refine k_iconst C dX10_routine_70 ?_
        exact k_iret C dX10_routine_71 (by omega) (fun _ => Or.inl ⟨by omega, rfl, hp67⟩)
      · refine k_bipush C dX10_routine_50 (by decide) ?_
        refine k_iload_n C dX10_routine_52 rfl rfl ?_
        refine k_isub C dX10_routine_53 ?_
        exact k_iret C dX10_routine_54 (by omega) (fun _ => Or.inr ⟨by omega, by omega, rfl⟩)
    · exfalso; omega
set_option maxHeartbeats 4000000 in
set_option maxRecDepth 100000 in
theorem c_habit (M : Mem) (hB : BkC M) (x y wh : Int) (hx : inR x) (hy : inR y) (hw : inR wh) (gx : 0 ≤ x ∧ x < 8) (gy : 0 ≤ y ∧ y < 8) (gw : wh = 0 ∨ wh = 1) : Ct shC nC yX10_habit cX10_habit 4 (some .int) (lvl 4) [.inr 0, .inl x, .inl y, .inl wh] M (fun r M' => (∀ k, k ≠ 52 → k ≠ 53 → k ≠ 54 → M' k = M k) ∧ ((wh = 0 ∧ r = cnI (hvP (M 5) (M 6) (M 7) (M 4) x) (M 3 6)) ∨ (wh = 1 ∧ r = cnI (hoP (M 5) (M 6) (M 7) (M 4) x y) (M 3 6)))) := by
  refine Ct_of (by decide +kernel) (Nat.le_of_ble_eq_true rfl) (fun K C => ?_)
  refine k_iload_n C dX10_habit_0 rfl rfl ?_
  refine k_callS C okX10_92 dX10_habit_1 (c_isCall M x hx) rfl (by decide) rfl (Nat.le_of_ble_eq_true rfl) (fun r1 M1 hr1 hp1 => ?_)
  obtain ⟨rfl, g1⟩ := hp1
  refine k_if_eq C (tgt := 14) dX10_habit_4 rfl (by omega) (fun c4 => ?_) (fun c4 => ?_)
  · exfalso; omega
  · refine k_iload_n C dX10_habit_7 rfl rfl ?_
    refine k_callS C okX10_92 dX10_habit_8 (c_isCall M y hy) rfl (by decide) rfl (Nat.le_of_ble_eq_true rfl) (fun r8 M8 hr8 hp8 => ?_)
    obtain ⟨rfl, g8⟩ := hp8
    refine k_if_ne C (tgt := 24) dX10_habit_11 rfl (by omega) (fun c11 => ?_) (fun c11 => ?_)
    · refine k_iload_n C dX10_habit_24 rfl rfl ?_
      refine k_if_eq C (tgt := 43) dX10_habit_25 rfl (by omega) (fun c25 => ?_) (fun c25 => ?_)
      · refine k_aload_n C dX10_habit_43 rfl rfl ?_
        refine k_getR C (j := 10) okC10 rfl (by decide) (by decide) rfl flX10_88 dX10_habit_44 ?_
        refine k_callV C okX10_205 dX10_habit_47 (c_Habits_survey M hB) rfl rfl (by decide) rfl (by decide) rfl (Nat.le_of_ble_eq_true rfl) (fun r47 M47 hr47 hp47 => ?_)
        refine k_iload_n C dX10_habit_50 rfl rfl ?_
        refine k_if_ne C (tgt := 65) dX10_habit_51 rfl (by omega) (fun c51 => ?_) (fun c51 => ?_)
        · refine k_aload_n C dX10_habit_65 rfl rfl ?_
          refine k_getR C (j := 10) okC10 rfl (by decide) (by decide) rfl flX10_88 dX10_habit_66 ?_
          refine k_iload_n C dX10_habit_69 rfl rfl ?_
          refine k_iload_n C dX10_habit_70 rfl rfl ?_
          refine k_callV C okX10_211 dX10_habit_71 (c_Habits_holding _ x y gx gy) rfl rfl (by decide) rfl (by decide) rfl (Nat.le_of_ble_eq_true rfl) (fun r71 M71 hr71 hp71 => ?_)
          obtain ⟨rfl, gr⟩ := hp71
          exact k_iret C dX10_habit_74 (by omega) (fun _ => ⟨hp47.1, by first | exact Or.inl ⟨by omega, by rw [gr]; exact hp47.2.1 x gx.1 gx.2⟩ | exact Or.inr ⟨by omega, by rw [gr]; exact hp47.2.2 x y gx.1 gx.2 gy.1 gy.2⟩⟩)
        · refine k_aload_n C dX10_habit_54 rfl rfl ?_
          refine k_getR C (j := 10) okC10 rfl (by decide) (by decide) rfl flX10_88 dX10_habit_55 ?_
          refine k_iload_n C dX10_habit_58 rfl rfl ?_
          refine k_callV C okX10_208 dX10_habit_59 (c_Habits_having _ x gx) rfl rfl (by decide) rfl (by decide) rfl (Nat.le_of_ble_eq_true rfl) (fun r59 M59 hr59 hp59 => ?_)
          obtain ⟨rfl, gr⟩ := hp59
          refine k_goto C (tgt := 74) dX10_habit_62 rfl ?_
          exact k_iret C dX10_habit_74 (by omega) (fun _ => ⟨hp47.1, by first | exact Or.inl ⟨by omega, by rw [gr]; exact hp47.2.1 x gx.1 gx.2⟩ | exact Or.inr ⟨by omega, by rw [gr]; exact hp47.2.2 x y gx.1 gx.2 gy.1 gy.2⟩⟩)
      · refine k_iload_n C dX10_habit_28 rfl rfl ?_
        refine k_iconst C dX10_habit_29 ?_
        refine k_icmp_eq C (tgt := 43) dX10_habit_30 rfl (by omega) (by omega) (fun c30 => ?_) (fun c30 => ?_)
        · refine k_aload_n C dX10_habit_43 rfl rfl ?_
          refine k_getR C (j := 10) okC10 rfl (by decide) (by decide) rfl flX10_88 dX10_habit_44 ?_
          refine k_callV C okX10_205 dX10_habit_47 (c_Habits_survey M hB) rfl rfl (by decide) rfl (by decide) rfl (Nat.le_of_ble_eq_true rfl) (fun r47 M47 hr47 hp47 => ?_)
          refine k_iload_n C dX10_habit_50 rfl rfl ?_
          refine k_if_ne C (tgt := 65) dX10_habit_51 rfl (by omega) (fun c51 => ?_) (fun c51 => ?_)
          · refine k_aload_n C dX10_habit_65 rfl rfl ?_
            refine k_getR C (j := 10) okC10 rfl (by decide) (by decide) rfl flX10_88 dX10_habit_66 ?_
            refine k_iload_n C dX10_habit_69 rfl rfl ?_
            refine k_iload_n C dX10_habit_70 rfl rfl ?_
            refine k_callV C okX10_211 dX10_habit_71 (c_Habits_holding _ x y gx gy) rfl rfl (by decide) rfl (by decide) rfl (Nat.le_of_ble_eq_true rfl) (fun r71 M71 hr71 hp71 => ?_)
            obtain ⟨rfl, gr⟩ := hp71
            exact k_iret C dX10_habit_74 (by omega) (fun _ => ⟨hp47.1, by first | exact Or.inl ⟨by omega, by rw [gr]; exact hp47.2.1 x gx.1 gx.2⟩ | exact Or.inr ⟨by omega, by rw [gr]; exact hp47.2.2 x y gx.1 gx.2 gy.1 gy.2⟩⟩)
          · refine k_aload_n C dX10_habit_54 rfl rfl ?_
            refine k_getR C (j := 10) okC10 rfl (by decide) (by decide) rfl flX10_88 dX10_habit_55 ?_
            refine k_iload_n C dX10_habit_58 rfl rfl ?_
            refine k_callV C okX10_208 dX10_habit_59 (c_Habits_having _ x gx) rfl rfl (by decide) rfl (by decide) rfl (Nat.le_of_ble_eq_true rfl) (fun r59 M59 hr59 hp59 => ?_)
            obtain ⟨rfl, gr⟩ := hp59
            refine k_goto C (tgt := 74) dX10_habit_62 rfl ?_
            exact k_iret C dX10_habit_74 (by omega) (fun _ => ⟨hp47.1, by first | exact Or.inl ⟨by omega, by rw [gr]; exact hp47.2.1 x gx.1 gx.2⟩ | exact Or.inr ⟨by omega, by rw [gr]; exact hp47.2.2 x y gx.1 gx.2 gy.1 gy.2⟩⟩)
        · exfalso; omega
    · exfalso; omega
set_option maxHeartbeats 4000000 in
set_option maxRecDepth 100000 in
theorem c_rank (M : Mem) (hB : BkC M) (k wh : Int) (hk : inR k) (hw : inR wh) (gw : wh = 0 ∨ wh = 1) : Ct shC nC yX10_rank cX10_rank 4 (some .int) (lvl 5) [.inr 0, .inl k, .inl wh] M (fun r M' => (∀ k, k ≠ 52 → k ≠ 53 → k ≠ 54 → M' k = M k) ∧ SvR M M' (M 3 6) ∧ ∃ q, RkP (M' 52) (M' 53) k q ∧ ((q = -1 ∧ r = -1) ∨ (0 ≤ q ∧ ((wh = 0 ∧ r = q / 8) ∨ (wh = 1 ∧ r = q % 8))))) := by
  refine Ct_of (by decide +kernel) (Nat.le_of_ble_eq_true rfl) (fun K C => ?_)
  refine k_iload_n C dX10_rank_0 rfl rfl ?_
  refine k_if_eq C (tgt := 19) dX10_rank_1 rfl (by omega) (fun c1 => ?_) (fun c1 => ?_)
  · refine k_aload_n C dX10_rank_19 rfl rfl ?_
    refine k_getR C (j := 10) okC10 rfl (by decide) (by decide) rfl flX10_88 dX10_rank_20 ?_
    refine k_callV C okX10_205 dX10_rank_23 (c_Habits_survey M hB) rfl rfl (by decide) rfl (by decide) rfl (Nat.le_of_ble_eq_true rfl) (fun r23 M23 hr23 hp23 => ?_)
    refine k_aload_n C dX10_rank_26 rfl rfl ?_
    refine k_getR C (j := 10) okC10 rfl (by decide) (by decide) rfl flX10_88 dX10_rank_27 ?_
    refine k_iload_n C dX10_rank_30 rfl rfl ?_
    refine k_callV C okX10_214 dX10_rank_31 (c_Habits_atRank _ (SvR_ok hB hp23.2) k hk) rfl rfl (by decide) rfl (by decide) rfl (Nat.le_of_ble_eq_true rfl) (fun r31 M31 hr31 hp31 => ?_)
    obtain ⟨rfl, g31⟩ := hp31
    refine k_istore_n C dX10_rank_34 rfl (by decide) ?_
    have q31 : r31 = -1 ∨ (0 ≤ r31 ∧ r31 < 64) := by rcases g31 with g | g <;> omega
    refine k_iload_n C dX10_rank_35 rfl rfl ?_
    refine k_iconst C dX10_rank_36 ?_
    refine k_icmp_ne C (tgt := 42) dX10_rank_37 rfl (by omega) (by omega) (fun c37 => ?_) (fun c37 => ?_)
    · refine k_iload_n C dX10_rank_42 rfl rfl ?_
      refine k_if_ne C (tgt := 53) dX10_rank_43 rfl (by omega) (fun c43 => ?_) (fun c43 => ?_)
      · refine k_iload_n C dX10_rank_53 rfl rfl ?_
        refine k_bipush C dX10_rank_54 (by decide) ?_
        refine k_irem C dX10_rank_56 (by rcases g31 with g | g <;> omega) (by decide) ?_
        exact k_iret C dX10_rank_57 (by omega) (fun _ => ⟨hp23.1, hp23.2, r31, g31, Or.inr ⟨by omega, by omega⟩⟩)
      · refine k_iload_n C dX10_rank_46 rfl rfl ?_
        refine k_bipush C dX10_rank_47 (by decide) ?_
        refine k_idiv C dX10_rank_49 (by rcases g31 with g | g <;> omega) (by decide) ?_
        refine k_goto C (tgt := 57) dX10_rank_50 rfl ?_
        exact k_iret C dX10_rank_57 (by omega) (fun _ => ⟨hp23.1, hp23.2, r31, g31, Or.inr ⟨by omega, by omega⟩⟩)
    · refine k_iconst C dX10_rank_40 ?_
      exact k_iret C dX10_rank_41 (by omega) (fun _ => ⟨hp23.1, hp23.2, r31, g31, Or.inl ⟨by omega, rfl⟩⟩)
  · refine k_iload_n C dX10_rank_4 rfl rfl ?_
    refine k_iconst C dX10_rank_5 ?_
    refine k_icmp_eq C (tgt := 19) dX10_rank_6 rfl (by omega) (by omega) (fun c6 => ?_) (fun c6 => ?_)
    · refine k_aload_n C dX10_rank_19 rfl rfl ?_
      refine k_getR C (j := 10) okC10 rfl (by decide) (by decide) rfl flX10_88 dX10_rank_20 ?_
      refine k_callV C okX10_205 dX10_rank_23 (c_Habits_survey M hB) rfl rfl (by decide) rfl (by decide) rfl (Nat.le_of_ble_eq_true rfl) (fun r23 M23 hr23 hp23 => ?_)
      refine k_aload_n C dX10_rank_26 rfl rfl ?_
      refine k_getR C (j := 10) okC10 rfl (by decide) (by decide) rfl flX10_88 dX10_rank_27 ?_
      refine k_iload_n C dX10_rank_30 rfl rfl ?_
      refine k_callV C okX10_214 dX10_rank_31 (c_Habits_atRank _ (SvR_ok hB hp23.2) k hk) rfl rfl (by decide) rfl (by decide) rfl (Nat.le_of_ble_eq_true rfl) (fun r31 M31 hr31 hp31 => ?_)
      obtain ⟨rfl, g31⟩ := hp31
      refine k_istore_n C dX10_rank_34 rfl (by decide) ?_
      have q31 : r31 = -1 ∨ (0 ≤ r31 ∧ r31 < 64) := by rcases g31 with g | g <;> omega
      refine k_iload_n C dX10_rank_35 rfl rfl ?_
      refine k_iconst C dX10_rank_36 ?_
      refine k_icmp_ne C (tgt := 42) dX10_rank_37 rfl (by omega) (by omega) (fun c37 => ?_) (fun c37 => ?_)
      · refine k_iload_n C dX10_rank_42 rfl rfl ?_
        refine k_if_ne C (tgt := 53) dX10_rank_43 rfl (by omega) (fun c43 => ?_) (fun c43 => ?_)
        · refine k_iload_n C dX10_rank_53 rfl rfl ?_
          refine k_bipush C dX10_rank_54 (by decide) ?_
          refine k_irem C dX10_rank_56 (by rcases g31 with g | g <;> omega) (by decide) ?_
          exact k_iret C dX10_rank_57 (by omega) (fun _ => ⟨hp23.1, hp23.2, r31, g31, Or.inr ⟨by omega, by omega⟩⟩)
        · refine k_iload_n C dX10_rank_46 rfl rfl ?_
          refine k_bipush C dX10_rank_47 (by decide) ?_
          refine k_idiv C dX10_rank_49 (by rcases g31 with g | g <;> omega) (by decide) ?_
          refine k_goto C (tgt := 57) dX10_rank_50 rfl ?_
          exact k_iret C dX10_rank_57 (by omega) (fun _ => ⟨hp23.1, hp23.2, r31, g31, Or.inr ⟨by omega, by omega⟩⟩)
      · refine k_iconst C dX10_rank_40 ?_
        exact k_iret C dX10_rank_41 (by omega) (fun _ => ⟨hp23.1, hp23.2, r31, g31, Or.inl ⟨by omega, rfl⟩⟩)
    · exfalso; omega
