/-! UsageDesk (cell 0): the plain methods -/
/-- how many calls of a hand the law takes, from place i and state s on -/
def tkP (nx hd : Int → Int) (n : Int) : Nat → Int → Int → Int
  | 0, i, _ => i
  | f + 1, i, s => if i < n then (if nx (8 * s + hd i) = -1 then i else tkP nx hd n f (i + 1) (nx (8 * s + hd i))) else i
set_option maxHeartbeats 4000000 in
set_option maxRecDepth 100000 in
theorem c_empty (M : Mem) : Ct shC nC yX10_empty cX10_empty 2 (some .int) (lvl 0) [.inr 0] M (fun r M' => r = M 1 1 ∧ M' = up M 1 1 0) := by
  refine Ct_of (by decide +kernel) (Nat.le_of_ble_eq_true rfl) (fun K C => ?_)
  refine k_aload_n C dX10_empty_0 rfl rfl ?_
  refine k_getR C (j := 0) okC10 rfl (by decide) (by decide) rfl flX10_14 dX10_empty_1 ?_
  refine k_getJ C 1 1 rfl okC5 rfl (by decide) (by decide) rfl flX10_106 dX10_empty_4 (fun ld4 => ?_)
  refine k_istore_n C dX10_empty_7 rfl (by decide) ?_
  refine k_aload_n C dX10_empty_8 rfl rfl ?_
  refine k_getR C (j := 0) okC10 rfl (by decide) (by decide) rfl flX10_14 dX10_empty_9 ?_
  refine k_iconst C dX10_empty_12 ?_
  refine k_putJ C 1 1 rfl okC5 rfl (by decide) (by decide) rfl rfl rfl (by omega) flX10_106 dX10_empty_13 ?_
  refine k_iload_n C dX10_empty_16 rfl rfl ?_
  exact k_iret C dX10_empty_17 (by omega) (fun _ => ⟨rfl, rfl⟩)
set_option maxHeartbeats 4000000 in
set_option maxRecDepth 100000 in
theorem c_hand (M : Mem) (hH : HdC M) (i : Int) (hi : inR i) : Ct shC nC yX10_hand cX10_hand 2 (some .int) (lvl 1) [.inr 0, .inl i] M (fun r M' => M = M' ∧ r = if 0 ≤ i ∧ i < M 1 1 then M 2 i else -1) := by
  refine Ct_of (by decide +kernel) (Nat.le_of_ble_eq_true rfl) (fun K C => ?_)
  have h1 := hH.1; have h2 := hH.2.1
  refine k_aload_n C dX10_hand_0 rfl rfl ?_
  refine k_getR C (j := 0) okC10 rfl (by decide) (by decide) rfl flX10_14 dX10_hand_1 ?_
  refine k_iload_n C dX10_hand_4 rfl rfl ?_
  refine k_callV C okX10_110 dX10_hand_5 (c_Line_at 1 2 12 rfl (by decide) rfl (by decide) (by decide) M i hi) rfl rfl (by decide) rfl (by decide) rfl (Nat.le_of_ble_eq_true rfl) (fun r5 M5 hr5 hp5 => ?_)
  obtain ⟨rfl, e5⟩ := hp5
  have e6 : r5 = if 0 ≤ i ∧ i < M 1 1 then M 2 i else -1 := by rw [e5]; by_cases z : 0 ≤ i ∧ i < M 1 1; rw [if_pos z, if_pos (by omega)]; rw [if_neg z, if_neg (by omega)]
  exact k_iret C dX10_hand_8 (by omega) (fun _ => ⟨rfl, e6⟩)
set_option maxHeartbeats 4000000 in
set_option maxRecDepth 100000 in
theorem c_row (M : Mem) (hB : BkC M) (hH : HdC M) (right : Int) (hr : right = 0 ∨ right = 1) : Ct shC nC yX10_row cX10_row 3 (some .int) (lvl 2) [.inr 0, .inl right] M (fun r M' => ((right = 0 ∧ M 1 1 = 0) ∧ r = -1 ∧ M = M') ∨ (¬ (right = 0 ∧ M 1 1 = 0) ∧ M 3 6 = 60 ∧ r = -2 ∧ M = M') ∨ (¬ (right = 0 ∧ M 1 1 = 0) ∧ M 3 6 < 60 ∧ r = M 3 6 ∧ M' = up (entM M right) 1 1 0)) := by
  refine Ct_of (by decide +kernel) (Nat.le_of_ble_eq_true rfl) (fun K C => ?_)
  have b1 := hB.1; have b2 := hB.2.1
  refine k_iload_n C dX10_row_0 rfl rfl ?_
  refine k_if_ne C (tgt := 16) dX10_row_1 rfl (by omega) (fun c1 => ?_) (fun c1 => ?_)
  · refine k_aload_n C dX10_row_16 rfl rfl ?_
    refine k_getR C (j := 1) okC10 rfl (by decide) (by decide) rfl flX10_21 dX10_row_17 ?_
    refine k_getJ C 6 6 rfl okC0 rfl (by decide) (by decide) rfl flX10_114 dX10_row_20 (fun ld20 => ?_)
    refine k_bipush C dX10_row_23 (by decide) ?_
    refine k_icmp_lt C (tgt := 31) dX10_row_25 rfl (by omega) (by omega) (fun c25 => ?_) (fun c25 => ?_)
    · refine k_aload_n C dX10_row_31 rfl rfl ?_
      refine k_getR C (j := 1) okC10 rfl (by decide) (by decide) rfl flX10_21 dX10_row_32 ?_
      refine k_aload_n C dX10_row_35 rfl rfl ?_
      refine k_getR C (j := 0) okC10 rfl (by decide) (by decide) rfl flX10_14 dX10_row_36 ?_
      refine k_iload_n C dX10_row_39 rfl rfl ?_
      refine k_callV C okX10_117 dX10_row_40 (c_Book_enter M hB (by omega) ⟨hH.1, hH.2.1⟩ right hr) rfl rfl (by decide) rfl (by decide) rfl (Nat.le_of_ble_eq_true rfl) (fun r40 M40 hr40 hp40 => ?_)
      obtain ⟨rfl, rfl⟩ := hp40
      refine k_istore_n C dX10_row_43 rfl (by decide) ?_
      refine k_aload_n C dX10_row_44 rfl rfl ?_
      refine k_getR C (j := 0) okC10 rfl (by decide) (by decide) rfl flX10_14 dX10_row_45 ?_
      refine k_iconst C dX10_row_48 ?_
      refine k_putJ C 1 1 rfl okC5 rfl (by decide) (by decide) rfl rfl rfl (by omega) flX10_106 dX10_row_49 ?_
      refine k_iload_n C dX10_row_52 rfl rfl ?_
      exact k_iret C dX10_row_53 (by omega) (fun _ => Or.inr (Or.inr ⟨by omega, by omega, rfl, rfl⟩))
    · refine k_bipush C dX10_row_28 (by decide) ?_
      exact k_iret C dX10_row_30 (by omega) (fun _ => Or.inr (Or.inl ⟨by omega, by omega, rfl, rfl⟩))
  · refine k_aload_n C dX10_row_4 rfl rfl ?_
    refine k_getR C (j := 0) okC10 rfl (by decide) (by decide) rfl flX10_14 dX10_row_5 ?_
    refine k_getJ C 1 1 rfl okC5 rfl (by decide) (by decide) rfl flX10_106 dX10_row_8 (fun ld8 => ?_)
    refine k_if_ne C (tgt := 16) dX10_row_11 rfl (by omega) (fun c11 => ?_) (fun c11 => ?_)
    · refine k_aload_n C dX10_row_16 rfl rfl ?_
      refine k_getR C (j := 1) okC10 rfl (by decide) (by decide) rfl flX10_21 dX10_row_17 ?_
      refine k_getJ C 6 6 rfl okC0 rfl (by decide) (by decide) rfl flX10_114 dX10_row_20 (fun ld20 => ?_)
      refine k_bipush C dX10_row_23 (by decide) ?_
      refine k_icmp_lt C (tgt := 31) dX10_row_25 rfl (by omega) (by omega) (fun c25 => ?_) (fun c25 => ?_)
      · refine k_aload_n C dX10_row_31 rfl rfl ?_
        refine k_getR C (j := 1) okC10 rfl (by decide) (by decide) rfl flX10_21 dX10_row_32 ?_
        refine k_aload_n C dX10_row_35 rfl rfl ?_
        refine k_getR C (j := 0) okC10 rfl (by decide) (by decide) rfl flX10_14 dX10_row_36 ?_
        refine k_iload_n C dX10_row_39 rfl rfl ?_
        refine k_callV C okX10_117 dX10_row_40 (c_Book_enter M hB (by omega) ⟨hH.1, hH.2.1⟩ right hr) rfl rfl (by decide) rfl (by decide) rfl (Nat.le_of_ble_eq_true rfl) (fun r40 M40 hr40 hp40 => ?_)
        obtain ⟨rfl, rfl⟩ := hp40
        refine k_istore_n C dX10_row_43 rfl (by decide) ?_
        refine k_aload_n C dX10_row_44 rfl rfl ?_
        refine k_getR C (j := 0) okC10 rfl (by decide) (by decide) rfl flX10_14 dX10_row_45 ?_
        refine k_iconst C dX10_row_48 ?_
        refine k_putJ C 1 1 rfl okC5 rfl (by decide) (by decide) rfl rfl rfl (by omega) flX10_106 dX10_row_49 ?_
        refine k_iload_n C dX10_row_52 rfl rfl ?_
        exact k_iret C dX10_row_53 (by omega) (fun _ => Or.inr (Or.inr ⟨by omega, by omega, rfl, rfl⟩))
      · refine k_bipush C dX10_row_28 (by decide) ?_
        exact k_iret C dX10_row_30 (by omega) (fun _ => Or.inr (Or.inl ⟨by omega, by omega, rfl, rfl⟩))
    · refine k_iconst C dX10_row_14 ?_
      exact k_iret C dX10_row_15 (by omega) (fun _ => Or.inl ⟨by omega, rfl, rfl⟩)
set_option maxHeartbeats 4000000 in
set_option maxRecDepth 100000 in
theorem c_doubt (M : Mem) (n : Int) (hn : inR n) : Ct shC nC yX10_doubt cX10_doubt 2 (some .int) (lvl 1) [.inr 0, .inl n] M (fun r M' => M = M' ∧ r = cnI (fun i => ¬ M 24 i = -1 ∧ M 25 i < n) 240) := by
  refine Ct_of (by decide +kernel) (Nat.le_of_ble_eq_true rfl) (fun K C => ?_)
  refine k_aload_n C dX10_doubt_0 rfl rfl ?_
  refine k_getR C (j := 4) okC10 rfl (by decide) (by decide) rfl flX10_46 dX10_doubt_1 ?_
  refine k_iload_n C dX10_doubt_4 rfl rfl ?_
  refine k_callV C okX10_172 dX10_doubt_5 (c_Law_stepsBelow M n hn) rfl rfl (by decide) rfl (by decide) rfl (Nat.le_of_ble_eq_true rfl) (fun r5 M5 hr5 hp5 => ?_)
  exact k_iret C dX10_doubt_8 (by omega) (fun _ => hp5)
set_option maxHeartbeats 4000000 in
set_option maxRecDepth 100000 in
theorem c_broken (M : Mem) (hz : 0 ≤ M 45 1 ∧ M 45 1 ≤ 6031) (i : Int) (hi : inR i) : Ct shC nC yX10_broken cX10_broken 2 (some .int) (lvl 1) [.inr 0, .inl i] M (fun r M' => M = M' ∧ r = if 0 ≤ i ∧ i < M 45 1 then M 46 i else -1) := by
  refine Ct_of (by decide +kernel) (Nat.le_of_ble_eq_true rfl) (fun K C => ?_)
  refine k_aload_n C dX10_broken_0 rfl rfl ?_
  refine k_getR C (j := 8) okC10 rfl (by decide) (by decide) rfl flX10_72 dX10_broken_1 ?_
  refine k_getR C (j := 7) okC3 rfl (by decide) (by decide) rfl flX10_199 dX10_broken_4 ?_
  refine k_iload_n C dX10_broken_7 rfl rfl ?_
  refine k_callV C okX10_110 dX10_broken_8 (c_Line_at 45 46 6031 rfl (by decide) rfl (by decide) (by decide) M i hi) rfl rfl (by decide) rfl (by decide) rfl (Nat.le_of_ble_eq_true rfl) (fun r8 M8 hr8 hp8 => ?_)
  obtain ⟨rfl, e5⟩ := hp8
  have e6 : r8 = if 0 ≤ i ∧ i < M 45 1 then M 46 i else -1 := by rw [e5]; by_cases z : 0 ≤ i ∧ i < M 45 1; rw [if_pos z, if_pos (by omega)]; rw [if_neg z, if_neg (by omega)]
  exact k_iret C dX10_broken_11 (by omega) (fun _ => ⟨rfl, e6⟩)
set_option maxHeartbeats 4000000 in
set_option maxRecDepth 100000 in
theorem c_mend (M : Mem) (hL : LwC M) (hH : HdC M) : Ct shC nC yX10_mend cX10_mend 2 (some .int) (lvl 6) [.inr 0] M (fun r M' => (∀ j, j ≠ 1 → j ≠ 2 → j ≠ 47 → j ≠ 48 → j ≠ 49 → j ≠ 50 → M' j = M j) ∧ MendP M (M' 1 1) (M' 2) r) := by
  refine Ct_of (by decide +kernel) (Nat.le_of_ble_eq_true rfl) (fun K C => ?_)
  refine k_aload_n C dX10_mend_0 rfl rfl ?_
  refine k_getR C (j := 9) okC10 rfl (by decide) (by decide) rfl flX10_81 dX10_mend_1 ?_
  refine k_callV C okX10_202 dX10_mend_4 (c_mendHand M hL hH) rfl rfl (by decide) rfl (by decide) rfl (Nat.le_of_ble_eq_true rfl) (fun r4 M4 hr4 hp4 => ?_)
  refine k_istore_n C dX10_mend_7 rfl (by decide) ?_
  refine k_iload_n C dX10_mend_8 rfl rfl ?_
  refine k_iconst C dX10_mend_9 ?_
  refine k_icmp_ne C (tgt := 17) dX10_mend_10 rfl (by omega) (by omega) (fun c10 => ?_) (fun c10 => ?_)
  · refine k_iload_n C dX10_mend_17 rfl rfl ?_
    exact k_iret C dX10_mend_18 (by omega) (fun _ => by first | exact hp4 | (rw [c10] at hp4; exact hp4))
  · refine k_iconst C dX10_mend_13 ?_
    refine k_goto C (tgt := 18) dX10_mend_14 rfl ?_
    exact k_iret C dX10_mend_18 (by omega) (fun _ => by first | exact hp4 | (rw [c10] at hp4; exact hp4))
set_option maxHeartbeats 4000000 in
set_option maxRecDepth 100000 in
theorem l_takes {K : Kt} (M : Mem) (hL : LwC M) (hH : HdC M) (C : Ctx shC nC RX10 cX10_takes 3 (some .int) (lvl 2) (fun r M' => M = M' ∧ r = tkP (M 24) (M 2) (M 1 1) 13 0 0) K) (i s : Int) (hi : 0 ≤ i ∧ i ≤ M 1 1) (hs : 0 ≤ s ∧ s < M 23 2) (f : Nat) (hf : M 1 1 - i < f) (he : tkP (M 24) (M 2) (M 1 1) 13 0 0 = tkP (M 24) (M 2) (M 1 1) f i s) : K 4 [(0, .inr 0), (1, .inl s), (2, .inl i)] [] M := by
  have h1 := hH.1; have h2 := hH.2.1; have l1 := hL.1; have l2 := hL.2.1
  obtain ⟨g, rfl⟩ : ∃ g, f = g + 1 := ⟨f - 1, by omega⟩
  refine k_iload_n C dX10_takes_4 rfl rfl ?_
  refine k_aload_n C dX10_takes_5 rfl rfl ?_
  refine k_getR C (j := 0) okC10 rfl (by decide) (by decide) rfl flX10_14 dX10_takes_6 ?_
  refine k_getJ C 1 1 rfl okC5 rfl (by decide) (by decide) rfl flX10_106 dX10_takes_9 (fun ld9 => ?_)
  refine k_icmp_ge C (tgt := 45) dX10_takes_12 rfl (by omega) (by omega) (fun c12 => ?_) (fun c12 => ?_)
  · refine k_aload_n C dX10_takes_45 rfl rfl ?_
    refine k_getR C (j := 0) okC10 rfl (by decide) (by decide) rfl flX10_14 dX10_takes_46 ?_
    refine k_getJ C 1 1 rfl okC5 rfl (by decide) (by decide) rfl flX10_106 dX10_takes_49 (fun ld49 => ?_)
    exact k_iret C dX10_takes_52 (by omega) (fun _ => by
        refine ⟨rfl, ?_⟩
        rw [he]
        show _ = (if i < M 1 1 then _ else i)
        rw [if_neg (by omega)]; omega)
  · have hhd := hH.2.2 i hi.1 c12
    have hto := hL.2.2 s (M 2 i) hs.1 hs.2 hhd.1 hhd.2
    refine k_aload_n C dX10_takes_15 rfl rfl ?_
    refine k_getR C (j := 4) okC10 rfl (by decide) (by decide) rfl flX10_46 dX10_takes_16 ?_
    refine k_iload_n C dX10_takes_19 rfl rfl ?_
    refine k_aload_n C dX10_takes_20 rfl rfl ?_
    refine k_getR C (j := 0) okC10 rfl (by decide) (by decide) rfl flX10_14 dX10_takes_21 ?_
    refine k_iload_n C dX10_takes_24 rfl rfl ?_
    refine k_callV C okX10_110 dX10_takes_25 (c_Line_at 1 2 12 rfl (by decide) rfl (by decide) (by decide) M i (by omega)) rfl rfl (by decide) rfl (by decide) rfl (Nat.le_of_ble_eq_true rfl) (fun r25 M25 hr25 hp25 => ?_)
    obtain ⟨rfl, rfl⟩ := hp25
    rw [if_pos (by omega)]
    refine k_callV C okX10_165 dX10_takes_28 (c_Law_after M s (M 2 i) (by omega) (by omega)) rfl rfl (by decide) rfl (by decide) rfl (Nat.le_of_ble_eq_true rfl) (fun r28 M28 hr28 hp28 => ?_)
    obtain ⟨rfl, hp28⟩ := hp28
    have e28 : r28 = M 24 (8 * s + M 2 i) := by omega
    subst e28
    refine k_istore_n C dX10_takes_31 rfl (by decide) ?_
    refine k_iload_n C dX10_takes_32 rfl rfl ?_
    refine k_iconst C dX10_takes_33 ?_
    refine k_icmp_ne C (tgt := 39) dX10_takes_34 rfl (by omega) (by omega) (fun c34 => ?_) (fun c34 => ?_)
    · refine k_iinc C dX10_takes_39 (by decide) rfl ?_
      refine k_goto C (tgt := 4) dX10_takes_42 rfl ?_
      refine k_cut2 C (lv' := [(0, _), (1, _), (2, _)]) ⟨rfl, rfl, rfl, trivial⟩ ?_
      refine l_takes M hL hH C (i + 1) (M 24 (8 * s + M 2 i)) (by omega) (by omega) g (by omega) ?_
      rw [he]
      show (if i < M 1 1 then _ else i) = _
      rw [if_pos c12, if_neg c34]
    · refine k_iload_n C dX10_takes_37 rfl rfl ?_
      exact k_iret C dX10_takes_38 (by omega) (fun _ => by
        refine ⟨rfl, ?_⟩
        rw [he]
        show _ = (if i < M 1 1 then _ else i)
        rw [if_pos c12, if_pos c34])
termination_by (M 1 1 - i).toNat
decreasing_by all_goals omega
set_option maxHeartbeats 4000000 in
set_option maxRecDepth 100000 in
theorem c_takes (M : Mem) (hL : LwC M) (hH : HdC M) : Ct shC nC yX10_takes cX10_takes 3 (some .int) (lvl 2) [.inr 0] M (fun r M' => M = M' ∧ r = tkP (M 24) (M 2) (M 1 1) 13 0 0) := by
  refine Ct_of (by decide +kernel) (Nat.le_of_ble_eq_true rfl) (fun K C => ?_)
  have h1 := hH.1; have h2 := hH.2.1; have l1 := hL.1
  refine k_iconst C dX10_takes_0 ?_
  refine k_istore_n C dX10_takes_1 rfl (by decide) ?_
  refine k_iconst C dX10_takes_2 ?_
  refine k_istore_n C dX10_takes_3 rfl (by decide) ?_
  refine k_cut2 C (lv' := [(0, _), (1, _), (2, _)]) ⟨rfl, rfl, rfl, trivial⟩ ?_
  exact l_takes M hL hH C 0 0 (by omega) (by omega) 13 (by omega) rfl
