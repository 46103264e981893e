/-! UsageDesk$Book: cell 3 -/
set_option maxRecDepth 100000 in
theorem c_Book_knows (M : Mem) (row : Int) (hr : inR row) : Ct shC nC yX0_knows cX0_knows 2 (some .boolean) (lvl 0) [.inr 3, .inl row] M (fun r M' => M = M' ∧ ((r = 1 ∧ (0 ≤ row ∧ row < M 3 6 ∧ row < 60)) ∨ (r = 0 ∧ ¬ (0 ≤ row ∧ row < M 3 6 ∧ row < 60)))) := by
  refine Ct_of (by decide +kernel) (Nat.le_of_ble_eq_true rfl) (fun K C => ?_)
  refine k_iload_n C dX0_knows_0 rfl rfl ?_
  refine k_if_lt C (tgt := 22) dX0_knows_1 rfl (by omega) (fun c1 => ?_) (fun c1 => ?_)
  · refine k_iconst C dX0_knows_22 ?_
    exact k_zret C dX0_knows_23 (by omega) (fun _ => ⟨rfl, by omega⟩)
  · refine k_iload_n C dX0_knows_4 rfl rfl ?_
    refine k_aload_n C dX0_knows_5 rfl rfl ?_
    refine k_getJ C 6 6 rfl okC0 rfl (by decide) (by decide) rfl flX0_28 dX0_knows_6 (fun _ => ?_)
    refine k_icmp_ge C (tgt := 22) dX0_knows_9 rfl (by omega) (by omega) (fun c9 => ?_) (fun c9 => ?_)
    · refine k_iconst C dX0_knows_22 ?_
      exact k_zret C dX0_knows_23 (by omega) (fun _ => ⟨rfl, by omega⟩)
    · refine k_iload_n C dX0_knows_12 rfl rfl ?_
      refine k_bipush C dX0_knows_13 (by decide) ?_
      refine k_icmp_ge C (tgt := 22) dX0_knows_15 rfl (by omega) (by omega) (fun c15 => ?_) (fun c15 => ?_)
      · refine k_iconst C dX0_knows_22 ?_
        exact k_zret C dX0_knows_23 (by omega) (fun _ => ⟨rfl, by omega⟩)
      · refine k_iconst C dX0_knows_18 ?_
        refine k_goto C (tgt := 23) dX0_knows_19 rfl ?_
        exact k_zret C dX0_knows_23 (by omega) (fun _ => ⟨rfl, by omega⟩)
set_option maxRecDepth 100000 in
theorem c_Book_sizeOf (M : Mem) (row : Int) (hr : (0 ≤ row ∧ row < M 3 6 ∧ row < 60)) : Ct shC nC yX0_sizeOf cX0_sizeOf 2 (some .int) (lvl 1) [.inr 3, .inl row] M (fun r M' => M = M' ∧ r = M 5 row) := by
  refine Ct_of (by decide +kernel) (Nat.le_of_ble_eq_true rfl) (fun K C => ?_)
  refine k_aload_n C dX0_sizeOf_0 rfl rfl ?_
  refine k_iload_n C dX0_sizeOf_1 rfl rfl ?_
  refine k_callV C okX0_41 dX0_sizeOf_2 (c_Book_knows M row (by omega)) rfl rfl (by decide) rfl (by decide) rfl (Nat.le_of_ble_eq_true rfl) (fun r2 M2 hr2 hp2 => ?_)
  obtain ⟨rfl, hp2⟩ := hp2
  refine k_if_eq C (tgt := 17) dX0_sizeOf_5 rfl (by omega) (fun c5 => ?_) (fun c5 => ?_)
  · refine k_iconst C dX0_sizeOf_17 ?_
    exact k_iret C dX0_sizeOf_18 (by omega) (fun _ => ⟨rfl, by first | rfl | omega⟩)
  · refine k_aload_n C dX0_sizeOf_8 rfl rfl ?_
    refine k_getR C (j := 1) okC0 rfl (by decide) (by decide) rfl flX0_15 dX0_sizeOf_9 ?_
    refine k_iload_n C dX0_sizeOf_12 rfl rfl ?_
    refine k_iaload C rfl (by decide) (by decide) ⟨by omega, by omega⟩ dX0_sizeOf_13 (fun _ => ?_)
    refine k_goto C (tgt := 18) dX0_sizeOf_14 rfl ?_
    exact k_iret C dX0_sizeOf_18 (by omega) (fun _ => ⟨rfl, by first | rfl | omega⟩)
set_option maxRecDepth 100000 in
theorem c_Book_callAt (M : Mem) (row i : Int) (hr : 0 ≤ row ∧ row < 60) (hi : 0 ≤ i ∧ i < 12) : Ct shC nC yX0_callAt cX0_callAt 3 (some .int) (lvl 0) [.inr 3, .inl row, .inl i] M (fun r M' => M = M' ∧ r = M 4 (12 * row + i)) := by
  refine Ct_of (by decide +kernel) (Nat.le_of_ble_eq_true rfl) (fun K C => ?_)
  refine k_iload_n C dX0_callAt_0 rfl rfl ?_
  refine k_if_lt C (tgt := 20) dX0_callAt_1 rfl (by omega) (fun c1 => ?_) (fun c1 => ?_)
  · refine k_iconst C dX0_callAt_20 ?_
    exact k_iret C dX0_callAt_21 (by omega) (fun _ => by omega)
  · refine k_iload_n C dX0_callAt_4 rfl rfl ?_
    refine k_bipush C dX0_callAt_5 (by decide) ?_
    refine k_icmp_ge C (tgt := 20) dX0_callAt_7 rfl (by omega) (by omega) (fun c7 => ?_) (fun c7 => ?_)
    · refine k_iconst C dX0_callAt_20 ?_
      exact k_iret C dX0_callAt_21 (by omega) (fun _ => by omega)
    · refine k_iload_n C dX0_callAt_10 rfl rfl ?_
      refine k_if_lt C (tgt := 20) dX0_callAt_11 rfl (by omega) (fun c11 => ?_) (fun c11 => ?_)
      · refine k_iconst C dX0_callAt_20 ?_
        exact k_iret C dX0_callAt_21 (by omega) (fun _ => by omega)
      · refine k_iload_n C dX0_callAt_14 rfl rfl ?_
        refine k_bipush C dX0_callAt_15 (by decide) ?_
        refine k_icmp_lt C (tgt := 22) dX0_callAt_17 rfl (by omega) (by omega) (fun c17 => ?_) (fun c17 => ?_)
        · refine k_aload_n C dX0_callAt_22 rfl rfl ?_
          refine k_getR C (j := 0) okC0 rfl (by decide) (by decide) rfl flX0_9 dX0_callAt_23 ?_
          refine k_iload_n C dX0_callAt_26 rfl rfl ?_
          refine k_bipush C dX0_callAt_27 (by decide) ?_
          refine k_imul C dX0_callAt_29 ?_
          refine k_iload_n C dX0_callAt_30 rfl rfl ?_
          refine k_iadd C dX0_callAt_31 ?_
          refine k_iaload C rfl (by decide) (by decide) ⟨by omega, by omega⟩ dX0_callAt_32 (fun _ => ?_)
          exact k_iret C dX0_callAt_33 (by omega) (fun _ => ⟨rfl, by rw [Int.mul_comm]⟩)
        · refine k_iconst C dX0_callAt_20 ?_
          exact k_iret C dX0_callAt_21 (by omega) (fun _ => by omega)
set_option maxRecDepth 100000 in
theorem c_Book_isRightThere (M : Mem) (row : Int) (hr : inR row) : Ct shC nC yX0_isRightThere cX0_isRightThere 2 (some .boolean) (lvl 1) [.inr 3, .inl row] M (fun r M' => M = M' ∧ ((r = 1 ∧ (0 ≤ row ∧ row < M 3 6 ∧ row < 60 ∧ ¬ M 7 row = 0 ∧ ¬ M 6 row = 0)) ∨ (r = 0 ∧ ¬ (0 ≤ row ∧ row < M 3 6 ∧ row < 60 ∧ ¬ M 7 row = 0 ∧ ¬ M 6 row = 0)))) := by
  refine Ct_of (by decide +kernel) (Nat.le_of_ble_eq_true rfl) (fun K C => ?_)
  refine k_aload_n C dX0_isRightThere_0 rfl rfl ?_
  refine k_iload_n C dX0_isRightThere_1 rfl rfl ?_
  refine k_callV C okX0_41 dX0_isRightThere_2 (c_Book_knows M row (by omega)) rfl rfl (by decide) rfl (by decide) rfl (Nat.le_of_ble_eq_true rfl) (fun r2 M2 hr2 hp2 => ?_)
  obtain ⟨rfl, hp2⟩ := hp2
  refine k_if_eq C (tgt := 30) dX0_isRightThere_5 rfl (by omega) (fun c5 => ?_) (fun c5 => ?_)
  · refine k_iconst C dX0_isRightThere_30 ?_
    exact k_zret C dX0_isRightThere_31 (by omega) (fun _ => ⟨rfl, by omega⟩)
  · refine k_aload_n C dX0_isRightThere_8 rfl rfl ?_
    refine k_getR C (j := 3) okC0 rfl (by decide) (by decide) rfl flX0_22 dX0_isRightThere_9 ?_
    refine k_iload_n C dX0_isRightThere_12 rfl rfl ?_
    refine k_zaload C rfl (by decide) (by decide) ⟨by omega, by omega⟩ dX0_isRightThere_13 (fun _ => ?_)
    refine k_if_eq C (tgt := 30) dX0_isRightThere_14 rfl (by omega) (fun c14 => ?_) (fun c14 => ?_)
    · refine k_iconst C dX0_isRightThere_30 ?_
      exact k_zret C dX0_isRightThere_31 (by omega) (fun _ => ⟨rfl, by omega⟩)
    · refine k_aload_n C dX0_isRightThere_17 rfl rfl ?_
      refine k_getR C (j := 2) okC0 rfl (by decide) (by decide) rfl flX0_18 dX0_isRightThere_18 ?_
      refine k_iload_n C dX0_isRightThere_21 rfl rfl ?_
      refine k_zaload C rfl (by decide) (by decide) ⟨by omega, by omega⟩ dX0_isRightThere_22 (fun _ => ?_)
      refine k_if_eq C (tgt := 30) dX0_isRightThere_23 rfl (by omega) (fun c23 => ?_) (fun c23 => ?_)
      · refine k_iconst C dX0_isRightThere_30 ?_
        exact k_zret C dX0_isRightThere_31 (by omega) (fun _ => ⟨rfl, by omega⟩)
      · refine k_iconst C dX0_isRightThere_26 ?_
        refine k_goto C (tgt := 31) dX0_isRightThere_27 rfl ?_
        exact k_zret C dX0_isRightThere_31 (by omega) (fun _ => ⟨rfl, by omega⟩)
set_option maxRecDepth 100000 in
theorem c_Book_isWrongThere (M : Mem) (row : Int) (hr : inR row) : Ct shC nC yX0_isWrongThere cX0_isWrongThere 2 (some .boolean) (lvl 1) [.inr 3, .inl row] M (fun r M' => M = M' ∧ ((r = 1 ∧ (0 ≤ row ∧ row < M 3 6 ∧ row < 60 ∧ ¬ M 7 row = 0 ∧ M 6 row = 0)) ∨ (r = 0 ∧ ¬ (0 ≤ row ∧ row < M 3 6 ∧ row < 60 ∧ ¬ M 7 row = 0 ∧ M 6 row = 0)))) := by
  refine Ct_of (by decide +kernel) (Nat.le_of_ble_eq_true rfl) (fun K C => ?_)
  refine k_aload_n C dX0_isWrongThere_0 rfl rfl ?_
  refine k_iload_n C dX0_isWrongThere_1 rfl rfl ?_
  refine k_callV C okX0_41 dX0_isWrongThere_2 (c_Book_knows M row (by omega)) rfl rfl (by decide) rfl (by decide) rfl (Nat.le_of_ble_eq_true rfl) (fun r2 M2 hr2 hp2 => ?_)
  obtain ⟨rfl, hp2⟩ := hp2
  refine k_if_eq C (tgt := 30) dX0_isWrongThere_5 rfl (by omega) (fun c5 => ?_) (fun c5 => ?_)
  · refine k_iconst C dX0_isWrongThere_30 ?_
    exact k_zret C dX0_isWrongThere_31 (by omega) (fun _ => ⟨rfl, by omega⟩)
  · refine k_aload_n C dX0_isWrongThere_8 rfl rfl ?_
    refine k_getR C (j := 3) okC0 rfl (by decide) (by decide) rfl flX0_22 dX0_isWrongThere_9 ?_
    refine k_iload_n C dX0_isWrongThere_12 rfl rfl ?_
    refine k_zaload C rfl (by decide) (by decide) ⟨by omega, by omega⟩ dX0_isWrongThere_13 (fun _ => ?_)
    refine k_if_eq C (tgt := 30) dX0_isWrongThere_14 rfl (by omega) (fun c14 => ?_) (fun c14 => ?_)
    · refine k_iconst C dX0_isWrongThere_30 ?_
      exact k_zret C dX0_isWrongThere_31 (by omega) (fun _ => ⟨rfl, by omega⟩)
    · refine k_aload_n C dX0_isWrongThere_17 rfl rfl ?_
      refine k_getR C (j := 2) okC0 rfl (by decide) (by decide) rfl flX0_18 dX0_isWrongThere_18 ?_
      refine k_iload_n C dX0_isWrongThere_21 rfl rfl ?_
      refine k_zaload C rfl (by decide) (by decide) ⟨by omega, by omega⟩ dX0_isWrongThere_22 (fun _ => ?_)
      refine k_if_ne C (tgt := 30) dX0_isWrongThere_23 rfl (by omega) (fun c23 => ?_) (fun c23 => ?_)
      · refine k_iconst C dX0_isWrongThere_30 ?_
        exact k_zret C dX0_isWrongThere_31 (by omega) (fun _ => ⟨rfl, by omega⟩)
      · refine k_iconst C dX0_isWrongThere_26 ?_
        refine k_goto C (tgt := 31) dX0_isWrongThere_27 rfl ?_
        exact k_zret C dX0_isWrongThere_31 (by omega) (fun _ => ⟨rfl, by omega⟩)
noncomputable def cntf (th : Int → Int) : Nat → Int
  | 0 => 0
  | n + 1 => cntf th n + iteP (th n = 0) 0 1
noncomputable def cntI (th : Int → Int) (n : Int) : Int := cntf th n.toNat
theorem cntI_s (th : Int → Int) {n : Int} (h : 0 ≤ n) : cntI th (n + 1) = cntI th n + iteP (th n = 0) 0 1 := by
  unfold cntI
  have e : (n + 1).toNat = n.toNat + 1 := by omega
  have e2 : ((n.toNat : Nat) : Int) = n := by omega
  rw [e]
  simp only [cntf, e2]
theorem cntf_rg (th : Int → Int) : ∀ n, 0 ≤ cntf th n ∧ cntf th n ≤ n
  | 0 => by simp [cntf]
  | n + 1 => by
    have ih := cntf_rg th n
    simp only [cntf]
    by_cases h : th n = 0
    · rw [iteP_pos h]; omega
    · rw [iteP_neg h]; omega
theorem cntI_rg (th : Int → Int) {n : Int} (h : 0 ≤ n) : 0 ≤ cntI th n ∧ cntI th n ≤ n := by
  have := cntf_rg th n.toNat
  unfold cntI; omega
set_option maxRecDepth 100000 in
theorem l_countThere {K : Kt} (M : Mem) (C : Ctx shC nC RX0 cX0_countThere 3 (some .int) (lvl 0) (fun r M' => M = M' ∧ r = cntI (M 7) (M 3 6)) K) (hB : BkC M) (row sum : Int) (h0 : 0 ≤ row ∧ row ≤ M 3 6) (hs : sum = cntI (M 7) row) : K 4 [(0, .inr 3), (1, .inl sum), (2, .inl row)] [] M := by
  have hb1 := hB.1; have hb2 := hB.2.1; have hq := cntI_rg (M 7) h0.1; have hq2 := cntI_s (M 7) h0.1
  refine k_iload_n C dX0_countThere_4 rfl rfl ?_
  refine k_aload_n C dX0_countThere_5 rfl rfl ?_
  refine k_getJ C 6 6 rfl okC0 rfl (by decide) (by decide) rfl flX0_28 dX0_countThere_6 (fun _ => ?_)
  refine k_icmp_ge C (tgt := 41) dX0_countThere_9 rfl (by omega) (by omega) (fun c9 => ?_) (fun c9 => ?_)
  · refine k_iload_n C dX0_countThere_41 rfl rfl ?_
    exact k_iret C dX0_countThere_42 (by omega) (fun _ => ⟨rfl, by rw [hs]; congr 1; omega⟩)
  · refine k_iload_n C dX0_countThere_12 rfl rfl ?_
    refine k_bipush C dX0_countThere_13 (by decide) ?_
    refine k_icmp_ge C (tgt := 41) dX0_countThere_15 rfl (by omega) (by omega) (fun c15 => ?_) (fun c15 => ?_)
    · refine k_iload_n C dX0_countThere_41 rfl rfl ?_
      exact k_iret C dX0_countThere_42 (by omega) (fun _ => ⟨rfl, by rw [hs]; congr 1; omega⟩)
    · refine k_iload_n C dX0_countThere_18 rfl rfl ?_
      refine k_aload_n C dX0_countThere_19 rfl rfl ?_
      refine k_getR C (j := 3) okC0 rfl (by decide) (by decide) rfl flX0_22 dX0_countThere_20 ?_
      refine k_iload_n C dX0_countThere_23 rfl rfl ?_
      refine k_zaload C rfl (by decide) (by decide) ⟨by omega, by omega⟩ dX0_countThere_24 (fun _ => ?_)
      refine k_if_eq C (tgt := 32) dX0_countThere_25 rfl (by omega) (fun c25 => ?_) (fun c25 => ?_)
      · refine k_iconst C dX0_countThere_32 ?_
        refine k_iadd C dX0_countThere_33 ?_
        refine k_istore_n C dX0_countThere_34 rfl (by decide) ?_
        refine k_iinc C dX0_countThere_35 (by decide) rfl ?_
        refine k_goto C (tgt := 4) dX0_countThere_38 rfl ?_
        refine k_cut2 C (lv' := [(0, _), (1, _), (2, _)]) ⟨rfl, rfl, rfl, trivial⟩ ?_
        exact l_countThere M C hB _ _ (by omega) (by first | (rw [hq2, iteP_neg c25, hs]) | (rw [hq2, iteP_pos (by omega), hs]))
      · refine k_iconst C dX0_countThere_28 ?_
        refine k_goto C (tgt := 33) dX0_countThere_29 rfl ?_
        refine k_iadd C dX0_countThere_33 ?_
        refine k_istore_n C dX0_countThere_34 rfl (by decide) ?_
        refine k_iinc C dX0_countThere_35 (by decide) rfl ?_
        refine k_goto C (tgt := 4) dX0_countThere_38 rfl ?_
        refine k_cut2 C (lv' := [(0, _), (1, _), (2, _)]) ⟨rfl, rfl, rfl, trivial⟩ ?_
        exact l_countThere M C hB _ _ (by omega) (by first | (rw [hq2, iteP_neg c25, hs]) | (rw [hq2, iteP_pos (by omega), hs]))
termination_by (M 3 6 - row).toNat
decreasing_by all_goals omega
set_option maxRecDepth 100000 in
theorem c_Book_countThere (M : Mem) (hB : BkC M) : Ct shC nC yX0_countThere cX0_countThere 3 (some .int) (lvl 0) [.inr 3] M (fun r M' => M = M' ∧ r = cntI (M 7) (M 3 6)) := by
  refine Ct_of (by decide +kernel) (Nat.le_of_ble_eq_true rfl) (fun K C => ?_)
  have hb1 := hB.1
  refine k_iconst C dX0_countThere_0 ?_
  refine k_istore_n C dX0_countThere_1 rfl (by decide) ?_
  refine k_iconst C dX0_countThere_2 ?_
  refine k_istore_n C dX0_countThere_3 rfl (by decide) ?_
  refine k_cut2 C (lv' := [(0, _), (1, _), (2, _)]) ⟨rfl, rfl, rfl, trivial⟩ ?_
  exact l_countThere M C hB _ _ (by omega) rfl
