/-! UsageDesk$Book: beginnings, cuts, what is left out, what binds, a new row -/
set_option maxRecDepth 100000 in
theorem l_beginsWith {K : Kt} (M : Mem) (hB : BkC M) (row w : Int) (hr : 0 ≤ row ∧ row < M 3 6) (hw : 0 ≤ w ∧ w < M 3 6) (C : Ctx shC nC RX0 cX0_beginsWith 5 (some .boolean) (lvl 2) (fun r M' => M = M' ∧ ((r = 1 ∧ bw (M 5) (M 4) row w) ∨ (r = 0 ∧ ¬ bw (M 5) (M 4) row w))) K) (i : Int) (hi : 0 ≤ i ∧ i ≤ M 5 w) (hle : M 5 w ≤ M 5 row) (hj : ∀ j, 0 ≤ j → j < i → M 4 (12 * row + j) = M 4 (12 * w + j)) : K 20 [(0, .inr 3), (1, .inl row), (2, .inl w), (3, .inl (M 5 w)), (4, .inl i)] [] M := by
  have hb1 := hB.1; have hb2 := hB.2.1; have hbr := hB.2.2 row hr.1 hr.2; have hbw := hB.2.2 w hw.1 hw.2
  refine k_iload C dX0_beginsWith_20 rfl ?_
  refine k_iload_n C dX0_beginsWith_22 rfl rfl ?_
  refine k_icmp_ge C (tgt := 51) dX0_beginsWith_23 rfl (by omega) (by omega) (fun c23 => ?_) (fun c23 => ?_)
  · refine k_iconst C dX0_beginsWith_51 ?_
    exact k_zret C dX0_beginsWith_52 (by omega) (fun _ => ⟨rfl, Or.inl ⟨rfl, hle, fun j h1 h2 => hj j h1 (by omega)⟩⟩)
  · refine k_aload_n C dX0_beginsWith_26 rfl rfl ?_
    refine k_iload_n C dX0_beginsWith_27 rfl rfl ?_
    refine k_iload C dX0_beginsWith_28 rfl ?_
    refine k_callV C okX0_67 dX0_beginsWith_30 (c_Book_callAt M row i (by omega) (by omega)) rfl rfl (by decide) rfl (by decide) rfl (Nat.le_of_ble_eq_true rfl) (fun r30 M30 hr30 hp30 => ?_)
    obtain ⟨rfl, rfl⟩ := hp30
    refine k_aload_n C dX0_beginsWith_33 rfl rfl ?_
    refine k_iload_n C dX0_beginsWith_34 rfl rfl ?_
    refine k_iload C dX0_beginsWith_35 rfl ?_
    refine k_callV C okX0_67 dX0_beginsWith_37 (c_Book_callAt M w i (by omega) (by omega)) rfl rfl (by decide) rfl (by decide) rfl (Nat.le_of_ble_eq_true rfl) (fun r37 M37 hr37 hp37 => ?_)
    obtain ⟨rfl, rfl⟩ := hp37
    refine k_icmp_eq C (tgt := 45) dX0_beginsWith_40 rfl (by omega) (by omega) (fun c40 => ?_) (fun c40 => ?_)
    · refine k_iinc C dX0_beginsWith_45 (by decide) rfl ?_
      refine k_goto C (tgt := 20) dX0_beginsWith_48 rfl ?_
      refine k_cut2 C (lv' := [(0, _), (1, _), (2, _), (3, _), (4, _)]) ⟨rfl, rfl, rfl, rfl, rfl, trivial⟩ ?_
      refine l_beginsWith M hB row w hr hw C (i + 1) (by omega) hle (fun j h1 h2 => ?_)
      by_cases h3 : j = i
      · rw [h3]; exact c40
      · exact hj j h1 (by omega)
    · refine k_iconst C dX0_beginsWith_43 ?_
      exact k_zret C dX0_beginsWith_44 (by omega) (fun _ => ⟨rfl, Or.inr ⟨rfl, fun h => c40 (h.2 i hi.1 c23)⟩⟩)
termination_by (M 5 w - i).toNat
decreasing_by all_goals omega
set_option maxRecDepth 100000 in
theorem c_Book_beginsWith (M : Mem) (hB : BkC M) (row w : Int) (hr : 0 ≤ row ∧ row < M 3 6) (hw : 0 ≤ w ∧ w < M 3 6) : Ct shC nC yX0_beginsWith cX0_beginsWith 5 (some .boolean) (lvl 2) [.inr 3, .inl row, .inl w] M (fun r M' => M = M' ∧ ((r = 1 ∧ bw (M 5) (M 4) row w) ∨ (r = 0 ∧ ¬ bw (M 5) (M 4) row w))) := by
  refine Ct_of (by decide +kernel) (Nat.le_of_ble_eq_true rfl) (fun K C => ?_)
  have hb1 := hB.1; have hb2 := hB.2.1; have hbr := hB.2.2 row hr.1 hr.2; have hbw := hB.2.2 w hw.1 hw.2
  refine k_aload_n C dX0_beginsWith_0 rfl rfl ?_
  refine k_iload_n C dX0_beginsWith_1 rfl rfl ?_
  refine k_callV C okX0_57 dX0_beginsWith_2 (c_Book_sizeOf M w (by omega)) rfl rfl (by decide) rfl (by decide) rfl (Nat.le_of_ble_eq_true rfl) (fun r2 M2 hr2 hp2 => ?_)
  obtain ⟨rfl, rfl⟩ := hp2
  refine k_istore_n C dX0_beginsWith_5 rfl (by decide) ?_
  refine k_iload_n C dX0_beginsWith_6 rfl rfl ?_
  refine k_aload_n C dX0_beginsWith_7 rfl rfl ?_
  refine k_iload_n C dX0_beginsWith_8 rfl rfl ?_
  refine k_callV C okX0_57 dX0_beginsWith_9 (c_Book_sizeOf M row (by omega)) rfl rfl (by decide) rfl (by decide) rfl (Nat.le_of_ble_eq_true rfl) (fun r9 M9 hr9 hp9 => ?_)
  obtain ⟨rfl, rfl⟩ := hp9
  refine k_icmp_le C (tgt := 17) dX0_beginsWith_12 rfl (by omega) (by omega) (fun c12 => ?_) (fun c12 => ?_)
  · refine k_iconst C dX0_beginsWith_17 ?_
    refine k_istore C dX0_beginsWith_18 (by decide) ?_
    refine k_cut2 C (lv' := [(0, _), (1, _), (2, _), (3, _), (4, _)]) ⟨rfl, rfl, rfl, rfl, rfl, trivial⟩ ?_
    exact l_beginsWith M hB row w hr hw C 0 (by omega) (by omega) (fun j h1 h2 => by omega)
  · refine k_iconst C dX0_beginsWith_15 ?_
    exact k_zret C dX0_beginsWith_16 (by omega) (fun _ => ⟨rfl, Or.inr ⟨rfl, fun h => by have := h.1; omega⟩⟩)
set_option maxRecDepth 100000 in
theorem l_cutSize {K : Kt} (M : Mem) (hB : BkC M) (row : Int) (hr : 0 ≤ row ∧ row < M 3 6) (ht : M 7 row = 1) (hg : M 6 row = 1) (C : Ctx shC nC RX0 cX0_cutSize 4 (some .int) (lvl 3) (fun r M' => M = M' ∧ r = cutI (M 5) (M 6) (M 7) (M 4) row (M 3 6)) K) (w cut : Int) (hw : 0 ≤ w ∧ w ≤ M 3 6) (hc : cut = cutI (M 5) (M 6) (M 7) (M 4) row w) : K 8 [(0, .inr 3), (1, .inl row), (2, .inl cut), (3, .inl w)] [] M := by
  have hb1 := hB.1; have hb2 := hB.2.1; have hbr := hB.2.2 row hr.1 hr.2
  have hcr := cutI_rg hB hr.1 hr.2 hw.1 hw.2
  have hbw := hB.2.2 w hw.1
  refine k_iload_n C dX0_cutSize_8 rfl rfl ?_
  refine k_aload_n C dX0_cutSize_9 rfl rfl ?_
  refine k_getJ C 6 6 rfl okC0 rfl (by decide) (by decide) rfl flX0_28 dX0_cutSize_10 (fun _ => ?_)
  refine k_icmp_ge C (tgt := 56) dX0_cutSize_13 rfl (by omega) (by omega) (fun c13 => ?_) (fun c13 => ?_)
  · refine k_iload_n C dX0_cutSize_56 rfl rfl ?_
    exact k_iret C dX0_cutSize_57 (by omega) (fun _ => ⟨rfl, by rw [hc]; congr 1; omega⟩)
  · refine k_aload_n C dX0_cutSize_16 rfl rfl ?_
    refine k_iload_n C dX0_cutSize_17 rfl rfl ?_
    refine k_callV C okX0_51 dX0_cutSize_18 (c_Book_isWrongThere M w (by omega)) rfl rfl (by decide) rfl (by decide) rfl (Nat.le_of_ble_eq_true rfl) (fun r18 M18 hr18 hp18 => ?_)
    obtain ⟨rfl, hp18⟩ := hp18
    have hbw := hbw c13
    refine k_if_eq C (tgt := 50) dX0_cutSize_21 rfl (by omega) (fun c21 => ?_) (fun c21 => ?_)
    · refine k_iinc C dX0_cutSize_50 (by decide) rfl ?_
      refine k_goto C (tgt := 8) dX0_cutSize_53 rfl ?_
      refine k_cut2 C (lv' := [(0, _), (1, _), (2, _), (3, _)]) ⟨rfl, rfl, rfl, rfl, trivial⟩ ?_
      refine l_cutSize M hB row hr ht hg C (w + 1) _ (by omega) ?_
      rw [cutI_s _ _ _ _ _ hw.1]
      first
      | (rw [iteP_pos (by refine ⟨⟨by omega, by omega, ht, hg, ?_⟩, by omega⟩; rcases hp36 with h | h; exact h.2; omega)])
      | (rw [iteP_neg (fun h => by rcases hp36 with h2 | h2; omega; exact h2.2 h.1.2.2.2.2)]; exact hc)
      | (rw [iteP_neg (fun h => by have h1 := h.1.1; have h2 := h.1.2.1; omega)]; exact hc)
    · refine k_aload_n C dX0_cutSize_24 rfl rfl ?_
      refine k_iload_n C dX0_cutSize_25 rfl rfl ?_
      refine k_callV C okX0_57 dX0_cutSize_26 (c_Book_sizeOf M w (by omega)) rfl rfl (by decide) rfl (by decide) rfl (Nat.le_of_ble_eq_true rfl) (fun r26 M26 hr26 hp26 => ?_)
      obtain ⟨rfl, rfl⟩ := hp26
      refine k_iload_n C dX0_cutSize_29 rfl rfl ?_
      refine k_icmp_gt C (tgt := 50) dX0_cutSize_30 rfl (by omega) (by omega) (fun c30 => ?_) (fun c30 => ?_)
      · refine k_iinc C dX0_cutSize_50 (by decide) rfl ?_
        refine k_goto C (tgt := 8) dX0_cutSize_53 rfl ?_
        refine k_cut2 C (lv' := [(0, _), (1, _), (2, _), (3, _)]) ⟨rfl, rfl, rfl, rfl, trivial⟩ ?_
        refine l_cutSize M hB row hr ht hg C (w + 1) _ (by omega) ?_
        rw [cutI_s _ _ _ _ _ hw.1]
        first
        | (rw [iteP_pos (by refine ⟨⟨by omega, by omega, ht, hg, ?_⟩, by omega⟩; rcases hp36 with h | h; exact h.2; omega)])
        | (rw [iteP_neg (fun h => by rcases hp36 with h2 | h2; omega; exact h2.2 h.1.2.2.2.2)]; exact hc)
        | (rw [iteP_neg (fun h => by have h1 := h.1.1; have h2 := h.1.2.1; omega)]; exact hc)
      · refine k_aload_n C dX0_cutSize_33 rfl rfl ?_
        refine k_iload_n C dX0_cutSize_34 rfl rfl ?_
        refine k_iload_n C dX0_cutSize_35 rfl rfl ?_
        refine k_callV C okX0_60 dX0_cutSize_36 (c_Book_beginsWith M hB row w hr (by omega)) rfl rfl (by decide) rfl (by decide) rfl (Nat.le_of_ble_eq_true rfl) (fun r36 M36 hr36 hp36 => ?_)
        obtain ⟨rfl, hp36⟩ := hp36
        refine k_if_eq C (tgt := 50) dX0_cutSize_39 rfl (by omega) (fun c39 => ?_) (fun c39 => ?_)
        · refine k_iinc C dX0_cutSize_50 (by decide) rfl ?_
          refine k_goto C (tgt := 8) dX0_cutSize_53 rfl ?_
          refine k_cut2 C (lv' := [(0, _), (1, _), (2, _), (3, _)]) ⟨rfl, rfl, rfl, rfl, trivial⟩ ?_
          refine l_cutSize M hB row hr ht hg C (w + 1) _ (by omega) ?_
          rw [cutI_s _ _ _ _ _ hw.1]
          first
          | (rw [iteP_pos (by refine ⟨⟨by omega, by omega, ht, hg, ?_⟩, by omega⟩; rcases hp36 with h | h; exact h.2; omega)])
          | (rw [iteP_neg (fun h => by rcases hp36 with h2 | h2; omega; exact h2.2 h.1.2.2.2.2)]; exact hc)
          | (rw [iteP_neg (fun h => by have h1 := h.1.1; have h2 := h.1.2.1; omega)]; exact hc)
        · refine k_aload_n C dX0_cutSize_42 rfl rfl ?_
          refine k_iload_n C dX0_cutSize_43 rfl rfl ?_
          refine k_callV C okX0_57 dX0_cutSize_44 (c_Book_sizeOf M w (by omega)) rfl rfl (by decide) rfl (by decide) rfl (Nat.le_of_ble_eq_true rfl) (fun r44 M44 hr44 hp44 => ?_)
          obtain ⟨rfl, rfl⟩ := hp44
          refine k_iconst C dX0_cutSize_47 ?_
          refine k_isub C dX0_cutSize_48 ?_
          refine k_istore_n C dX0_cutSize_49 rfl (by decide) ?_
          refine k_iinc C dX0_cutSize_50 (by decide) rfl ?_
          refine k_goto C (tgt := 8) dX0_cutSize_53 rfl ?_
          refine k_cut2 C (lv' := [(0, _), (1, _), (2, _), (3, _)]) ⟨rfl, rfl, rfl, rfl, trivial⟩ ?_
          refine l_cutSize M hB row hr ht hg C (w + 1) _ (by omega) ?_
          rw [cutI_s _ _ _ _ _ hw.1]
          first
          | (rw [iteP_pos (by refine ⟨⟨by omega, by omega, ht, hg, ?_⟩, by omega⟩; rcases hp36 with h | h; exact h.2; omega)])
          | (rw [iteP_neg (fun h => by rcases hp36 with h2 | h2; omega; exact h2.2 h.1.2.2.2.2)]; exact hc)
          | (rw [iteP_neg (fun h => by have h1 := h.1.1; have h2 := h.1.2.1; omega)]; exact hc)
termination_by (M 3 6 - w).toNat
decreasing_by all_goals omega
set_option maxRecDepth 100000 in
theorem c_Book_cutSize (M : Mem) (hB : BkC M) (row : Int) (hr : 0 ≤ row ∧ row < M 3 6) (ht : M 7 row = 1) (hg : M 6 row = 1) : Ct shC nC yX0_cutSize cX0_cutSize 4 (some .int) (lvl 3) [.inr 3, .inl row] M (fun r M' => M = M' ∧ r = cutI (M 5) (M 6) (M 7) (M 4) row (M 3 6)) := by
  refine Ct_of (by decide +kernel) (Nat.le_of_ble_eq_true rfl) (fun K C => ?_)
  have hb1 := hB.1; have hb2 := hB.2.1; have hbr := hB.2.2 row hr.1 hr.2
  refine k_aload_n C dX0_cutSize_0 rfl rfl ?_
  refine k_iload_n C dX0_cutSize_1 rfl rfl ?_
  refine k_callV C okX0_57 dX0_cutSize_2 (c_Book_sizeOf M row (by omega)) rfl rfl (by decide) rfl (by decide) rfl (Nat.le_of_ble_eq_true rfl) (fun r2 M2 hr2 hp2 => ?_)
  obtain ⟨rfl, rfl⟩ := hp2
  refine k_istore_n C dX0_cutSize_5 rfl (by decide) ?_
  refine k_iconst C dX0_cutSize_6 ?_
  refine k_istore_n C dX0_cutSize_7 rfl (by decide) ?_
  refine k_cut2 C (lv' := [(0, _), (1, _), (2, _), (3, _)]) ⟨rfl, rfl, rfl, rfl, trivial⟩ ?_
  exact l_cutSize M hB row hr ht hg C 0 _ (by omega) rfl
set_option maxRecDepth 100000 in
theorem l_isLeftOut {K : Kt} (M : Mem) (hB : BkC M) (w : Int) (hw : 0 ≤ w ∧ w < M 3 6) (ht : M 7 w = 1) (hg : M 6 w = 0) (C : Ctx shC nC RX0 cX0_isLeftOut 3 (some .boolean) (lvl 3) (fun r M' => M = M' ∧ ((r = 1 ∧ lof (M 3 6) (M 5) (M 6) (M 7) (M 4) w) ∨ (r = 0 ∧ ¬ lof (M 3 6) (M 5) (M 6) (M 7) (M 4) w))) K) (r : Int) (hr : 0 ≤ r ∧ r ≤ M 3 6) (hj : ∀ j, 0 ≤ j → j < r → ¬ qr (M 5) (M 6) (M 7) (M 4) w j) : K 2 [(0, .inr 3), (1, .inl w), (2, .inl r)] [] M := by
  have hb1 := hB.1; have hb2 := hB.2.1; have hbw := hB.2.2 w hw.1 hw.2
  have hbr := hB.2.2 r hr.1
  refine k_iload_n C dX0_isLeftOut_2 rfl rfl ?_
  refine k_aload_n C dX0_isLeftOut_3 rfl rfl ?_
  refine k_getJ C 6 6 rfl okC0 rfl (by decide) (by decide) rfl flX0_28 dX0_isLeftOut_4 (fun _ => ?_)
  refine k_icmp_ge C (tgt := 35) dX0_isLeftOut_7 rfl (by omega) (by omega) (fun c7 => ?_) (fun c7 => ?_)
  · refine k_iconst C dX0_isLeftOut_35 ?_
    exact k_zret C dX0_isLeftOut_36 (by omega) (fun _ => ⟨rfl, Or.inr ⟨rfl, fun ⟨j, h1, h2, h3⟩ => hj j h1 (by omega) h3⟩⟩)
  · refine k_aload_n C dX0_isLeftOut_10 rfl rfl ?_
    refine k_iload_n C dX0_isLeftOut_11 rfl rfl ?_
    refine k_callV C okX0_45 dX0_isLeftOut_12 (c_Book_isRightThere M r (by omega)) rfl rfl (by decide) rfl (by decide) rfl (Nat.le_of_ble_eq_true rfl) (fun r12 M12 hr12 hp12 => ?_)
    obtain ⟨rfl, hp12⟩ := hp12
    have hbr := hbr c7
    refine k_if_eq C (tgt := 29) dX0_isLeftOut_15 rfl (by omega) (fun c15 => ?_) (fun c15 => ?_)
    · refine k_iinc C dX0_isLeftOut_29 (by decide) rfl ?_
      refine k_goto C (tgt := 2) dX0_isLeftOut_32 rfl ?_
      refine k_cut2 C (lv' := [(0, _), (1, _), (2, _)]) ⟨rfl, rfl, rfl, trivial⟩ ?_
      refine l_isLeftOut M hB w hw ht hg C (r + 1) (by omega) (fun j h1 h2 => ?_)
      by_cases h3 : j = r
      · subst h3; intro h
        first | (rcases hp21 with h4 | h4; omega; exact h4.2 h.2.2.2.2) | (have h5 := h.2.2.1; have h6 := h.2.2.2.1; omega)
      · exact hj j h1 (by omega)
    · refine k_aload_n C dX0_isLeftOut_18 rfl rfl ?_
      refine k_iload_n C dX0_isLeftOut_19 rfl rfl ?_
      refine k_iload_n C dX0_isLeftOut_20 rfl rfl ?_
      refine k_callV C okX0_60 dX0_isLeftOut_21 (c_Book_beginsWith M hB r w (by omega) hw) rfl rfl (by decide) rfl (by decide) rfl (Nat.le_of_ble_eq_true rfl) (fun r21 M21 hr21 hp21 => ?_)
      obtain ⟨rfl, hp21⟩ := hp21
      refine k_if_eq C (tgt := 29) dX0_isLeftOut_24 rfl (by omega) (fun c24 => ?_) (fun c24 => ?_)
      · refine k_iinc C dX0_isLeftOut_29 (by decide) rfl ?_
        refine k_goto C (tgt := 2) dX0_isLeftOut_32 rfl ?_
        refine k_cut2 C (lv' := [(0, _), (1, _), (2, _)]) ⟨rfl, rfl, rfl, trivial⟩ ?_
        refine l_isLeftOut M hB w hw ht hg C (r + 1) (by omega) (fun j h1 h2 => ?_)
        by_cases h3 : j = r
        · subst h3; intro h
          first | (rcases hp21 with h4 | h4; omega; exact h4.2 h.2.2.2.2) | (have h5 := h.2.2.1; have h6 := h.2.2.2.1; omega)
        · exact hj j h1 (by omega)
      · refine k_iconst C dX0_isLeftOut_27 ?_
        exact k_zret C dX0_isLeftOut_28 (by omega) (fun _ => ⟨rfl, Or.inl ⟨rfl, r, hr.1, c7, ht, hg, by omega, by omega, by rcases hp21 with h | h; exact h.2; omega⟩⟩)
termination_by (M 3 6 - r).toNat
decreasing_by all_goals omega
set_option maxRecDepth 100000 in
theorem c_Book_isLeftOut (M : Mem) (hB : BkC M) (w : Int) (hw : 0 ≤ w ∧ w < M 3 6) (ht : M 7 w = 1) (hg : M 6 w = 0) : Ct shC nC yX0_isLeftOut cX0_isLeftOut 3 (some .boolean) (lvl 3) [.inr 3, .inl w] M (fun r M' => M = M' ∧ ((r = 1 ∧ lof (M 3 6) (M 5) (M 6) (M 7) (M 4) w) ∨ (r = 0 ∧ ¬ lof (M 3 6) (M 5) (M 6) (M 7) (M 4) w))) := by
  refine Ct_of (by decide +kernel) (Nat.le_of_ble_eq_true rfl) (fun K C => ?_)
  have hb1 := hB.1; have hb2 := hB.2.1; have hbw := hB.2.2 w hw.1 hw.2
  refine k_iconst C dX0_isLeftOut_0 ?_
  refine k_istore_n C dX0_isLeftOut_1 rfl (by decide) ?_
  refine k_cut2 C (lv' := [(0, _), (1, _), (2, _)]) ⟨rfl, rfl, rfl, trivial⟩ ?_
  exact l_isLeftOut M hB w hw ht hg C 0 (by omega) (fun j h1 h2 => by omega)
set_option maxRecDepth 100000 in
theorem c_Book_standingOf (M : Mem) (hB : BkC M) (row : Int) (hr : 0 ≤ row ∧ row < M 3 6) : Ct shC nC yX0_standingOf cX0_standingOf 2 (some .int) (lvl 4) [.inr 3, .inl row] M (fun r M' => M = M' ∧ r = iteP (M 7 row = 0) 0 (iteP (M 6 row = 0) (iteP (lof (M 3 6) (M 5) (M 6) (M 7) (M 4) row) 1 0) (cutI (M 5) (M 6) (M 7) (M 4) row (M 3 6)))) := by
  refine Ct_of (by decide +kernel) (Nat.le_of_ble_eq_true rfl) (fun K C => ?_)
  have hb1 := hB.1; have hb2 := hB.2.1; have hbr := hB.2.2 row hr.1 hr.2
  refine k_aload_n C dX0_standingOf_0 rfl rfl ?_
  refine k_iload_n C dX0_standingOf_1 rfl rfl ?_
  refine k_callV C okX0_45 dX0_standingOf_2 (c_Book_isRightThere M row (by omega)) rfl rfl (by decide) rfl (by decide) rfl (Nat.le_of_ble_eq_true rfl) (fun r2 M2 hr2 hp2 => ?_)
  obtain ⟨rfl, hp2⟩ := hp2
  refine k_if_eq C (tgt := 14) dX0_standingOf_5 rfl (by omega) (fun c5 => ?_) (fun c5 => ?_)
  · refine k_aload_n C dX0_standingOf_14 rfl rfl ?_
    refine k_iload_n C dX0_standingOf_15 rfl rfl ?_
    refine k_callV C okX0_51 dX0_standingOf_16 (c_Book_isWrongThere M row (by omega)) rfl rfl (by decide) rfl (by decide) rfl (Nat.le_of_ble_eq_true rfl) (fun r16 M16 hr16 hp16 => ?_)
    obtain ⟨rfl, hp16⟩ := hp16
    refine k_if_eq C (tgt := 34) dX0_standingOf_19 rfl (by omega) (fun c19 => ?_) (fun c19 => ?_)
    · refine k_iconst C dX0_standingOf_34 ?_
      exact k_iret C dX0_standingOf_35 (by omega) (fun _ => ⟨rfl, by first | (rw [iteP_pos (by omega)]; done) | (rw [iteP_neg (by omega), iteP_pos (by omega), iteP_pos (by rcases hp24 with h | h; exact h.2; omega)]; done) | (rw [iteP_neg (by omega), iteP_pos (by omega), iteP_neg (by rcases hp24 with h | h; omega; exact h.2)]; done)⟩)
    · refine k_aload_n C dX0_standingOf_22 rfl rfl ?_
      refine k_iload_n C dX0_standingOf_23 rfl rfl ?_
      refine k_callV C okX0_54 dX0_standingOf_24 (c_Book_isLeftOut M hB row hr (by omega) (by omega)) rfl rfl (by decide) rfl (by decide) rfl (Nat.le_of_ble_eq_true rfl) (fun r24 M24 hr24 hp24 => ?_)
      obtain ⟨rfl, hp24⟩ := hp24
      refine k_if_eq C (tgt := 34) dX0_standingOf_27 rfl (by omega) (fun c27 => ?_) (fun c27 => ?_)
      · refine k_iconst C dX0_standingOf_34 ?_
        exact k_iret C dX0_standingOf_35 (by omega) (fun _ => ⟨rfl, by first | (rw [iteP_pos (by omega)]; done) | (rw [iteP_neg (by omega), iteP_pos (by omega), iteP_pos (by rcases hp24 with h | h; exact h.2; omega)]; done) | (rw [iteP_neg (by omega), iteP_pos (by omega), iteP_neg (by rcases hp24 with h | h; omega; exact h.2)]; done)⟩)
      · refine k_iconst C dX0_standingOf_30 ?_
        refine k_goto C (tgt := 35) dX0_standingOf_31 rfl ?_
        exact k_iret C dX0_standingOf_35 (by omega) (fun _ => ⟨rfl, by first | (rw [iteP_pos (by omega)]; done) | (rw [iteP_neg (by omega), iteP_pos (by omega), iteP_pos (by rcases hp24 with h | h; exact h.2; omega)]; done) | (rw [iteP_neg (by omega), iteP_pos (by omega), iteP_neg (by rcases hp24 with h | h; omega; exact h.2)]; done)⟩)
  · refine k_aload_n C dX0_standingOf_8 rfl rfl ?_
    refine k_iload_n C dX0_standingOf_9 rfl rfl ?_
    refine k_callV C okX0_48 dX0_standingOf_10 (c_Book_cutSize M hB row hr (by omega) (by omega)) rfl rfl (by decide) rfl (by decide) rfl (Nat.le_of_ble_eq_true rfl) (fun r10 M10 hr10 hp10 => ?_)
    obtain ⟨rfl, hp10⟩ := hp10
    exact k_iret C dX0_standingOf_13 (by omega) (fun _ => ⟨rfl, by rw [iteP_neg (by omega), iteP_neg (by omega)]; exact hp10⟩)
