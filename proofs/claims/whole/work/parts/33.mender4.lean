/-! UsageDesk$Mender: the whole way, and the hand -/
set_option maxRecDepth 100000 in
theorem l_cheap {K : Kt} (M : Mem) (hL : LwC M) (hH : HdC M) (hC : COkC M M 0) (C : Ctx shC nC RX7 cX7_goCheapestWay 2 none (lvl 4) (fun _ M' => WkI M M' (wlk (M 24) (M 2) (crow M) (M 1 1) 24)) K) (N : Mem) (t : Nat) (ht : t ≤ 25) (hW : WkI M N (wlk (M 24) (M 2) (crow M) (M 1 1) t)) : K 20 [(0, .inr 47), (1, .inl (t : Int))] [] N := by
  have h1 := hH.1; have h2 := hH.2.1; have l2 := hL.2.1
  obtain ⟨a1, a2, a3, a4, a5⟩ := wlk_ok hL hH.2.2 hH.1 hC t
  have f1 := hW.1 1 (by decide) (by decide) (by decide); have f23 := hW.1 23 (by decide) (by decide) (by decide); have f48 := hW.1 48 (by decide) (by decide) (by decide)
  have w2 := hW.2.1; have w3 := hW.2.2.1
  have hcr : crow N = crow M := by funext a b; unfold crow; rw [f48]
  have fin : (wlk (M 24) (M 2) (crow M) (M 1 1) t).1 = M 1 1 → wlk (M 24) (M 2) (crow M) (M 1 1) 24 = wlk (M 24) (M 2) (crow M) (M 1 1) t := fun z => by
    by_cases q : t ≤ 24
    · have z2 := wlk_stay (nx := M 24) (hd := M 2) (cost := crow M) (n := M 1 1) (t := t) (by omega) (24 - t)
      rwa [show t + (24 - t) = 24 by omega] at z2
    · rw [show t = 24 + 1 by omega]; exact (wlk_stay (by rw [wlk_end hL hH.2.2 hH.1 hC (by omega)]; omega) 1).symm
  refine k_iload_n C dX7_goCheapestWay_20 rfl rfl ?_
  refine k_bipush C dX7_goCheapestWay_21 (by decide) ?_
  refine k_icmp_gt C (tgt := 62) dX7_goCheapestWay_23 rfl (by omega) (by omega) (fun c23 => ?_) (fun c23 => ?_)
  · exact k_vret C dX7_goCheapestWay_62 (fun _ => by rw [fin (by first | omega | exact wlk_end hL hH.2.2 hH.1 hC (by omega))]; exact hW)
  · refine k_aload_n C dX7_goCheapestWay_26 rfl rfl ?_
    refine k_getJ C 4 4 rfl okC7 rfl (by decide) (by decide) rfl flX7_82 dX7_goCheapestWay_27 (fun _ => ?_)
    rw [w2]
    refine k_aload_n C dX7_goCheapestWay_30 rfl rfl ?_
    refine k_getR C (j := 0) okC7 rfl (by decide) (by decide) rfl flX7_24 dX7_goCheapestWay_31 ?_
    refine k_getJ C 1 1 rfl okC5 rfl (by decide) (by decide) rfl flX7_37 dX7_goCheapestWay_34 (fun _ => ?_)
    rw [f1]
    refine k_icmp_ge C (tgt := 62) dX7_goCheapestWay_37 rfl (by omega) (by omega) (fun c37 => ?_) (fun c37 => ?_)
    · exact k_vret C dX7_goCheapestWay_62 (fun _ => by rw [fin (by first | omega | exact wlk_end hL hH.2.2 hH.1 hC (by omega))]; exact hW)
    · have ht24 : t < 24 := by
        rcases Nat.lt_or_ge t 24 with z | z
        · exact z
        · have := wlk_end hL hH.2.2 hH.1 hC (t := t) (by omega); omega
      refine k_aload_n C dX7_goCheapestWay_40 rfl rfl ?_
      refine k_aload_n C dX7_goCheapestWay_41 rfl rfl ?_
      refine k_aload_n C dX7_goCheapestWay_42 rfl rfl ?_
      refine k_getJ C 4 4 rfl okC7 rfl (by decide) (by decide) rfl flX7_82 dX7_goCheapestWay_43 (fun _ => ?_)
      rw [w2]
      refine k_aload_n C dX7_goCheapestWay_46 rfl rfl ?_
      refine k_getJ C 5 5 rfl okC7 rfl (by decide) (by decide) rfl flX7_85 dX7_goCheapestWay_47 (fun _ => ?_)
      rw [w3]
      refine k_callV C okX7_41 dX7_goCheapestWay_50 (c_costFrom N (wlk (M 24) (M 2) (crow M) (M 1 1) t).1 (wlk (M 24) (M 2) (crow M) (M 1 1) t).2.1 (by omega) (by omega)) rfl rfl (by decide) rfl (by decide) rfl (Nat.le_of_ble_eq_true rfl) (fun r50 M50 hr50 hp50 => ?_)
      obtain ⟨rfl, rfl⟩ := hp50
      rw [hcr]
      refine k_callV C okX7_88 dX7_goCheapestWay_53 (c_goOne M hL hH hC N (wlk (M 24) (M 2) (crow M) (M 1 1) t) hW (by omega) a2 (by omega) _ rfl) rfl rfl (by decide) rfl (by decide) rfl (Nat.le_of_ble_eq_true rfl) (fun r53 M53 hr53 hp53 => ?_)
      refine k_iinc C dX7_goCheapestWay_56 (by decide) rfl ?_
      refine k_goto C (tgt := 20) dX7_goCheapestWay_59 rfl ?_
      refine k_cut2 C (lv' := [(0, _), (1, _)]) ⟨rfl, rfl, trivial⟩ ?_
      have e : wlk (M 24) (M 2) (crow M) (M 1 1) (t + 1) = wst (M 24) (M 2) (crow M) (wlk (M 24) (M 2) (crow M) (M 1 1) t) := by show iteP _ _ _ = _; rw [iteP_pos c37]
      rw [show (t : Int) + 1 = ((t + 1 : Nat) : Int) by omega]
      exact l_cheap M hL hH hC C _ (t + 1) (by omega) (by rw [e]; exact hp53)
termination_by 26 - t
decreasing_by all_goals omega
set_option maxRecDepth 100000 in
theorem c_cheap (M : Mem) (hL : LwC M) (hH : HdC M) (hC : COkC M M 0) : Ct shC nC yX7_goCheapestWay cX7_goCheapestWay 2 none (lvl 4) [.inr 47] M (fun _ M' => WkI M M' (wlk (M 24) (M 2) (crow M) (M 1 1) 24)) := by
  refine Ct_of (by decide +kernel) (Nat.le_of_ble_eq_true rfl) (fun K C => ?_)
  refine k_aload_n C dX7_goCheapestWay_0 rfl rfl ?_
  refine k_iconst C dX7_goCheapestWay_1 ?_
  refine k_putJ C 4 4 rfl okC7 rfl (by decide) (by decide) rfl rfl rfl (by omega) flX7_82 dX7_goCheapestWay_2 ?_
  refine k_aload_n C dX7_goCheapestWay_5 rfl rfl ?_
  refine k_iconst C dX7_goCheapestWay_6 ?_
  refine k_putJ C 5 5 rfl okC7 rfl (by decide) (by decide) rfl rfl rfl (by omega) flX7_85 dX7_goCheapestWay_7 ?_
  refine k_aload_n C dX7_goCheapestWay_10 rfl rfl ?_
  refine k_getR C (j := 3) okC7 rfl (by decide) (by decide) rfl flX7_20 dX7_goCheapestWay_11 ?_
  refine k_iconst C dX7_goCheapestWay_14 ?_
  refine k_putJ C 1 1 rfl okC5 rfl (by decide) (by decide) rfl rfl rfl (by omega) flX7_37 dX7_goCheapestWay_15 ?_
  refine k_iconst C dX7_goCheapestWay_18 ?_
  refine k_istore_n C dX7_goCheapestWay_19 rfl (by decide) ?_
  refine k_cut2 C (lv' := [(0, _), (1, _)]) ⟨rfl, rfl, trivial⟩ ?_
  refine l_cheap M hL hH hC C _ 0 (by omega) ⟨fun j h h' h'' => by rw [up_ne h', up_ne h, up_ne h], ?_, ?_, up_same, fun j a b => ?_⟩
  · show _ = (0 : Int)
    rw [up_ne (show (47 : Nat) ≠ 49 by decide), up_at, if_neg (by decide), up_same]
  · show _ = (0 : Int)
    rw [up_ne (show (47 : Nat) ≠ 49 by decide), up_same]
  · have b : j < 0 := b
    omega
/-- what mending does to the hand of M, by a table of costs -/
def MendP (M : Mem) (hn : Int) (hd : Int → Int) (r : Int) : Prop := ∃ cost : Int → Int → Int, COk (M 23 2) (M 24) (M 2) (M 1 1) 0 cost ∧
  ((12 < (wlk (M 24) (M 2) cost (M 1 1) 24).2.2.1 ∧ r = -1 ∧ hn = M 1 1 ∧ hd = M 2) ∨ ((wlk (M 24) (M 2) cost (M 1 1) 24).2.2.1 ≤ 12 ∧ r = cost 0 0 ∧ hn = (wlk (M 24) (M 2) cost (M 1 1) 24).2.2.1 ∧ hd = fun j => if 0 ≤ j ∧ j < (wlk (M 24) (M 2) cost (M 1 1) 24).2.2.1 then (wlk (M 24) (M 2) cost (M 1 1) 24).2.2.2 j else M 2 j))
set_option maxRecDepth 100000 in
theorem l_mendHand {K : Kt} (M : Mem) (hL : LwC M) (hH : HdC M) (C : Ctx shC nC RX7 cX7_mendHand 3 (some .int) (lvl 5) (fun r M' => (∀ j, j ≠ 1 → j ≠ 2 → j ≠ 47 → j ≠ 48 → j ≠ 49 → j ≠ 50 → M' j = M j) ∧ MendP M (M' 1 1) (M' 2) r) K) (cost : Int → Int → Int) (hC : COk (M 23 2) (M 24) (M 2) (M 1 1) 0 cost) (q : Int × Int × Int × (Int → Int)) (hq : q = wlk (M 24) (M 2) cost (M 1 1) 24) (hm : 0 ≤ q.2.2.1 ∧ q.2.2.1 ≤ 12) (hmd : ∀ j, 0 ≤ j → j < q.2.2.1 → 0 ≤ q.2.2.2 j ∧ q.2.2.2 j < 8) (N : Mem) (hf : ∀ j, j ≠ 1 → j ≠ 2 → j ≠ 47 → j ≠ 48 → j ≠ 49 → j ≠ 50 → N j = M j) (h49 : N 49 1 = q.2.2.1) (h50 : ∀ j, 0 ≤ j → j < q.2.2.1 → N 50 j = q.2.2.2 j) (hr : inR (cost 0 0)) (i : Int) (hi : 0 ≤ i ∧ i ≤ q.2.2.1) (h1 : N 1 1 = i) (h2 : N 2 = fun j => if 0 ≤ j ∧ j < i then q.2.2.2 j else M 2 j) : K 39 [(0, .inr 47), (1, .inl (cost 0 0)), (2, .inl i)] [] N := by
  refine k_iload_n C dX7_mendHand_39 rfl rfl ?_
  refine k_aload_n C dX7_mendHand_40 rfl rfl ?_
  refine k_getR C (j := 3) okC7 rfl (by decide) (by decide) rfl flX7_20 dX7_mendHand_41 ?_
  refine k_getJ C 1 1 rfl okC5 rfl (by decide) (by decide) rfl flX7_37 dX7_mendHand_44 (fun _ => ?_)
  rw [h49]
  refine k_icmp_ge C (tgt := 72) dX7_mendHand_47 rfl (by omega) (by omega) (fun c47 => ?_) (fun c47 => ?_)
  · refine k_iload_n C dX7_mendHand_72 rfl rfl ?_
    exact k_iret C dX7_mendHand_73 (by omega) (fun _ => by
        refine ⟨hf, cost, hC, Or.inr ?_⟩
        rw [← hq]
        have ei : i = q.2.2.1 := by omega
        rw [ei] at h1 h2
        exact ⟨hm.2, rfl, h1, h2⟩)
  · refine k_aload_n C dX7_mendHand_50 rfl rfl ?_
    refine k_getR C (j := 0) okC7 rfl (by decide) (by decide) rfl flX7_24 dX7_mendHand_51 ?_
    refine k_aload_n C dX7_mendHand_54 rfl rfl ?_
    refine k_getR C (j := 3) okC7 rfl (by decide) (by decide) rfl flX7_20 dX7_mendHand_55 ?_
    refine k_iload_n C dX7_mendHand_58 rfl rfl ?_
    refine k_callV C okX7_45 dX7_mendHand_59 (c_Line_at 49 50 24 rfl (by decide) rfl (by decide) (by decide) N i (by omega)) rfl rfl (by decide) rfl (by decide) rfl (Nat.le_of_ble_eq_true rfl) (fun r59 M59 hr59 hp59 => ?_)
    obtain ⟨rfl, rfl⟩ := hp59
    rw [h49, if_pos (by omega), h50 i (by omega) (by omega)]
    have hmi := hmd i (by omega) (by omega)
    refine k_callV C okX7_49 dX7_mendHand_62 (c_Line_append 1 2 12 rfl (by decide) rfl (by decide) (by decide) N (q.2.2.2 i) (by omega)) rfl rfl (by decide) rfl (by decide) rfl (Nat.le_of_ble_eq_true rfl) (fun r62 M62 hr62 hp62 => ?_)
    rw [h1, if_pos (by omega)] at hp62
    obtain ⟨rfl, rfl⟩ := hp62
    refine k_pop C dX7_mendHand_65 ?_
    refine k_iinc C dX7_mendHand_66 (by decide) rfl ?_
    refine k_goto C (tgt := 39) dX7_mendHand_69 rfl ?_
    refine k_cut2 C (lv' := [(0, _), (1, _), (2, _)]) ⟨rfl, rfl, rfl, trivial⟩ ?_
    refine l_mendHand M hL hH C cost hC q hq hm hmd _ (fun j a b c d e f => by rw [up_ne a, up_ne b]; exact hf j a b c d e f) ?_ (fun j a b => ?_) hr (i + 1) (by omega) up_same ?_
    · rw [up_ne (show (49 : Nat) ≠ 1 by decide), up_ne (show (49 : Nat) ≠ 2 by decide)]; exact h49
    · rw [up_ne (show (50 : Nat) ≠ 1 by decide), up_ne (show (50 : Nat) ≠ 2 by decide)]; exact h50 j a b
    · rw [up_ne (show (2 : Nat) ≠ 1 by decide)]
      funext j
      rw [up_at, h2]
      by_cases e : j = i
      · rw [if_pos e, if_pos (by omega), e]
      · rw [if_neg e]
        dsimp only
        by_cases e2 : 0 ≤ j ∧ j < i
        · rw [if_pos e2, if_pos (by omega)]
        · rw [if_neg e2, if_neg (by omega)]
termination_by (q.2.2.1 - i).toNat
decreasing_by all_goals omega
set_option maxRecDepth 100000 in
theorem c_mendHand (M : Mem) (hL : LwC M) (hH : HdC M) : Ct shC nC yX7_mendHand cX7_mendHand 3 (some .int) (lvl 5) [.inr 47] M (fun r M' => (∀ j, j ≠ 1 → j ≠ 2 → j ≠ 47 → j ≠ 48 → j ≠ 49 → j ≠ 50 → M' j = M j) ∧ MendP M (M' 1 1) (M' 2) r) := by
  refine Ct_of (by decide +kernel) (Nat.le_of_ble_eq_true rfl) (fun K C => ?_)
  have h1 := hH.1; have h2 := hH.2.1; have l1 := hL.1
  refine k_aload_n C dX7_mendHand_0 rfl rfl ?_
  refine k_callV C okX7_31 dX7_mendHand_1 (c_reckon M hL hH) rfl rfl (by decide) rfl (by decide) rfl (Nat.le_of_ble_eq_true rfl) (fun r1 M1 hr1 hp1 => ?_)
  have e23 := hp1.1 23 (by decide); have e24 := hp1.1 24 (by decide); have e1 := hp1.1 1 (by decide); have e2 := hp1.1 2 (by decide)
  have hL1 : LwC M1 := by unfold LwC; rw [e23, e24]; exact hL
  have hH1 : HdC M1 := by unfold HdC; rw [e1, e2]; exact hH
  have hC1 : COkC M1 M1 0 := by unfold COkC; rw [e23, e24, e1, e2]; exact hp1.2
  refine k_aload_n C dX7_mendHand_4 rfl rfl ?_
  refine k_callV C okX7_34 dX7_mendHand_5 (c_cheap M1 hL1 hH1 hC1) rfl rfl (by decide) rfl (by decide) rfl (Nat.le_of_ble_eq_true rfl) (fun r5 M5 hr5 hp5 => ?_)
  obtain ⟨w1, w2, w3, w4, w5⟩ := hp5
  have wk := wlk_ok hL hH.2.2 hH.1 hp1.2 24
  rw [e24, e1, e2] at w2 w3 w4 w5
  have hfr : ∀ j, j ≠ 1 → j ≠ 2 → j ≠ 47 → j ≠ 48 → j ≠ 49 → j ≠ 50 → M5 j = M j := fun j a b c d e f => by rw [w1 j c e f, hp1.1 j d]
  have g1 : M5 1 = M 1 := by rw [w1 1 (by decide) (by decide) (by decide), e1]
  have g2 : M5 2 = M 2 := by rw [w1 2 (by decide) (by decide) (by decide), e2]
  refine k_aload_n C dX7_mendHand_8 rfl rfl ?_
  refine k_getR C (j := 3) okC7 rfl (by decide) (by decide) rfl flX7_20 dX7_mendHand_9 ?_
  refine k_getJ C 1 1 rfl okC5 rfl (by decide) (by decide) rfl flX7_37 dX7_mendHand_12 (fun _ => ?_)
  rw [w4]
  refine k_bipush C dX7_mendHand_15 (by decide) ?_
  refine k_icmp_le C (tgt := 22) dX7_mendHand_17 rfl (by omega) (by omega) (fun c17 => ?_) (fun c17 => ?_)
  · refine k_aload_n C dX7_mendHand_22 rfl rfl ?_
    refine k_iconst C dX7_mendHand_23 ?_
    refine k_iconst C dX7_mendHand_24 ?_
    refine k_callV C okX7_41 dX7_mendHand_25 (c_costFrom M5 0 0 (by omega) (by omega)) rfl rfl (by decide) rfl (by decide) rfl (Nat.le_of_ble_eq_true rfl) (fun r25 M25 hr25 hp25 => ?_)
    obtain ⟨rfl, rfl⟩ := hp25
    have hc0 : crow M5 0 0 = crow M1 0 0 := by unfold crow; rw [w1 48 (by decide) (by decide) (by decide)]
    rw [hc0] at hr25 ⊢
    refine k_istore_n C dX7_mendHand_28 rfl (by decide) ?_
    refine k_aload_n C dX7_mendHand_29 rfl rfl ?_
    refine k_getR C (j := 0) okC7 rfl (by decide) (by decide) rfl flX7_24 dX7_mendHand_30 ?_
    refine k_iconst C dX7_mendHand_33 ?_
    refine k_putJ C 1 1 rfl okC5 rfl (by decide) (by decide) rfl rfl rfl (by omega) flX7_37 dX7_mendHand_34 ?_
    refine k_iconst C dX7_mendHand_37 ?_
    refine k_istore_n C dX7_mendHand_38 rfl (by decide) ?_
    refine k_cut2 C (lv' := [(0, _), (1, _), (2, _)]) ⟨rfl, rfl, rfl, trivial⟩ ?_
    refine l_mendHand M hL hH C (crow M1) hp1.2 _ rfl (by omega) wk.2.2.2.2 _ (fun j a b c d e f => by rw [up_ne a]; exact hfr j a b c d e f) ?_ (fun j a b => ?_) hr25 0 (by omega) up_same ?_
    · rw [up_ne (show (49 : Nat) ≠ 1 by decide)]; exact w4
    · rw [up_ne (show (50 : Nat) ≠ 1 by decide)]; exact w5 j a b
    · rw [up_ne (show (2 : Nat) ≠ 1 by decide), g2]; funext j; rw [if_neg (by omega)]
  · refine k_iconst C dX7_mendHand_20 ?_
    exact k_iret C dX7_mendHand_21 (by omega) (fun _ => ⟨hfr, crow M1, hp1.2, Or.inl ⟨by omega, rfl, by rw [g1], g2⟩⟩)
