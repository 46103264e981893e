/-! UsageDesk$Tree.grow, from its entry -/
def G0 (M N : Mem) (row : Int) : Prop := GrF M N ∧ (∀ r, 0 ≤ r → r < row → N 13 r = cutC M r ∧ N 14 r = 0) ∧ N 9 6 = 1 ∧ ∀ c, 0 ≤ c → c < 8 → N 10 c = -1
theorem G0_s {M N : Mem} {row : Int} (h : G0 M N row) : G0 M (up (up N 13 row (cutC M row)) 14 row 0) (row + 1) := by
  obtain ⟨a, b, c, d⟩ := h
  refine ⟨⟨fun j p q r s t u => by rw [up_ne u, up_ne t]; exact a.1 j p q r s t u, fun i hi => by rw [up_ne (by decide), up_ne (by decide)]; exact a.2 i hi⟩, fun r z1 z2 => ?_, by rw [up_ne (by decide), up_ne (by decide)]; exact c, fun x z1 z2 => by rw [up_ne (by decide), up_ne (by decide)]; exact d x z1 z2⟩
  rw [up_ne (show (13 : Nat) ≠ 14 by decide), up_at, up_at, up_ne (show (14 : Nat) ≠ 13 by decide)]
  by_cases e : r = row
  · rw [if_pos e, if_pos e, e]; exact ⟨rfl, rfl⟩
  · rw [if_neg e, if_neg e]; exact b r z1 (by omega)
theorem G0_lv {M N : Mem} (hB : BkC M) (h : G0 M N 60) : LvI N 0 0 := by
  obtain ⟨a, b, c, d⟩ := h
  have e4 : N 4 = M 4 := a.1 4 (by decide) (by decide) (by decide) (by decide) (by decide) (by decide)
  have hr : ∀ r, 0 ≤ r → r < 60 → 0 ≤ N 13 r ∧ N 13 r ≤ 12 := fun r z1 z2 => by
    rw [(b r z1 z2).1]; have := cutR_rg hB r; exact ⟨this.1, this.2.1⟩
  have hc0 : ∀ r, 0 ≤ r → r < 60 → cul N 0 r = 0 := fun r z1 z2 => by have := hr r z1 z2; unfold cul; rw [if_neg (by omega)]
  refine ⟨⟨by omega, fun k z1 z2 => by omega, fun k x z1 z2 z3 z4 => ?_, fun j k z1 z2 z3 => by omega, fun r z1 z2 l z3 => by rw [hc0 r z1 z2] at z3; omega, fun k z1 z2 => by omega⟩, by omega, fun r z1 z2 => ?_, fun r z1 z2 _ => by rw [(b r z1 z2).2]; omega, fun k x z1 z2 z3 z4 => ?_, fun k z1 z2 => by omega, fun r z1 z2 l z3 => ?_, hr⟩
  · left
    rw [show 8 * k + x = x by omega]; exact d x z3 z4
  · rw [hc0 r z1 z2, (b r z1 z2).2]; rfl
  · rw [show 8 * k + x = x by omega]; exact d x z3 z4
  · rw [(b r z1 z2).1] at z3
    have z3 : (l : Int) < cutR (M 3 6) (M 5) (M 6) (M 7) (M 4) r := z3
    have q := (cutR_rg hB r).2.2 (by omega)
    rw [e4]
    exact (hB.2.2 r q.1.1 q.1.2).2.2.2.2.2 l (by omega) (by omega)
set_option maxHeartbeats 4000000 in
set_option maxRecDepth 100000 in
theorem l_grow1 {K : Kt} (M : Mem) (hB : BkC M) (C : Ctx shC nC RX9 cX9_grow 4 none (lvl 4) (fun _ M' => GrP M M') K) (N : Mem) (row : Int) (hr : 0 ≤ row ∧ row ≤ 60) (hI : G0 M N row) : K 14 [(0, .inr 9), (1, .inl row)] [] N := by
  have b1 := hB.1; have b2 := hB.2.1; have hbr := hB.2.2 row hr.1
  have n3 := hI.1.1 3 (by decide) (by decide) (by decide) (by decide) (by decide) (by decide); have n4 := hI.1.1 4 (by decide) (by decide) (by decide) (by decide) (by decide) (by decide); have n5 := hI.1.1 5 (by decide) (by decide) (by decide) (by decide) (by decide) (by decide); have n6 := hI.1.1 6 (by decide) (by decide) (by decide) (by decide) (by decide) (by decide); have n7 := hI.1.1 7 (by decide) (by decide) (by decide) (by decide) (by decide) (by decide)
  have hBN := hI.1.bk hB
  refine k_iload_n C dX9_grow_14 rfl rfl ?_
  refine k_bipush C dX9_grow_15 (by decide) ?_
  refine k_icmp_ge C (tgt := 62) dX9_grow_17 rfl (by omega) (by omega) (fun c17 => ?_) (fun c17 => ?_)
  · refine k_iconst C dX9_grow_62 ?_
    refine k_istore_n C dX9_grow_63 rfl (by decide) ?_
    refine k_iconst C dX9_grow_64 ?_
    refine k_istore_n C dX9_grow_65 rfl (by decide) ?_
    refine k_cut2 C (lv' := [(0, _), (1, _), (2, _)]) ⟨rfl, rfl, rfl, trivial⟩ ?_
    have e : row = 60 := by omega
    subst e
    exact l_grow2 M hB C N hI.1 (fun r z1 z2 => (hI.2.1 r z1 z2).1) 0 0 (by omega) (G0_lv hB hI)
  · refine k_aload_n C dX9_grow_20 rfl rfl ?_
    refine k_getR C (j := 4) okC9 rfl (by decide) (by decide) rfl flX9_21 dX9_grow_21 ?_
    refine k_iload_n C dX9_grow_24 rfl rfl ?_
    refine k_aload_n C dX9_grow_25 rfl rfl ?_
    refine k_getR C (j := 0) okC9 rfl (by decide) (by decide) rfl flX9_27 dX9_grow_26 ?_
    refine k_iload_n C dX9_grow_29 rfl rfl ?_
    refine k_callV C okX9_39 dX9_grow_30 (c_Book_isRightThere N row (by omega)) rfl rfl (by decide) rfl (by decide) rfl (Nat.le_of_ble_eq_true rfl) (fun r30 M30 hr30 hp30 => ?_)
    obtain ⟨rfl, hp30⟩ := hp30
    rw [n3, n6, n7] at hp30
    refine k_if_eq C (tgt := 47) dX9_grow_33 rfl (by omega) (fun c33 => ?_) (fun c33 => ?_)
    · have ecut0 : (0 : Int) = cutC M row := by unfold cutC cutR; rw [iteP_neg (by omega)]
      refine k_iconst C dX9_grow_47 ?_
      refine k_iastore C rfl (by decide) (by decide) ⟨by omega, by omega⟩ (by omega) dX9_grow_48 ?_
      refine k_aload_n C dX9_grow_49 rfl rfl ?_
      refine k_getR C (j := 5) okC9 rfl (by decide) (by decide) rfl flX9_24 dX9_grow_50 ?_
      refine k_iload_n C dX9_grow_53 rfl rfl ?_
      refine k_iconst C dX9_grow_54 ?_
      refine k_iastore C rfl (by decide) (by decide) ⟨by omega, by omega⟩ (by omega) dX9_grow_55 ?_
      refine k_iinc C dX9_grow_56 (by decide) rfl ?_
      refine k_goto C (tgt := 14) dX9_grow_59 rfl ?_
      refine k_cut2 C (lv' := [(0, _), (1, _)]) ⟨rfl, rfl, trivial⟩ ?_
      first
      | exact l_grow1 M hB C _ (row + 1) (by omega) (G0_s hI)
      | (have q := G0_s hI
         rw [← ecut0] at q
         exact l_grow1 M hB C _ (row + 1) (by omega) q)
    · have hbr := hbr (by omega)
      refine k_aload_n C dX9_grow_36 rfl rfl ?_
      refine k_getR C (j := 0) okC9 rfl (by decide) (by decide) rfl flX9_27 dX9_grow_37 ?_
      refine k_iload_n C dX9_grow_40 rfl rfl ?_
      refine k_callV C okX9_45 dX9_grow_41 (c_Book_cutSize N hBN row (by rw [n3]; omega) (by rw [n7]; omega) (by rw [n6]; omega)) rfl rfl (by decide) rfl (by decide) rfl (Nat.le_of_ble_eq_true rfl) (fun r41 M41 hr41 hp41 => ?_)
      obtain ⟨rfl, hp41⟩ := hp41
      rw [n3, n4, n5, n6, n7] at hp41
      have ecut : r41 = cutC M row := by rw [hp41]; unfold cutC cutR; rw [iteP_pos (by omega)]
      have rcut := cutR_rg hB row
      rw [ecut] at hr41 ⊢
      refine k_goto C (tgt := 48) dX9_grow_44 rfl ?_
      refine k_iastore C rfl (by decide) (by decide) ⟨by omega, by omega⟩ (by omega) dX9_grow_48 ?_
      refine k_aload_n C dX9_grow_49 rfl rfl ?_
      refine k_getR C (j := 5) okC9 rfl (by decide) (by decide) rfl flX9_24 dX9_grow_50 ?_
      refine k_iload_n C dX9_grow_53 rfl rfl ?_
      refine k_iconst C dX9_grow_54 ?_
      refine k_iastore C rfl (by decide) (by decide) ⟨by omega, by omega⟩ (by omega) dX9_grow_55 ?_
      refine k_iinc C dX9_grow_56 (by decide) rfl ?_
      refine k_goto C (tgt := 14) dX9_grow_59 rfl ?_
      refine k_cut2 C (lv' := [(0, _), (1, _)]) ⟨rfl, rfl, trivial⟩ ?_
      first
      | exact l_grow1 M hB C _ (row + 1) (by omega) (G0_s hI)
      | (have q := G0_s hI
         rw [← ecut0] at q
         exact l_grow1 M hB C _ (row + 1) (by omega) q)
termination_by (60 - row).toNat
decreasing_by all_goals omega
set_option maxHeartbeats 4000000 in
set_option maxRecDepth 100000 in
theorem c_Tree_grow (M : Mem) (hB : BkC M) : Ct shC nC yX9_grow cX9_grow 4 none (lvl 4) [.inr 9] M (fun _ M' => GrP M M') := by
  refine Ct_of (by decide +kernel) (Nat.le_of_ble_eq_true rfl) (fun K C => ?_)
  refine k_aload_n C dX9_grow_0 rfl rfl ?_
  refine k_iconst C dX9_grow_1 ?_
  refine k_putJ C 6 6 rfl okC9 rfl (by decide) (by decide) rfl rfl rfl (by omega) flX9_31 dX9_grow_2 ?_
  refine k_aload_n C dX9_grow_5 rfl rfl ?_
  refine k_iconst C dX9_grow_6 ?_
  refine k_iconst C dX9_grow_7 ?_
  refine k_callV C okX9_35 dX9_grow_8 (c_Tree_addNode (up M 9 6 0) (by rw [up_same]; omega) (-1) (-1) (by decide) (by decide)) rfl rfl (by decide) rfl (by decide) rfl (Nat.le_of_ble_eq_true rfl) (fun r8 M8 hr8 hp8 => ?_)
  obtain ⟨rfl, rfl⟩ := hp8
  refine k_pop C dX9_grow_11 ?_
  refine k_iconst C dX9_grow_12 ?_
  refine k_istore_n C dX9_grow_13 rfl (by decide) ?_
  refine k_cut2 C (lv' := [(0, _), (1, _)]) ⟨rfl, rfl, trivial⟩ ?_
  refine l_grow1 M hB C _ 0 (by omega) ⟨⟨fun j p q r s t u => by rw [nodM_ne p q r s, up_ne p], fun i hi => by rw [nodM_9, if_neg hi, up_at, if_neg hi]⟩, fun r z1 z2 => by omega, by rw [nodM_9, if_pos rfl, up_same]; omega, fun c z1 z2 => by rw [nodM_10, up_same, if_pos (by omega)]⟩
