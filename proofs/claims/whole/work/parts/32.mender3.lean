/-! UsageDesk$Mender: the cheapest way gone, the hand mended -/
def mkM (N : Mem) (c : Int) : Mem := up (up (up N 50 (N 49 1) c) 49 1 (N 49 1 + 1)) 47 5 (N 24 (8 * N 47 5 + c))
def WkI (M N : Mem) (q : Int × Int × Int × (Int → Int)) : Prop := (∀ j, j ≠ 47 → j ≠ 49 → j ≠ 50 → N j = M j) ∧ N 47 4 = q.1 ∧ N 47 5 = q.2.1 ∧ N 49 1 = q.2.2.1 ∧ ∀ j, 0 ≤ j → j < q.2.2.1 → N 50 j = q.2.2.2 j
set_option maxRecDepth 100000 in
theorem c_make (N : Mem) (hL : LwC N) (c : Int) (hc : 0 ≤ c ∧ c < 8) (hs : 0 ≤ N 47 5 ∧ N 47 5 < N 23 2) (hm : 0 ≤ N 49 1 ∧ N 49 1 < 24) : Ct shC nC yX7_make cX7_make 2 none (lvl 2) [.inr 47, .inl c] N (fun _ M' => M' = mkM N c) := by
  refine Ct_of (by decide +kernel) (Nat.le_of_ble_eq_true rfl) (fun K C => ?_)
  have l1 := hL.1; have l2 := hL.2.1; have ht := hL.2.2 (N 47 5) c hs.1 hs.2 hc.1 hc.2
  refine k_aload_n C dX7_make_0 rfl rfl ?_
  refine k_getR C (j := 3) okC7 rfl (by decide) (by decide) rfl flX7_20 dX7_make_1 ?_
  refine k_iload_n C dX7_make_4 rfl rfl ?_
  refine k_callV C okX7_49 dX7_make_5 (c_Line_append 49 50 24 rfl (by decide) rfl (by decide) (by decide) N c (by omega)) rfl rfl (by decide) rfl (by decide) rfl (Nat.le_of_ble_eq_true rfl) (fun r5 M5 hr5 hp5 => ?_)
  rw [if_pos (by omega)] at hp5
  obtain ⟨rfl, rfl⟩ := hp5
  refine k_pop C dX7_make_8 ?_
  refine k_aload_n C dX7_make_9 rfl rfl ?_
  refine k_aload_n C dX7_make_10 rfl rfl ?_
  refine k_getR C (j := 1) okC7 rfl (by decide) (by decide) rfl flX7_27 dX7_make_11 ?_
  refine k_aload_n C dX7_make_14 rfl rfl ?_
  refine k_getJ C 5 5 rfl okC7 rfl (by decide) (by decide) rfl flX7_85 dX7_make_15 (fun _ => ?_)
  rw [up_ne (show (47 : Nat) ≠ 49 by decide), up_ne (show (47 : Nat) ≠ 50 by decide)]
  refine k_iload_n C dX7_make_18 rfl rfl ?_
  refine k_callV C okX7_75 dX7_make_19 (c_Law_after _ (N 47 5) c (by omega) (by omega)) rfl rfl (by decide) rfl (by decide) rfl (Nat.le_of_ble_eq_true rfl) (fun r19 M19 hr19 hp19 => ?_)
  obtain ⟨rfl, hp19⟩ := hp19
  rw [up_ne (show (23 : Nat) ≠ 49 by decide), up_ne (show (23 : Nat) ≠ 50 by decide), up_ne (show (24 : Nat) ≠ 49 by decide), up_ne (show (24 : Nat) ≠ 50 by decide)] at hp19
  have e19 : r19 = N 24 (8 * N 47 5 + c) := by omega
  subst e19
  refine k_putJ C 5 5 rfl okC7 rfl (by decide) (by decide) rfl rfl rfl (by omega) flX7_85 dX7_make_22 ?_
  exact k_vret C dX7_make_25 (fun _ => rfl)
theorem mkM_W {M N : Mem} {i s m c : Int} {md : Int → Int} (w1 : ∀ j, j ≠ 47 → j ≠ 49 → j ≠ 50 → N j = M j) (w2 : N 47 4 = i) (w3 : N 47 5 = s) (w4 : N 49 1 = m) (hm : 0 ≤ m) (w5 : ∀ j, 0 ≤ j → j < m → N 50 j = md j) : WkI M (mkM N c) (i, M 24 (8 * s + c), m + 1, fun j => if j = m then c else md j) := by
  have f24 := w1 24 (by decide) (by decide) (by decide)
  unfold mkM
  refine ⟨fun j h h' h'' => by rw [up_ne h, up_ne h', up_ne h'', w1 j h h' h''], ?_, ?_, ?_, fun j h0 h1' => ?_⟩
  · show up _ 47 5 _ 47 4 = i
    rw [up_at, if_neg (by decide), up_ne (by decide), up_ne (by decide)]; exact w2
  · show up _ 47 5 _ 47 5 = _
    rw [up_same, w3, f24]
  · show up _ 47 5 _ 49 1 = m + 1
    rw [up_ne (by decide), up_same, w4]
  · show up _ 47 5 _ 50 j = if j = m then c else md j
    have h1' : j < m + 1 := h1'
    rw [up_ne (by decide), up_ne (by decide), up_at, w4]
    by_cases e : j = m
    · rw [if_pos e, if_pos e]
    · rw [if_neg e, if_neg e]; exact w5 j h0 (by omega)
theorem Wk_place {M N : Mem} {i s m i' : Int} {md : Int → Int} (h : WkI M N (i, s, m, md)) : WkI M (up N 47 4 i') (i', s, m, md) := by
  obtain ⟨w1, w2, w3, w4, w5⟩ := h
  refine ⟨fun j h h' h'' => by rw [up_ne h]; exact w1 j h h' h'', up_same, ?_, ?_, fun j a b => ?_⟩
  · show up _ 47 4 _ 47 5 = s
    rw [up_at, if_neg (by decide)]; exact w3
  · show up _ 47 4 _ 49 1 = m
    rw [up_ne (by decide)]; exact w4
  · show up _ 47 4 _ 50 j = md j
    rw [up_ne (by decide)]; exact w5 j a b
set_option maxRecDepth 100000 in
theorem l_goOne {K : Kt} (M : Mem) (hL : LwC M) (hH : HdC M) (hC : COkC M M 0) (N : Mem) (q : Int × Int × Int × (Int → Int)) (hW : WkI M N q) (hi : 0 ≤ q.1 ∧ q.1 < M 1 1) (hs : 0 ≤ q.2.1 ∧ q.2.1 < M 23 2) (hm : 0 ≤ q.2.2.1 ∧ q.2.2.1 < 24) (kc : Int) (hk : kc = crow M q.1 q.2.1) (C : Ctx shC nC RX7 cX7_goOneOn 3 none (lvl 3) (fun _ M' => WkI M M' (wst (M 24) (M 2) (crow M) q)) K) (n1 : ¬ kpP (M 24) (M 2) (crow M) q.1 q.2.1) (n2 : ¬ otP (crow M) q.1 q.2.1) (c : Int) (hc : 0 ≤ c ∧ c ≤ 8) (hd : ∀ d, 0 ≤ d → d < c → ¬ ptP (M 24) (crow M) q.1 q.2.1 d) : K 75 [(0, .inr 47), (1, .inl kc), (2, .inl c)] [] N := by
  have hW0 := hW; have hi0 := hi; have hs0 := hs; have hm0 := hm
  obtain ⟨i, s, m, md⟩ := q
  dsimp only at hW hi hs hm ⊢
  obtain ⟨w1, w2, w3, w4, w5⟩ := hW
  dsimp only at w2 w3 w4 w5
  have l1 := hL.1; have l2 := hL.2.1; have h1 := hH.1; have h2 := hH.2.1; have hhd := hH.2.2 i hi.1 hi.2
  have f23 := w1 23 (by decide) (by decide) (by decide); have f24 := w1 24 (by decide) (by decide) (by decide); have f1 := w1 1 (by decide) (by decide) (by decide); have f2 := w1 2 (by decide) (by decide) (by decide); have f48 := w1 48 (by decide) (by decide) (by decide)
  have hcr : crow N = crow M := by funext a b; unfold crow; rw [f48]
  have hLN : LwC N := by unfold LwC; rw [f23, f24]; exact hL
  have hHN : HdC N := by unfold HdC; rw [f1, f2]; exact hH
  have hto := hL.2.2 s (M 2 i) hs.1 hs.2 hhd.1 hhd.2
  have rg := fun a b c d => hC.2.2 i a b c d
  have r0 := hC.2.2 i s hi.1 (by omega) hs.1 hs.2
  have r1 := hC.2.2 (i + 1) s (by omega) (by omega) hs.1 hs.2
  dsimp only at hk n1 n2 hd
  have hrow : rw12 (N 23 2) (crow N i) := by rw [f23, hcr]; intro t a b; have := hC.2.2 i t hi.1 (by omega) a b; omega
  refine k_iload_n C dX7_goOneOn_75 rfl rfl ?_
  refine k_bipush C dX7_goOneOn_76 (by decide) ?_
  have htc := fun z : c < 8 => hL.2.2 s c hs.1 hs.2 hc.1 z
  refine k_icmp_ge C (tgt := 110) dX7_goOneOn_78 rfl (by omega) (by omega) (fun c78 => ?_) (fun c78 => ?_)
  · exact k_vret C dX7_goOneOn_110 (fun _ => by
        exfalso
        obtain ⟨c', c1, c2, c3, c4⟩ := wst_ok hL hH.2.2 hC hi hs n1 n2
        exact hd c' c1 (by omega) c3)
  · refine k_aload_n C dX7_goOneOn_81 rfl rfl ?_
    refine k_aload_n C dX7_goOneOn_82 rfl rfl ?_
    refine k_getJ C 4 4 rfl okC7 rfl (by decide) (by decide) rfl flX7_82 dX7_goOneOn_83 (fun _ => ?_)
    rw [w2]
    refine k_aload_n C dX7_goOneOn_86 rfl rfl ?_
    refine k_getJ C 5 5 rfl okC7 rfl (by decide) (by decide) rfl flX7_85 dX7_goOneOn_87 (fun _ => ?_)
    rw [w3]
    refine k_iload_n C dX7_goOneOn_90 rfl rfl ?_
    refine k_callV C okX7_78 dX7_goOneOn_91 (c_costPutting N hLN i s c (by omega) (by rw [f23]; omega) (by omega) hrow) rfl rfl (by decide) rfl (by decide) rfl (Nat.le_of_ble_eq_true rfl) (fun r91 M91 hr91 hp91 => ?_)
    obtain ⟨rfl, hp91⟩ := hp91
    rw [hcr, f24] at hp91
    have htc := htc (by omega)
    have rto := fun z => hC.2.2 i (M 24 (8 * s + c)) hi.1 (by omega) z htc.2
    refine k_iload_n C dX7_goOneOn_94 rfl rfl ?_
    refine k_icmp_ne C (tgt := 104) dX7_goOneOn_95 rfl (by omega) (by omega) (fun c95 => ?_) (fun c95 => ?_)
    · refine k_iinc C dX7_goOneOn_104 (by decide) rfl ?_
      refine k_goto C (tgt := 75) dX7_goOneOn_107 rfl ?_
      refine k_cut2 C (lv' := [(0, _), (1, _), (2, _)]) ⟨rfl, rfl, rfl, trivial⟩ ?_
      refine l_goOne M hL hH hC N (i, s, m, md) hW0 hi0 hs0 hm0 kc hk C n1 n2 (c + 1) (by omega) (fun d a b z => ?_)
      by_cases e : d = c
      · subst e
        have z1 := z.1; have z2 := z.2
        dsimp only at z1 z2
        rcases hp91 with y | y
        · omega
        · exact c95 (by rw [y.2, hk]; exact z2)
      · exact hd d a (by omega) z
    · refine k_aload_n C dX7_goOneOn_98 rfl rfl ?_
      refine k_iload_n C dX7_goOneOn_99 rfl rfl ?_
      refine k_callV C okX7_91 dX7_goOneOn_100 (c_make N hLN c (by omega) (by rw [w3, f23]; omega) (by rw [w4]; omega)) rfl rfl (by decide) rfl (by decide) rfl (Nat.le_of_ble_eq_true rfl) (fun r100 M100 hr100 hp100 => ?_)
      subst hp100
      exact k_vret C dX7_goOneOn_103 (fun _ => by
        have hpt : ptP (M 24) (crow M) i s c := by
          rcases hp91 with y | y
          · have rr := rto
            exfalso; omega
          · exact ⟨y.1, by omega⟩
        unfold wst
        dsimp only
        rw [iteP_neg n1, iteP_neg n2, fst8_eq ⟨hc.1, by omega⟩ hpt hd]
        exact mkM_W w1 w2 w3 w4 hm.1 w5)
termination_by (8 - c).toNat
decreasing_by all_goals omega
set_option maxRecDepth 100000 in
theorem c_goOne (M : Mem) (hL : LwC M) (hH : HdC M) (hC : COkC M M 0) (N : Mem) (q : Int × Int × Int × (Int → Int)) (hW : WkI M N q) (hi : 0 ≤ q.1 ∧ q.1 < M 1 1) (hs : 0 ≤ q.2.1 ∧ q.2.1 < M 23 2) (hm : 0 ≤ q.2.2.1 ∧ q.2.2.1 < 24) (kc : Int) (hk : kc = crow M q.1 q.2.1) : Ct shC nC yX7_goOneOn cX7_goOneOn 3 none (lvl 3) [.inr 47, .inl kc] N (fun _ M' => WkI M M' (wst (M 24) (M 2) (crow M) q)) := by
  refine Ct_of (by decide +kernel) (Nat.le_of_ble_eq_true rfl) (fun K C => ?_)
  have hW0 := hW; have hi0 := hi; have hs0 := hs; have hm0 := hm
  obtain ⟨i, s, m, md⟩ := q
  dsimp only at hW hi hs hm ⊢
  obtain ⟨w1, w2, w3, w4, w5⟩ := hW
  dsimp only at w2 w3 w4 w5
  have l1 := hL.1; have l2 := hL.2.1; have h1 := hH.1; have h2 := hH.2.1; have hhd := hH.2.2 i hi.1 hi.2
  have f23 := w1 23 (by decide) (by decide) (by decide); have f24 := w1 24 (by decide) (by decide) (by decide); have f1 := w1 1 (by decide) (by decide) (by decide); have f2 := w1 2 (by decide) (by decide) (by decide); have f48 := w1 48 (by decide) (by decide) (by decide)
  have hcr : crow N = crow M := by funext a b; unfold crow; rw [f48]
  have hLN : LwC N := by unfold LwC; rw [f23, f24]; exact hL
  have hHN : HdC N := by unfold HdC; rw [f1, f2]; exact hH
  have hto := hL.2.2 s (M 2 i) hs.1 hs.2 hhd.1 hhd.2
  have rg := fun a b c d => hC.2.2 i a b c d
  have r0 := hC.2.2 i s hi.1 (by omega) hs.1 hs.2
  have r1 := hC.2.2 (i + 1) s (by omega) (by omega) hs.1 hs.2
  dsimp only at hk
  refine k_aload_n C dX7_goOneOn_0 rfl rfl ?_
  refine k_aload_n C dX7_goOneOn_1 rfl rfl ?_
  refine k_getJ C 4 4 rfl okC7 rfl (by decide) (by decide) rfl flX7_82 dX7_goOneOn_2 (fun _ => ?_)
  rw [w2]
  refine k_aload_n C dX7_goOneOn_5 rfl rfl ?_
  refine k_getJ C 5 5 rfl okC7 rfl (by decide) (by decide) rfl flX7_85 dX7_goOneOn_6 (fun _ => ?_)
  rw [w3]
  refine k_callV C okX7_64 dX7_goOneOn_9 (c_costKeeping N hLN hHN i s (by rw [f1]; omega) (by rw [f23]; omega)) rfl rfl (by decide) rfl (by decide) rfl (Nat.le_of_ble_eq_true rfl) (fun r9 M9 hr9 hp9 => ?_)
  obtain ⟨rfl, hp9⟩ := hp9
  rw [hcr, f24, f2] at hp9
  have rto := fun z => hC.2.2 (i + 1) (M 24 (8 * s + M 2 i)) (by omega) (by omega) z hto.2
  refine k_iload_n C dX7_goOneOn_12 rfl rfl ?_
  refine k_icmp_ne C (tgt := 42) dX7_goOneOn_13 rfl (by omega) (by omega) (fun c13 => ?_) (fun c13 => ?_)
  · refine k_iconst C dX7_goOneOn_42 ?_
    refine k_aload_n C dX7_goOneOn_43 rfl rfl ?_
    refine k_aload_n C dX7_goOneOn_44 rfl rfl ?_
    refine k_getJ C 4 4 rfl okC7 rfl (by decide) (by decide) rfl flX7_82 dX7_goOneOn_45 (fun _ => ?_)
    rw [w2]
    refine k_iconst C dX7_goOneOn_48 ?_
    refine k_iadd C dX7_goOneOn_49 ?_
    refine k_aload_n C dX7_goOneOn_50 rfl rfl ?_
    refine k_getJ C 5 5 rfl okC7 rfl (by decide) (by decide) rfl flX7_85 dX7_goOneOn_51 (fun _ => ?_)
    rw [w3]
    refine k_callV C okX7_41 dX7_goOneOn_54 (c_costFrom N (i + 1) s (by omega) (by omega)) rfl rfl (by decide) rfl (by decide) rfl (Nat.le_of_ble_eq_true rfl) (fun r54 M54 hr54 hp54 => ?_)
    obtain ⟨rfl, rfl⟩ := hp54
    rw [hcr]
    refine k_iadd C dX7_goOneOn_57 ?_
    refine k_iload_n C dX7_goOneOn_58 rfl rfl ?_
    refine k_icmp_ne C (tgt := 73) dX7_goOneOn_59 rfl (by omega) (by omega) (fun c59 => ?_) (fun c59 => ?_)
    · refine k_iconst C dX7_goOneOn_73 ?_
      refine k_istore_n C dX7_goOneOn_74 rfl (by decide) ?_
      refine k_cut2 C (lv' := [(0, _), (1, _), (2, _)]) ⟨rfl, rfl, rfl, trivial⟩ ?_
      refine l_goOne M hL hH hC N (i, s, m, md) hW0 hi0 hs0 hm0 kc hk C (fun z => ?_) (fun z => ?_) 0 (by omega) (fun d a b => by omega)
      · have z1 := z.1; have z2 := z.2; dsimp only at z1 z2
        rcases hp9 with y | y
        · omega
        · exact c13 (by rw [y.2, hk]; exact z2)
      · unfold otP at z; dsimp only at z; omega
    · refine k_aload_n C dX7_goOneOn_62 rfl rfl ?_
      refine k_dup C dX7_goOneOn_63 ?_
      refine k_getJ C 4 4 rfl okC7 rfl (by decide) (by decide) rfl flX7_82 dX7_goOneOn_64 (fun _ => ?_)
      rw [w2]
      refine k_iconst C dX7_goOneOn_67 ?_
      refine k_iadd C dX7_goOneOn_68 ?_
      refine k_putJ C 4 4 rfl okC7 rfl (by decide) (by decide) rfl rfl rfl (by omega) flX7_82 dX7_goOneOn_69 ?_
      exact k_vret C dX7_goOneOn_72 (fun _ => by
        have n1 : ¬ kpP (M 24) (M 2) (crow M) i s := fun z => by
          rcases hp9 with y | y
          · have := z.1; omega
          · exact c13 (by rw [y.2, hk]; exact z.2)
        unfold wst
        dsimp only
        rw [iteP_neg n1, iteP_pos (show otP (crow M) i s by unfold otP; omega)]
        exact Wk_place ⟨w1, w2, w3, w4, w5⟩)
  · refine k_aload_n C dX7_goOneOn_16 rfl rfl ?_
    refine k_aload_n C dX7_goOneOn_17 rfl rfl ?_
    refine k_getR C (j := 0) okC7 rfl (by decide) (by decide) rfl flX7_24 dX7_goOneOn_18 ?_
    refine k_aload_n C dX7_goOneOn_21 rfl rfl ?_
    refine k_getJ C 4 4 rfl okC7 rfl (by decide) (by decide) rfl flX7_82 dX7_goOneOn_22 (fun _ => ?_)
    rw [w2]
    refine k_callV C okX7_45 dX7_goOneOn_25 (c_Line_at 1 2 12 rfl (by decide) rfl (by decide) (by decide) N i (by omega)) rfl rfl (by decide) rfl (by decide) rfl (Nat.le_of_ble_eq_true rfl) (fun r25 M25 hr25 hp25 => ?_)
    obtain ⟨rfl, rfl⟩ := hp25
    rw [f1, f2, if_pos (by omega)]
    refine k_callV C okX7_91 dX7_goOneOn_28 (c_make N hLN (M 2 i) (by omega) (by rw [w3, f23]; omega) (by rw [w4]; omega)) rfl rfl (by decide) rfl (by decide) rfl (Nat.le_of_ble_eq_true rfl) (fun r28 M28 hr28 hp28 => ?_)
    subst hp28
    refine k_aload_n C dX7_goOneOn_31 rfl rfl ?_
    refine k_dup C dX7_goOneOn_32 ?_
    refine k_getJ C 4 4 rfl okC7 rfl (by decide) (by decide) rfl flX7_82 dX7_goOneOn_33 (fun _ => ?_)
    rw [show mkM N (M 2 i) 47 4 = i from (mkM_W (c := M 2 i) w1 w2 w3 w4 hm.1 w5).2.1]
    refine k_iconst C dX7_goOneOn_36 ?_
    refine k_iadd C dX7_goOneOn_37 ?_
    refine k_putJ C 4 4 rfl okC7 rfl (by decide) (by decide) rfl rfl rfl (by omega) flX7_82 dX7_goOneOn_38 ?_
    exact k_vret C dX7_goOneOn_41 (fun _ => by
        have hk1 : kpP (M 24) (M 2) (crow M) i s := by
          rcases hp9 with y | y
          · exfalso; omega
          · exact ⟨y.1, by omega⟩
        unfold wst
        dsimp only
        rw [iteP_pos hk1]
        exact Wk_place (mkM_W w1 w2 w3 w4 hm.1 w5))
