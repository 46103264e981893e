/-! UsageDesk$Mender: all costs, the cheapest way, the hand mended -/
abbrev COkC (M N : Mem) (i0 : Int) : Prop := COk (M 23 2) (M 24) (M 2) (M 1 1) i0 (crow N)
def RCI (M N : Mem) (i0 : Int) : Prop := (∀ j, j ≠ 48 → N j = M j) ∧ COkC M N i0
theorem RCI_tr {M N N' : Mem} {i0 : Int} (hL : LwC M) (hH : HdC M) (h0 : 0 ≤ i0) (h1 : i0 ≤ M 1 1) (h : RCI M N i0) (hf : ∀ j, j ≠ 48 → N' j = N j) (he : ∀ i, 30 * i0 ≤ i → N' 48 i = N 48 i) : RCI M N' i0 :=
  ⟨fun j hj => by rw [hf j hj, h.1 j hj], COk_cg hL hH.2.2 h0 h1 (fun i s a b c d => he _ (by omega)) h.2⟩
set_option maxRecDepth 100000 in
theorem l_reck3 {K : Kt} (M : Mem) (hL : LwC M) (hH : HdC M) (C : Ctx shC nC RX7 cX7_reckonCosts 5 none (lvl 4) (fun _ M' => RCI M M' 0) K) (a : Int) (ha : 0 ≤ a ∧ a < M 1 1) (ini : Int → Int) (kk : ∀ N : Mem, RCI M N a → K 115 [(0, .inr 47), (1, .inl a)] [] N) (N : Mem) (hI : RCI M N (a + 1)) (hini : ∀ s, 0 ≤ s → s < M 23 2 → ini s = ini1 (M 24) (crow N (a + 1)) (M 2 a) s) (b k : Int) (hk : 0 ≤ k ∧ k ≤ 13) (hr : rw12 (M 23 2) (crow N a)) (hle : ∀ s, 0 ≤ s → s < M 23 2 → crow N a s ≤ ini s) (hU : Uk (M 23 2) (M 24) (crow N a) k) (hB : LBd (M 23 2) (M 24) ini (crow N a)) (hb : (b = 0 ∨ b = 1) ∧ (b = 0 → stb (M 23 2) (M 24) (crow N a))) : K 93 [(0, .inr 47), (1, .inl a), (2, .inl b), (3, .inl k)] [] N := by
  have l1 := hL.1; have l2 := hL.2.1; have h1 := hH.1; have h2 := hH.2.1
  have e23 := hI.1 23 (by decide); have e24 := hI.1 24 (by decide); have e1 := hI.1 1 (by decide); have e2 := hI.1 2 (by decide)
  have hb1 := hb.1
  have fin : stb (M 23 2) (M 24) (crow N a) → RCI M N a := fun hst => by
    refine ⟨hI.1, hI.2.1, fun i q1 q2 => ?_, fun i s q1 q2 q3 q4 => ?_⟩
    · by_cases e : i = a
      · subst e; exact MS_cg hL (fun _ _ _ => rfl) (fun s z1 z2 => (hini s z1 z2).symm) ⟨hle, hst, hB⟩
      · exact hI.2.2.1 i (by omega) q2
    · by_cases e : i = a
      · subst e
        have z1 := hr s q3 q4; have z2 := hle s q3 q4; have z3 := hini s q3 q4
        have z4 := hI.2.2.2 (i + 1) s (by omega) (by omega) q3 q4
        have z5 : ini1 (M 24) (crow N (i + 1)) (M 2 i) s ≤ 1 + crow N (i + 1) s := by
          unfold ini1
          by_cases q : 0 ≤ M 24 (8 * s + M 2 i) ∧ crow N (i + 1) (M 24 (8 * s + M 2 i)) < 1 + crow N (i + 1) s
          · rw [iteP_pos q]; omega
          · rw [iteP_neg q]; omega
        omega
      · exact hI.2.2.2 i s (by omega) q2 q3 q4
  refine k_iload_n C dX7_reckonCosts_93 rfl rfl ?_
  refine k_bipush C dX7_reckonCosts_94 (by decide) ?_
  refine k_icmp_gt C (tgt := 115) dX7_reckonCosts_96 rfl (by omega) (by omega) (fun c96 => ?_) (fun c96 => ?_)
  · refine k_cut2 C (lv' := [(0, _), (1, _)]) ⟨rfl, rfl, trivial⟩ ?_
    exact kk N (fin (by first | exact hb.2 c100 | exact hb.2 (by omega) | exact Uk_stb hL hr (by omega) hU))
  · refine k_iload_n C dX7_reckonCosts_99 rfl rfl ?_
    refine k_if_eq C (tgt := 115) dX7_reckonCosts_100 rfl (by omega) (fun c100 => ?_) (fun c100 => ?_)
    · refine k_cut2 C (lv' := [(0, _), (1, _)]) ⟨rfl, rfl, trivial⟩ ?_
      exact kk N (fin (by first | exact hb.2 c100 | exact hb.2 (by omega) | exact Uk_stb hL hr (by omega) hU))
    · refine k_aload_n C dX7_reckonCosts_103 rfl rfl ?_
      refine k_iload_n C dX7_reckonCosts_104 rfl rfl ?_
      refine k_callV C okX7_72 dX7_reckonCosts_105 (c_lower N (by unfold LwC; rw [e23, e24]; exact hL) ini a k (by omega) (by rw [e23]; exact hr) (by rw [e23, e24]; exact hU) (by rw [e23, e24]; exact hB)) rfl rfl (by decide) rfl (by decide) rfl (Nat.le_of_ble_eq_true rfl) (fun r105 M105 hr105 hp105 => ?_)
      rw [e23, e24] at hp105
      obtain ⟨p1, p2, p3, p4, p5, p6, p7⟩ := hp105
      refine k_istore_n C dX7_reckonCosts_108 rfl (by decide) ?_
      refine k_iinc C dX7_reckonCosts_109 (by decide) rfl ?_
      refine k_goto C (tgt := 93) dX7_reckonCosts_112 rfl ?_
      refine k_cut2 C (lv' := [(0, _), (1, _), (2, _), (3, _)]) ⟨rfl, rfl, rfl, rfl, trivial⟩ ?_
      refine l_reck3 M hL hH C a ha ini kk M105 (RCI_tr hL hH (by omega) (by omega) hI p2 (fun i q => p3 i (by omega))) (fun s q1 q2 => ?_) r105 (k + 1) (by omega) (fun s q1 q2 => ?_) (fun s q1 q2 => ?_) p5 p6 ⟨p1, p7⟩
      · rw [hini s q1 q2]
        refine ini1_cg hL (fun t z1 z2 => ?_) (hH.2.2 a ha.1 ha.2) s q1 q2
        exact (p3 _ (by omega)).symm
      · have z1 := p4 s q1 q2; have z2 := hr s q1 q2; omega
      · have z1 := p4 s q1 q2; have z2 := hle s q1 q2; omega
termination_by (14 - k).toNat
decreasing_by all_goals omega
set_option maxRecDepth 100000 in
theorem l_reck2 {K : Kt} (M : Mem) (hL : LwC M) (hH : HdC M) (C : Ctx shC nC RX7 cX7_reckonCosts 5 none (lvl 4) (fun _ M' => RCI M M' 0) K) (a : Int) (ha : 0 ≤ a ∧ a < M 1 1) (kk : ∀ N : Mem, RCI M N a → K 115 [(0, .inr 47), (1, .inl a)] [] N) (N : Mem) (hI : RCI M N (a + 1)) (f : Int) (hf : 0 ≤ f ∧ f ≤ M 23 2) (hd : ∀ s, 0 ≤ s → s < f → crow N a s = ini1 (M 24) (crow N (a + 1)) (M 2 a) s) : K 30 [(0, .inr 47), (1, .inl a), (2, .inl f)] [] N := by
  have l1 := hL.1; have l2 := hL.2.1; have h1 := hH.1; have h2 := hH.2.1
  have e23 := hI.1 23 (by decide); have e24 := hI.1 24 (by decide); have e1 := hI.1 1 (by decide); have e2 := hI.1 2 (by decide)
  have hha := hH.2.2 a ha.1 ha.2
  refine k_iload_n C dX7_reckonCosts_30 rfl rfl ?_
  refine k_aload_n C dX7_reckonCosts_31 rfl rfl ?_
  refine k_getR C (j := 1) okC7 rfl (by decide) (by decide) rfl flX7_27 dX7_reckonCosts_32 ?_
  refine k_getJ C 2 2 rfl okC4 rfl (by decide) (by decide) rfl flX7_59 dX7_reckonCosts_35 (fun _ => ?_)
  rw [e23]
  refine k_icmp_ge C (tgt := 89) dX7_reckonCosts_38 rfl (by omega) (by omega) (fun c38 => ?_) (fun c38 => ?_)
  · refine k_iconst C dX7_reckonCosts_89 ?_
    refine k_istore_n C dX7_reckonCosts_90 rfl (by decide) ?_
    refine k_iconst C dX7_reckonCosts_91 ?_
    refine k_istore_n C dX7_reckonCosts_92 rfl (by decide) ?_
    refine k_cut2 C (lv' := [(0, _), (1, _), (2, _), (3, _)]) ⟨rfl, rfl, rfl, rfl, trivial⟩ ?_
    have hdl : ∀ s, 0 ≤ s → s < M 23 2 → crow N a s = ini1 (M 24) (crow N (a + 1)) (M 2 a) s := fun s z1 z2 => hd s z1 (by omega)
    have hir : ∀ s, 0 ≤ s → s < M 23 2 → 0 ≤ ini1 (M 24) (crow N (a + 1)) (M 2 a) s ∧ ini1 (M 24) (crow N (a + 1)) (M 2 a) s ≤ 12 := fun s z1 z2 => by
      have q1 := hI.2.2.2 (a + 1) s (by omega) (by omega) z1 z2
      have hto := hL.2.2 s (M 2 a) z1 z2 hha.1 hha.2
      unfold ini1
      by_cases z : 0 ≤ M 24 (8 * s + M 2 a) ∧ crow N (a + 1) (M 24 (8 * s + M 2 a)) < 1 + crow N (a + 1) s
      · rw [iteP_pos z]; have q2 := hI.2.2.2 (a + 1) _ (by omega) (by omega) z.1 hto.2; omega
      · rw [iteP_neg z]; omega
    refine l_reck3 M hL hH C a ha (ini1 (M 24) (crow N (a + 1)) (M 2 a)) kk N hI (fun _ _ _ => rfl) 1 0 (by omega) (fun s z1 z2 => by rw [hdl s z1 z2]; exact hir s z1 z2) (fun s z1 z2 => by rw [hdl s z1 z2]; exact Int.le_refl _) (fun s c z1 z2 z3 z4 z5 _ => ?_) (fun h y1 y2 s z1 z2 => by rw [hdl s z1 z2]; exact y1 s z1 z2) ⟨Or.inr rfl, fun z => by omega⟩
    have ht := hL.2.2 s c z1 z2 z3 z4
    rw [hdl _ z5 ht.2]
    exact (hir _ z5 ht.2).1
  · refine k_iload_n C dX7_reckonCosts_41 rfl rfl ?_
    refine k_bipush C dX7_reckonCosts_42 (by decide) ?_
    refine k_icmp_ge C (tgt := 89) dX7_reckonCosts_44 rfl (by omega) (by omega) (fun c44 => ?_) (fun c44 => ?_)
    · refine k_iconst C dX7_reckonCosts_89 ?_
      refine k_istore_n C dX7_reckonCosts_90 rfl (by decide) ?_
      refine k_iconst C dX7_reckonCosts_91 ?_
      refine k_istore_n C dX7_reckonCosts_92 rfl (by decide) ?_
      refine k_cut2 C (lv' := [(0, _), (1, _), (2, _), (3, _)]) ⟨rfl, rfl, rfl, rfl, trivial⟩ ?_
      have hdl : ∀ s, 0 ≤ s → s < M 23 2 → crow N a s = ini1 (M 24) (crow N (a + 1)) (M 2 a) s := fun s z1 z2 => hd s z1 (by omega)
      have hir : ∀ s, 0 ≤ s → s < M 23 2 → 0 ≤ ini1 (M 24) (crow N (a + 1)) (M 2 a) s ∧ ini1 (M 24) (crow N (a + 1)) (M 2 a) s ≤ 12 := fun s z1 z2 => by
        have q1 := hI.2.2.2 (a + 1) s (by omega) (by omega) z1 z2
        have hto := hL.2.2 s (M 2 a) z1 z2 hha.1 hha.2
        unfold ini1
        by_cases z : 0 ≤ M 24 (8 * s + M 2 a) ∧ crow N (a + 1) (M 24 (8 * s + M 2 a)) < 1 + crow N (a + 1) s
        · rw [iteP_pos z]; have q2 := hI.2.2.2 (a + 1) _ (by omega) (by omega) z.1 hto.2; omega
        · rw [iteP_neg z]; omega
      refine l_reck3 M hL hH C a ha (ini1 (M 24) (crow N (a + 1)) (M 2 a)) kk N hI (fun _ _ _ => rfl) 1 0 (by omega) (fun s z1 z2 => by rw [hdl s z1 z2]; exact hir s z1 z2) (fun s z1 z2 => by rw [hdl s z1 z2]; exact Int.le_refl _) (fun s c z1 z2 z3 z4 z5 _ => ?_) (fun h y1 y2 s z1 z2 => by rw [hdl s z1 z2]; exact y1 s z1 z2) ⟨Or.inr rfl, fun z => by omega⟩
      have ht := hL.2.2 s c z1 z2 z3 z4
      rw [hdl _ z5 ht.2]
      exact (hir _ z5 ht.2).1
    · have q1 := hI.2.2.2 (a + 1) f (by omega) (by omega) (by omega) (by omega)
      have hto := hL.2.2 f (M 2 a) (by omega) (by omega) hha.1 hha.2
      have q2 := fun z => hI.2.2.2 (a + 1) (M 24 (8 * f + M 2 a)) (by omega) (by omega) z hto.2
      refine k_iconst C dX7_reckonCosts_47 ?_
      refine k_aload_n C dX7_reckonCosts_48 rfl rfl ?_
      refine k_iload_n C dX7_reckonCosts_49 rfl rfl ?_
      refine k_iconst C dX7_reckonCosts_50 ?_
      refine k_iadd C dX7_reckonCosts_51 ?_
      refine k_iload_n C dX7_reckonCosts_52 rfl rfl ?_
      refine k_callV C okX7_41 dX7_reckonCosts_53 (c_costFrom N (a + 1) f (by omega) (by omega)) rfl rfl (by decide) rfl (by decide) rfl (Nat.le_of_ble_eq_true rfl) (fun r53 M53 hr53 hp53 => ?_)
      obtain ⟨rfl, rfl⟩ := hp53
      refine k_iadd C dX7_reckonCosts_56 ?_
      refine k_istore_n C dX7_reckonCosts_57 rfl (by decide) ?_
      refine k_aload_n C dX7_reckonCosts_58 rfl rfl ?_
      refine k_iload_n C dX7_reckonCosts_59 rfl rfl ?_
      refine k_iload_n C dX7_reckonCosts_60 rfl rfl ?_
      refine k_callV C okX7_64 dX7_reckonCosts_61 (c_costKeeping N (by unfold LwC; rw [e23, e24]; exact hL) (by unfold HdC; rw [e1, e2]; exact hH) a f (by rw [e1]; omega) (by rw [e23]; omega)) rfl rfl (by decide) rfl (by decide) rfl (Nat.le_of_ble_eq_true rfl) (fun r61 M61 hr61 hp61 => ?_)
      obtain ⟨rfl, hp61⟩ := hp61
      rw [e24, e2] at hp61
      have q2 := fun z => q2 z
      refine k_istore C dX7_reckonCosts_64 (by decide) ?_
      refine k_aload_n C dX7_reckonCosts_66 rfl rfl ?_
      refine k_getR C (j := 2) okC7 rfl (by decide) (by decide) rfl flX7_9 dX7_reckonCosts_67 ?_
      refine k_iload_n C dX7_reckonCosts_70 rfl rfl ?_
      refine k_bipush C dX7_reckonCosts_71 (by decide) ?_
      refine k_imul C dX7_reckonCosts_73 ?_
      refine k_iload_n C dX7_reckonCosts_74 rfl rfl ?_
      refine k_iadd C dX7_reckonCosts_75 ?_
      refine k_iload_n C dX7_reckonCosts_76 rfl rfl ?_
      refine k_iload C dX7_reckonCosts_77 rfl ?_
      refine k_min C (by omega) (by omega) okX7_67 dX7_reckonCosts_79 ⟨by decide, Nat.le_of_ble_eq_true rfl⟩ (fun r79 hp79 => ?_)
      have q3 := q2
      refine k_iastore C rfl (by decide) (by decide) ⟨by omega, by omega⟩ (by omega) dX7_reckonCosts_82 ?_
      refine k_iinc C dX7_reckonCosts_83 (by decide) rfl ?_
      refine k_goto C (tgt := 30) dX7_reckonCosts_86 rfl ?_
      refine k_cut2 C (lv' := [(0, _), (1, _), (2, _)]) ⟨rfl, rfl, rfl, trivial⟩ ?_
      have hval : r79 = ini1 (M 24) (crow N (a + 1)) (M 2 a) f := by
        unfold ini1
        by_cases z : 0 ≤ M 24 (8 * f + M 2 a) ∧ crow N (a + 1) (M 24 (8 * f + M 2 a)) < 1 + crow N (a + 1) f
        · rw [iteP_pos z]; omega
        · rw [iteP_neg z]; omega
      refine l_reck2 M hL hH C a ha kk _ (RCI_tr hL hH (by omega) (by omega) hI (fun j q => up_ne q) (fun i q => by rw [up_at, if_neg (by omega)])) (f + 1) (by omega) (fun s z1 z2 => ?_)
      rw [crow_up]
      have cg : ∀ t, 0 ≤ t → t < M 23 2 → crow (up N 48 (a * 30 + f) r79) (a + 1) t = crow N (a + 1) t := fun t y1 y2 => by unfold crow; rw [up_at, if_neg (by omega)]
      rw [ini1_cg hL cg hha s z1 (by omega)]
      by_cases e : s = f
      · rw [if_pos e, e]; exact hval
      · rw [if_neg e]; exact hd s z1 (by omega)
termination_by (M 23 2 - f).toNat
decreasing_by all_goals omega
set_option maxRecDepth 100000 in
theorem l_reck1 {K : Kt} (M : Mem) (hL : LwC M) (hH : HdC M) (C : Ctx shC nC RX7 cX7_reckonCosts 5 none (lvl 4) (fun _ M' => RCI M M' 0) K) (a : Int) (ha : -1 ≤ a ∧ a < M 1 1) (N : Mem) (hI : RCI M N (a + 1)) : K 18 [(0, .inr 47), (1, .inl a)] [] N := by
  have l1 := hL.1; have l2 := hL.2.1; have h1 := hH.1; have h2 := hH.2.1
  refine k_iload_n C dX7_reckonCosts_18 rfl rfl ?_
  refine k_if_lt C (tgt := 121) dX7_reckonCosts_19 rfl (by omega) (fun c19 => ?_) (fun c19 => ?_)
  · exact k_vret C dX7_reckonCosts_121 (fun _ => by rw [show (0 : Int) = a + 1 by omega]; exact hI)
  · refine k_iload_n C dX7_reckonCosts_22 rfl rfl ?_
    refine k_bipush C dX7_reckonCosts_23 (by decide) ?_
    refine k_icmp_ge C (tgt := 121) dX7_reckonCosts_25 rfl (by omega) (by omega) (fun c25 => ?_) (fun c25 => ?_)
    · exact k_vret C dX7_reckonCosts_121 (fun _ => by rw [show (0 : Int) = a + 1 by omega]; exact hI)
    · refine k_iconst C dX7_reckonCosts_28 ?_
      refine k_istore_n C dX7_reckonCosts_29 rfl (by decide) ?_
      refine k_cut2 C (lv' := [(0, _), (1, _), (2, _)]) ⟨rfl, rfl, rfl, trivial⟩ ?_
      refine l_reck2 M hL hH C a (by omega) (fun N2 h => ?_) N hI 0 (by omega) (fun s z1 z2 => by omega)
      refine k_iinc C dX7_reckonCosts_115 (by decide) rfl ?_
      refine k_goto C (tgt := 18) dX7_reckonCosts_118 rfl ?_
      refine k_cut2 C (lv' := [(0, _), (1, _)]) ⟨rfl, rfl, trivial⟩ ?_
      exact l_reck1 M hL hH C (a + -1) (by omega) N2 (by rw [show a + -1 + 1 = a by omega]; exact h)
termination_by (a + 1).toNat
decreasing_by all_goals omega
set_option maxRecDepth 100000 in
theorem c_reckon (M : Mem) (hL : LwC M) (hH : HdC M) : Ct shC nC yX7_reckonCosts cX7_reckonCosts 5 none (lvl 4) [.inr 47] M (fun _ M' => RCI M M' 0) := by
  refine Ct_of (by decide +kernel) (Nat.le_of_ble_eq_true rfl) (fun K C => ?_)
  have l1 := hL.1; have l2 := hL.2.1; have h1 := hH.1; have h2 := hH.2.1
  refine k_aload_n C dX7_reckonCosts_0 rfl rfl ?_
  refine k_getR C (j := 2) okC7 rfl (by decide) (by decide) rfl flX7_9 dX7_reckonCosts_1 ?_
  refine k_iconst C dX7_reckonCosts_4 ?_
  refine k_callS C okX7_53 dX7_reckonCosts_5 (c_fill 48 390 rfl (by decide) (by decide) _ 0 (by decide)) rfl (by decide) rfl (Nat.le_of_ble_eq_true rfl) (fun r5 M5 hr5 hp5 => ?_)
  subst hp5
  refine k_aload_n C dX7_reckonCosts_8 rfl rfl ?_
  refine k_getR C (j := 0) okC7 rfl (by decide) (by decide) rfl flX7_24 dX7_reckonCosts_9 ?_
  refine k_getJ C 1 1 rfl okC5 rfl (by decide) (by decide) rfl flX7_37 dX7_reckonCosts_12 (fun _ => ?_)
  rw [fillM_ne (show (1 : Nat) ≠ 48 by decide)]
  refine k_iconst C dX7_reckonCosts_15 ?_
  refine k_isub C dX7_reckonCosts_16 ?_
  refine k_istore_n C dX7_reckonCosts_17 rfl (by decide) ?_
  refine k_cut2 C (lv' := [(0, _), (1, _)]) ⟨rfl, rfl, trivial⟩ ?_
  refine l_reck1 M hL hH C (M 1 1 - 1) (by omega) _ ⟨fun j h => fillM_ne h, ?_, fun i q1 q2 => by omega, fun i s q1 q2 q3 q4 => ?_⟩
  · intro s q1 q2; unfold crow; rw [fillM_in (by omega)]
  · have : i = M 1 1 := by omega
    subst this; unfold crow; rw [fillM_in (by omega)]; omega
