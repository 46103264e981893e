/-! THE REFERENCE: mend, the rest -/
set_option maxRecDepth 100000 in
theorem m_first {K : Kt} (bl : Nat) (M : Mem) (hL : LwM M) (hH : HdM M) (C : Ctx (shM bl) nM RX11 cX11_mend 8 (some .int) (lvl 0) (fun r M' => (∀ j, j ≠ 0 → j ≠ 1 → j ≠ 35 → j ≠ 36 → M' j = M j) ∧ (∀ i, i ≠ 2 → M' 0 i = M 0 i) ∧ MendM M (M' 0 2) (M' 1) r) K) (a : Int) (ha : 0 ≤ a ∧ a < M 0 2) (kk : ∀ N : Mem, RMI M N a → K 276 [(0, .inr 0), (1, .inl (M 0 2)), (2, .inl a)] [] N) (N : Mem) (hI : RMI M N (a + 1)) (f : Int) (hf : 0 ≤ f ∧ f ≤ M 0 25) (hd : ∀ s, 0 ≤ s → s < f → mrow N a s = ini1 (M 19) (mrow N (a + 1)) (M 1 a) s) : K 48 [(0, .inr 0), (1, .inl (M 0 2)), (2, .inl a), (3, .inl f)] [] N := by
  have l1 := hL.1; have l2 := hL.2.1; have h1 := hH.1; have h2 := hH.2.1
  have e0 := hI.1 0 (by decide); have e19 := hI.1 19 (by decide); have e1 := hI.1 1 (by decide)
  have hha := hH.2.2 a ha.1 ha.2
  have rg : ∀ t, 0 ≤ t → t < M 0 25 → 0 ≤ N 35 (30 * (a + 1) + t) ∧ N 35 (30 * (a + 1) + t) ≤ 11 := fun t z1 z2 => by have := hI.2.2.2 (a + 1) t (by omega) (by omega) z1 z2; unfold mrow at this; omega
  refine k_iload_n C dX11_mend_48 rfl rfl ?_
  refine k_aload_n C dX11_mend_49 rfl rfl ?_
  refine k_getJ C 25 25 rfl okC11 rfl (by decide) (by decide) rfl flX11_126 dX11_mend_50 (fun _ => ?_)
  rw [e0]
  refine k_icmp_ge C (tgt := 151) dX11_mend_53 rfl (by omega) (by omega) (fun c53 => ?_) (fun c53 => ?_)
  · refine k_iconst C dX11_mend_151 ?_
    refine k_istore_n C dX11_mend_152 rfl (by decide) ?_
    refine k_cut2 C (lv' := [(0, _), (1, _), (2, _), (3, _)]) ⟨rfl, rfl, rfl, rfl, trivial⟩ ?_
    have hdl : ∀ s, 0 ≤ s → s < M 0 25 → mrow N a s = ini1 (M 19) (mrow N (a + 1)) (M 1 a) s := fun s z1 z2 => hd s z1 (by omega)
    have hir : ∀ s, 0 ≤ s → s < M 0 25 → 0 ≤ ini1 (M 19) (mrow N (a + 1)) (M 1 a) s ∧ ini1 (M 19) (mrow N (a + 1)) (M 1 a) s ≤ 12 := fun s z1 z2 => by
      have q1 := hI.2.2.2 (a + 1) s (by omega) (by omega) z1 z2
      have hto := hL.2.2 s (M 1 a) z1 z2 hha.1 hha.2
      unfold ini1
      by_cases z : 0 ≤ M 19 (8 * s + M 1 a) ∧ mrow N (a + 1) (M 19 (8 * s + M 1 a)) < 1 + mrow N (a + 1) s
      · rw [iteP_pos z]; have q2 := hI.2.2.2 (a + 1) _ (by omega) (by omega) z.1 hto.2; omega
      · rw [iteP_neg z]; omega
    refine m_rounds bl M hL hH C a ha (ini1 (M 19) (mrow N (a + 1)) (M 1 a)) kk N hI (fun _ _ _ => rfl) 1 0 ⟨by omega, fun _ => by omega⟩ (fun s z1 z2 => by rw [hdl s z1 z2]; exact hir s z1 z2) (fun s z1 z2 => by rw [hdl s z1 z2]; exact Int.le_refl _) (fun s c z1 z2 z3 z4 z5 _ => ?_) (fun h y1 y2 s z1 z2 => by rw [hdl s z1 z2]; exact y1 s z1 z2) ⟨Or.inr rfl, fun z => by omega⟩
    have ht := hL.2.2 s c z1 z2 z3 z4
    rw [hdl _ z5 ht.2]
    exact (hir _ z5 ht.2).1
  · have hto := hL.2.2 f (M 1 a) (by omega) (by omega) hha.1 hha.2
    have rf := rg f (by omega) (by omega)
    refine k_aload_n C dX11_mend_56 rfl rfl ?_
    refine k_getR C (j := 23) okC11 rfl (by decide) (by decide) rfl flX11_65 dX11_mend_57 ?_
    refine k_bipush C dX11_mend_60 (by decide) ?_
    refine k_iload_n C dX11_mend_62 rfl rfl ?_
    refine k_imul C dX11_mend_63 ?_
    refine k_aload_n C dX11_mend_64 rfl rfl ?_
    refine k_getR C (j := 1) okC11 rfl (by decide) (by decide) rfl flX11_9 dX11_mend_65 ?_
    refine k_iload_n C dX11_mend_68 rfl rfl ?_
    refine k_iaload C rfl (by decide) (by decide) ⟨by omega, by omega⟩ dX11_mend_69 (fun _ => ?_)
    rw [e1]
    refine k_iadd C dX11_mend_70 ?_
    refine k_iaload C rfl (by decide) (by decide) ⟨by omega, by omega⟩ dX11_mend_71 (fun _ => ?_)
    rw [e19]
    refine k_istore C dX11_mend_72 (by decide) ?_
    refine k_iconst C dX11_mend_74 ?_
    refine k_aload_n C dX11_mend_75 rfl rfl ?_
    refine k_getR C (j := 51) okC11 rfl (by decide) (by decide) rfl flX11_114 dX11_mend_76 ?_
    refine k_bipush C dX11_mend_79 (by decide) ?_
    refine k_iload_n C dX11_mend_81 rfl rfl ?_
    refine k_iconst C dX11_mend_82 ?_
    refine k_iadd C dX11_mend_83 ?_
    refine k_imul C dX11_mend_84 ?_
    refine k_iload_n C dX11_mend_85 rfl rfl ?_
    refine k_iadd C dX11_mend_86 ?_
    refine k_iaload C rfl (by decide) (by decide) ⟨by omega, by omega⟩ dX11_mend_87 (fun _ => ?_)
    refine k_iadd C dX11_mend_88 ?_
    refine k_istore C dX11_mend_89 (by decide) ?_
    refine k_aload_n C dX11_mend_91 rfl rfl ?_
    refine k_getR C (j := 51) okC11 rfl (by decide) (by decide) rfl flX11_114 dX11_mend_92 ?_
    refine k_bipush C dX11_mend_95 (by decide) ?_
    refine k_iload_n C dX11_mend_97 rfl rfl ?_
    refine k_imul C dX11_mend_98 ?_
    refine k_iload_n C dX11_mend_99 rfl rfl ?_
    refine k_iadd C dX11_mend_100 ?_
    refine k_iload C dX11_mend_101 rfl ?_
    refine k_if_lt C (tgt := 142) dX11_mend_103 rfl (by omega) (fun c103 => ?_) (fun c103 => ?_)
    · refine k_iload C dX11_mend_142 rfl ?_
      refine k_iastore C rfl (by decide) (by decide) ⟨by omega, by omega⟩ (by omega) dX11_mend_144 ?_
      refine k_iinc C dX11_mend_145 (by decide) rfl ?_
      refine k_goto C (tgt := 48) dX11_mend_148 rfl ?_
      refine k_cut2 C (lv' := [(0, _), (1, _), (2, _), (3, _)]) ⟨rfl, rfl, rfl, rfl, trivial⟩ ?_
      refine m_first bl M hL hH C a ha kk _ (RMI_tr hL hH (by omega) (by omega) hI (fun j z => up_ne z) (fun i z => by rw [up_at, if_neg (by omega)])) (f + 1) (by omega) (fun s z1 z2 => ?_)
      rw [mrow_up]
      have cg : ∀ v t, 0 ≤ t → t < M 0 25 → mrow (up N 35 (30 * a + f) v) (a + 1) t = mrow N (a + 1) t := fun v t y1 y2 => by unfold mrow; rw [up_at, if_neg (by omega)]
      rw [ini1_cg hL (cg _) hha s z1 (by omega)]
      by_cases e : s = f
      · rw [if_pos e, e]
        unfold ini1 mrow
        first | (rw [iteP_pos ⟨c103, c122⟩]; done) | (rw [iteP_neg (fun z => by have := z.2; omega)]; done) | (rw [iteP_neg (fun z => by have := z.1; omega)]; done)
      · rw [if_neg e]; exact hd s z1 (by omega)
    · have rt := rg (M 19 (8 * f + M 1 a)) (by omega) hto.2
      refine k_aload_n C dX11_mend_106 rfl rfl ?_
      refine k_getR C (j := 51) okC11 rfl (by decide) (by decide) rfl flX11_114 dX11_mend_107 ?_
      refine k_bipush C dX11_mend_110 (by decide) ?_
      refine k_iload_n C dX11_mend_112 rfl rfl ?_
      refine k_iconst C dX11_mend_113 ?_
      refine k_iadd C dX11_mend_114 ?_
      refine k_imul C dX11_mend_115 ?_
      refine k_iload C dX11_mend_116 rfl ?_
      refine k_iadd C dX11_mend_118 ?_
      refine k_iaload C rfl (by decide) (by decide) ⟨by omega, by omega⟩ dX11_mend_119 (fun _ => ?_)
      refine k_iload C dX11_mend_120 rfl ?_
      refine k_icmp_ge C (tgt := 142) dX11_mend_122 rfl (by omega) (by omega) (fun c122 => ?_) (fun c122 => ?_)
      · refine k_iload C dX11_mend_142 rfl ?_
        refine k_iastore C rfl (by decide) (by decide) ⟨by omega, by omega⟩ (by omega) dX11_mend_144 ?_
        refine k_iinc C dX11_mend_145 (by decide) rfl ?_
        refine k_goto C (tgt := 48) dX11_mend_148 rfl ?_
        refine k_cut2 C (lv' := [(0, _), (1, _), (2, _), (3, _)]) ⟨rfl, rfl, rfl, rfl, trivial⟩ ?_
        refine m_first bl M hL hH C a ha kk _ (RMI_tr hL hH (by omega) (by omega) hI (fun j z => up_ne z) (fun i z => by rw [up_at, if_neg (by omega)])) (f + 1) (by omega) (fun s z1 z2 => ?_)
        rw [mrow_up]
        have cg : ∀ v t, 0 ≤ t → t < M 0 25 → mrow (up N 35 (30 * a + f) v) (a + 1) t = mrow N (a + 1) t := fun v t y1 y2 => by unfold mrow; rw [up_at, if_neg (by omega)]
        rw [ini1_cg hL (cg _) hha s z1 (by omega)]
        by_cases e : s = f
        · rw [if_pos e, e]
          unfold ini1 mrow
          first | (rw [iteP_pos ⟨c103, c122⟩]; done) | (rw [iteP_neg (fun z => by have := z.2; omega)]; done) | (rw [iteP_neg (fun z => by have := z.1; omega)]; done)
        · rw [if_neg e]; exact hd s z1 (by omega)
      · refine k_aload_n C dX11_mend_125 rfl rfl ?_
        refine k_getR C (j := 51) okC11 rfl (by decide) (by decide) rfl flX11_114 dX11_mend_126 ?_
        refine k_bipush C dX11_mend_129 (by decide) ?_
        refine k_iload_n C dX11_mend_131 rfl rfl ?_
        refine k_iconst C dX11_mend_132 ?_
        refine k_iadd C dX11_mend_133 ?_
        refine k_imul C dX11_mend_134 ?_
        refine k_iload C dX11_mend_135 rfl ?_
        refine k_iadd C dX11_mend_137 ?_
        refine k_iaload C rfl (by decide) (by decide) ⟨by omega, by omega⟩ dX11_mend_138 (fun _ => ?_)
        refine k_goto C (tgt := 144) dX11_mend_139 rfl ?_
        refine k_iastore C rfl (by decide) (by decide) ⟨by omega, by omega⟩ (by omega) dX11_mend_144 ?_
        refine k_iinc C dX11_mend_145 (by decide) rfl ?_
        refine k_goto C (tgt := 48) dX11_mend_148 rfl ?_
        refine k_cut2 C (lv' := [(0, _), (1, _), (2, _), (3, _)]) ⟨rfl, rfl, rfl, rfl, trivial⟩ ?_
        refine m_first bl M hL hH C a ha kk _ (RMI_tr hL hH (by omega) (by omega) hI (fun j z => up_ne z) (fun i z => by rw [up_at, if_neg (by omega)])) (f + 1) (by omega) (fun s z1 z2 => ?_)
        rw [mrow_up]
        have cg : ∀ v t, 0 ≤ t → t < M 0 25 → mrow (up N 35 (30 * a + f) v) (a + 1) t = mrow N (a + 1) t := fun v t y1 y2 => by unfold mrow; rw [up_at, if_neg (by omega)]
        rw [ini1_cg hL (cg _) hha s z1 (by omega)]
        by_cases e : s = f
        · rw [if_pos e, e]
          unfold ini1 mrow
          first | (rw [iteP_pos ⟨c103, c122⟩]; done) | (rw [iteP_neg (fun z => by have := z.2; omega)]; done) | (rw [iteP_neg (fun z => by have := z.1; omega)]; done)
        · rw [if_neg e]; exact hd s z1 (by omega)
termination_by (M 0 25 - f).toNat
decreasing_by all_goals omega
set_option maxRecDepth 100000 in
theorem m_places {K : Kt} (bl : Nat) (M : Mem) (hL : LwM M) (hH : HdM M) (C : Ctx (shM bl) nM RX11 cX11_mend 8 (some .int) (lvl 0) (fun r M' => (∀ j, j ≠ 0 → j ≠ 1 → j ≠ 35 → j ≠ 36 → M' j = M j) ∧ (∀ i, i ≠ 2 → M' 0 i = M 0 i) ∧ MendM M (M' 0 2) (M' 1) r) K) (kk : ∀ (N : Mem) (a : Int), RMI M N 0 → K 282 [(0, .inr 0), (1, .inl (M 0 2)), (2, .inl a)] [] N) (a : Int) (ha : -1 ≤ a ∧ a < M 0 2) (N : Mem) (hI : RMI M N (a + 1)) : K 42 [(0, .inr 0), (1, .inl (M 0 2)), (2, .inl a)] [] N := by
  have l1 := hL.1; have l2 := hL.2.1; have h1 := hH.1; have h2 := hH.2.1
  refine k_iload_n C dX11_mend_42 rfl rfl ?_
  refine k_if_lt C (tgt := 282) dX11_mend_43 rfl (by omega) (fun c43 => ?_) (fun c43 => ?_)
  · refine k_cut2 C (lv' := [(0, _), (1, _), (2, _)]) ⟨rfl, rfl, rfl, trivial⟩ ?_
    exact kk N a (by rw [show (0 : Int) = a + 1 by omega]; exact hI)
  · refine k_iconst C dX11_mend_46 ?_
    refine k_istore_n C dX11_mend_47 rfl (by decide) ?_
    refine k_cut2 C (lv' := [(0, _), (1, _), (2, _), (3, _)]) ⟨rfl, rfl, rfl, rfl, trivial⟩ ?_
    refine m_first bl M hL hH C a (by omega) (fun N2 h => ?_) N hI 0 (by omega) (fun s z1 z2 => by omega)
    refine k_iinc C dX11_mend_276 (by decide) rfl ?_
    refine k_goto C (tgt := 42) dX11_mend_279 rfl ?_
    refine k_cut2 C (lv' := [(0, _), (1, _), (2, _)]) ⟨rfl, rfl, rfl, trivial⟩ ?_
    exact m_places bl M hL hH C kk (a + -1) (by omega) N2 (by rw [show a + -1 + 1 = a by omega]; exact h)
termination_by (a + 1).toNat
decreasing_by all_goals omega
set_option maxRecDepth 100000 in
theorem m_zero {K : Kt} (bl : Nat) (M : Mem) (hL : LwM M) (hH : HdM M) (C : Ctx (shM bl) nM RX11 cX11_mend 8 (some .int) (lvl 0) (fun r M' => (∀ j, j ≠ 0 → j ≠ 1 → j ≠ 35 → j ≠ 36 → M' j = M j) ∧ (∀ i, i ≠ 2 → M' 0 i = M 0 i) ∧ MendM M (M' 0 2) (M' 1) r) K) (kk : ∀ (N : Mem) (s : Int), RMI M N (M 0 2) → K 38 [(0, .inr 0), (1, .inl (M 0 2)), (2, .inl s)] [] N) (N : Mem) (hN : ∀ j, j ≠ 35 → N j = M j) (s : Int) (hs : 0 ≤ s ∧ s ≤ M 0 25) (hz : ∀ t, 0 ≤ t → t < s → mrow N (M 0 2) t = 0) : K 12 [(0, .inr 0), (1, .inl (M 0 2)), (2, .inl s)] [] N := by
  have l1 := hL.1; have l2 := hL.2.1; have h1 := hH.1; have h2 := hH.2.1
  have e0 := hN 0 (by decide)
  refine k_iload_n C dX11_mend_12 rfl rfl ?_
  refine k_aload_n C dX11_mend_13 rfl rfl ?_
  refine k_getJ C 25 25 rfl okC11 rfl (by decide) (by decide) rfl flX11_126 dX11_mend_14 (fun _ => ?_)
  rw [e0]
  refine k_icmp_ge C (tgt := 38) dX11_mend_17 rfl (by omega) (by omega) (fun c17 => ?_) (fun c17 => ?_)
  · refine k_cut2 C (lv' := [(0, _), (1, _), (2, _)]) ⟨rfl, rfl, rfl, trivial⟩ ?_
    refine kk N s ⟨hN, fun t z1 z2 => hz t z1 (by omega), fun i z1 z2 => by omega, fun i t z1 z2 z3 z4 => ?_⟩
    have e : i = M 0 2 := by omega
    rw [e, hz t z3 (by omega)]
    omega
  · refine k_aload_n C dX11_mend_20 rfl rfl ?_
    refine k_getR C (j := 51) okC11 rfl (by decide) (by decide) rfl flX11_114 dX11_mend_21 ?_
    refine k_bipush C dX11_mend_24 (by decide) ?_
    refine k_iload_n C dX11_mend_26 rfl rfl ?_
    refine k_imul C dX11_mend_27 ?_
    refine k_iload_n C dX11_mend_28 rfl rfl ?_
    refine k_iadd C dX11_mend_29 ?_
    refine k_iconst C dX11_mend_30 ?_
    refine k_iastore C rfl (by decide) (by decide) ⟨by omega, by omega⟩ (by omega) dX11_mend_31 ?_
    refine k_iinc C dX11_mend_32 (by decide) rfl ?_
    refine k_goto C (tgt := 12) dX11_mend_35 rfl ?_
    refine k_cut2 C (lv' := [(0, _), (1, _), (2, _)]) ⟨rfl, rfl, rfl, trivial⟩ ?_
    refine m_zero bl M hL hH C kk _ (fun j z => by rw [up_ne z, hN j z]) (s + 1) (by omega) (fun t z1 z2 => ?_)
    rw [mrow_up]
    by_cases e : t = s
    · rw [if_pos e]
    · rw [if_neg e]; exact hz t z1 (by omega)
termination_by (M 0 25 - s).toNat
decreasing_by all_goals omega
def WkM (M N : Mem) (q : Int × Int × Int × (Int → Int)) : Prop := (∀ j, j ≠ 36 → N j = M j) ∧ ∀ j, 0 ≤ j → j < q.2.2.1 → N 36 j = q.2.2.2 j
theorem WkM_s {M N : Mem} {i s m i' s' c : Int} {md : Int → Int} (h : WkM M N (i, s, m, md)) (hm : 0 ≤ m) : WkM M (up N 36 m c) (i', s', m + 1, fun j => if j = m then c else md j) := by
  refine ⟨fun j z => by rw [up_ne z]; exact h.1 j z, fun j z1 z2 => ?_⟩
  show up N 36 m c 36 j = if j = m then c else md j
  have z2 : j < m + 1 := z2
  rw [up_at]
  by_cases e : j = m
  · rw [if_pos e, if_pos e]
  · rw [if_neg e, if_neg e]; exact h.2 j z1 (by show j < m; omega)
set_option maxRecDepth 100000 in
theorem m_find {K : Kt} (bl : Nat) (M : Mem) (hL : LwM M) (hH : HdM M) (C : Ctx (shM bl) nM RX11 cX11_mend 8 (some .int) (lvl 0) (fun r M' => (∀ j, j ≠ 0 → j ≠ 1 → j ≠ 35 → j ≠ 36 → M' j = M j) ∧ (∀ i, i ≠ 2 → M' 0 i = M 0 i) ∧ MendM M (M' 0 2) (M' 1) r) K) (R : Mem) (hR : RMI M R 0) (t : Nat) (N : Mem) (i s m : Int) (md : Int → Int) (hq : wlk (M 19) (M 1) (mrow R) (M 0 2) t = (i, s, m, md)) (hW : WkM R N (i, s, m, md)) (hi : i < M 0 2) (n1 : ¬ kpP (M 19) (M 1) (mrow R) i s) (n2 : ¬ otP (mrow R) i s) (kk : ∀ c, 0 ≤ c → c < 8 → ptP (M 19) (mrow R) i s c → (∀ d, 0 ≤ d → d < c → ¬ ptP (M 19) (mrow R) i s d) → K 459 [(0, .inr 0), (1, .inl (M 0 2)), (2, .inl m), (3, .inl s), (4, .inl i), (7, .inl c)] [] N) (c : Int) (hc : 0 ≤ c ∧ c ≤ 8) (hd : ∀ d, 0 ≤ d → d < c → ¬ ptP (M 19) (mrow R) i s d) : K 408 [(0, .inr 0), (1, .inl (M 0 2)), (2, .inl m), (3, .inl s), (4, .inl i), (5, .inl (mrow R i s)), (7, .inl c)] [] N := by
  have l1 := hL.1; have l2 := hL.2.1; have h1 := hH.1; have h2 := hH.2.1
  have wk := wlk_ok hL hH.2.2 hH.1 hR.2 t
  rw [hq] at wk
  obtain ⟨a1, a2, a3, a4, a5⟩ := wk
  dsimp only at a1 a2 a3 a4 a5
  have e0 : N 0 = M 0 := by rw [hW.1 0 (by decide), hR.1 0 (by decide)]
  have e1 : N 1 = M 1 := by rw [hW.1 1 (by decide), hR.1 1 (by decide)]
  have e19 : N 19 = M 19 := by rw [hW.1 19 (by decide), hR.1 19 (by decide)]
  have e35 : N 35 = R 35 := hW.1 35 (by decide)
  obtain ⟨c0, w1, w2, w3, w4⟩ := wst_ok hL hH.2.2 hR.2 ⟨a1.1, hi⟩ a2 n1 n2
  have hc8 : c < 8 := by
    by_cases z : c < 8
    · exact z
    · exact absurd w3 (hd c0 w1 (by omega))
  have hto := hL.2.2 s c a2.1 a2.2 hc.1 hc8
  have rt := fun z => hR.2.2.2 i (M 19 (8 * s + c)) (by omega) (by omega) z hto.2
  have r0 := hR.2.2.2 i s (by omega) (by omega) a2.1 a2.2
  refine k_aload_n C dX11_mend_408 rfl rfl ?_
  refine k_getR C (j := 23) okC11 rfl (by decide) (by decide) rfl flX11_65 dX11_mend_409 ?_
  refine k_bipush C dX11_mend_412 (by decide) ?_
  refine k_iload_n C dX11_mend_414 rfl rfl ?_
  refine k_imul C dX11_mend_415 ?_
  refine k_iload C dX11_mend_416 rfl ?_
  refine k_iadd C dX11_mend_418 ?_
  refine k_iaload C rfl (by decide) (by decide) ⟨by omega, by omega⟩ dX11_mend_419 (fun _ => ?_)
  rw [e19]
  refine k_if_lt C (tgt := 453) dX11_mend_420 rfl (by omega) (fun c420 => ?_) (fun c420 => ?_)
  · refine k_iinc C dX11_mend_453 (by decide) rfl ?_
    refine k_goto C (tgt := 408) dX11_mend_456 rfl ?_
    refine k_cut2 C (lv' := [(0, _), (1, _), (2, _), (3, _), (4, _), (5, _), (7, _)]) ⟨rfl, rfl, rfl, rfl, rfl, rfl, rfl, trivial⟩ ?_
    refine m_find bl M hL hH C R hR t N i s m md hq hW hi n1 n2 kk (c + 1) (by omega) (fun d z1 z2 z => ?_)
    by_cases e : d = c
    · subst e
      have y1 := z.1; have y2 := z.2
      omega
    · exact hd d z1 (by omega) z
  · have rt := rt (by omega)
    refine k_iconst C dX11_mend_423 ?_
    refine k_aload_n C dX11_mend_424 rfl rfl ?_
    refine k_getR C (j := 51) okC11 rfl (by decide) (by decide) rfl flX11_114 dX11_mend_425 ?_
    refine k_bipush C dX11_mend_428 (by decide) ?_
    refine k_iload C dX11_mend_430 rfl ?_
    refine k_imul C dX11_mend_432 ?_
    refine k_aload_n C dX11_mend_433 rfl rfl ?_
    refine k_getR C (j := 23) okC11 rfl (by decide) (by decide) rfl flX11_65 dX11_mend_434 ?_
    refine k_bipush C dX11_mend_437 (by decide) ?_
    refine k_iload_n C dX11_mend_439 rfl rfl ?_
    refine k_imul C dX11_mend_440 ?_
    refine k_iload C dX11_mend_441 rfl ?_
    refine k_iadd C dX11_mend_443 ?_
    refine k_iaload C rfl (by decide) (by decide) ⟨by omega, by omega⟩ dX11_mend_444 (fun _ => ?_)
    rw [e19]
    refine k_iadd C dX11_mend_445 ?_
    refine k_iaload C rfl (by decide) (by decide) ⟨by omega, by omega⟩ dX11_mend_446 (fun _ => ?_)
    rw [e35, show R 35 (30 * i + M 19 (8 * s + c)) = mrow R i (M 19 (8 * s + c)) from rfl]
    refine k_iadd C dX11_mend_447 ?_
    refine k_iload C dX11_mend_448 rfl ?_
    refine k_icmp_eq C (tgt := 459) dX11_mend_450 rfl (by omega) (by omega) (fun c450 => ?_) (fun c450 => ?_)
    · refine k_cut2 C (lv' := [(0, _), (1, _), (2, _), (3, _), (4, _), (7, _)]) ⟨rfl, rfl, rfl, rfl, rfl, rfl, trivial⟩ ?_
      exact kk c hc.1 hc8 ⟨by omega, by omega⟩ hd
    · refine k_iinc C dX11_mend_453 (by decide) rfl ?_
      refine k_goto C (tgt := 408) dX11_mend_456 rfl ?_
      refine k_cut2 C (lv' := [(0, _), (1, _), (2, _), (3, _), (4, _), (5, _), (7, _)]) ⟨rfl, rfl, rfl, rfl, rfl, rfl, rfl, trivial⟩ ?_
      refine m_find bl M hL hH C R hR t N i s m md hq hW hi n1 n2 kk (c + 1) (by omega) (fun d z1 z2 z => ?_)
      by_cases e : d = c
      · subst e
        have y1 := z.1; have y2 := z.2
        omega
      · exact hd d z1 (by omega) z
termination_by (8 - c).toNat
decreasing_by all_goals omega
set_option maxRecDepth 100000 in
theorem m_way {K : Kt} (bl : Nat) (M : Mem) (hL : LwM M) (hH : HdM M) (C : Ctx (shM bl) nM RX11 cX11_mend 8 (some .int) (lvl 0) (fun r M' => (∀ j, j ≠ 0 → j ≠ 1 → j ≠ 35 → j ≠ 36 → M' j = M j) ∧ (∀ i, i ≠ 2 → M' 0 i = M 0 i) ∧ MendM M (M' 0 2) (M' 1) r) K) (R : Mem) (hR : RMI M R 0) (kk : ∀ N : Mem, WkM R N (wlk (M 19) (M 1) (mrow R) (M 0 2) 24) → K 486 [(0, .inr 0), (1, .inl (M 0 2)), (2, .inl (wlk (M 19) (M 1) (mrow R) (M 0 2) 24).2.2.1)] [] N) (t : Nat) (ht : t ≤ 24) (N : Mem) (i s m : Int) (md : Int → Int) (hq : wlk (M 19) (M 1) (mrow R) (M 0 2) t = (i, s, m, md)) (hW : WkM R N (i, s, m, md)) : K 289 [(0, .inr 0), (1, .inl (M 0 2)), (2, .inl m), (3, .inl s), (4, .inl i)] [] N := by
  have l1 := hL.1; have l2 := hL.2.1; have h1 := hH.1; have h2 := hH.2.1
  have wk := wlk_ok hL hH.2.2 hH.1 hR.2 t
  rw [hq] at wk
  obtain ⟨a1, a2, a3, a4, a5⟩ := wk
  dsimp only at a1 a2 a3 a4 a5
  have e0 : N 0 = M 0 := by rw [hW.1 0 (by decide), hR.1 0 (by decide)]
  have e1 : N 1 = M 1 := by rw [hW.1 1 (by decide), hR.1 1 (by decide)]
  have e19 : N 19 = M 19 := by rw [hW.1 19 (by decide), hR.1 19 (by decide)]
  have e35 : N 35 = R 35 := hW.1 35 (by decide)
  have hlt : i < M 0 2 → t < 24 := fun z => by
    rcases Nat.lt_or_ge t 24 with y | y
    · exact y
    · have := wlk_end hL hH.2.2 hH.1 hR.2 (t := t) (by omega); rw [hq] at this; dsimp only at this; omega
  have stp : i < M 0 2 → wlk (M 19) (M 1) (mrow R) (M 0 2) (t + 1) = wst (M 19) (M 1) (mrow R) (i, s, m, md) := fun z => by
    show iteP _ _ _ = _
    rw [hq, iteP_pos z]
  refine k_iload C dX11_mend_289 rfl ?_
  refine k_iload_n C dX11_mend_291 rfl rfl ?_
  refine k_icmp_ge C (tgt := 486) dX11_mend_292 rfl (by omega) (by omega) (fun c292 => ?_) (fun c292 => ?_)
  · refine k_cut2 C (lv' := [(0, _), (1, _), (2, _)]) ⟨rfl, rfl, rfl, trivial⟩ ?_
    have e : wlk (M 19) (M 1) (mrow R) (M 0 2) 24 = (i, s, m, md) := by
      rw [← hq]
      have z2 := wlk_stay (nx := M 19) (hd := M 1) (cost := mrow R) (n := M 0 2) (t := t) (by rw [hq]; dsimp only; omega) (24 - t)
      rwa [show t + (24 - t) = 24 by omega] at z2
    have q := kk N (by rw [e]; exact hW)
    rw [e] at q
    exact q
  · have hlt := hlt c292; have stp := stp c292
    have hhd := hH.2.2 i a1.1 c292
    have hto := hL.2.2 s (M 1 i) a2.1 a2.2 hhd.1 hhd.2
    have r0 := hR.2.2.2 i s (by omega) (by omega) a2.1 a2.2
    have r1 := hR.2.2.2 (i + 1) s (by omega) (by omega) a2.1 a2.2
    have rt := fun z => hR.2.2.2 (i + 1) (M 19 (8 * s + M 1 i)) (by omega) (by omega) z hto.2
    refine k_aload_n C dX11_mend_295 rfl rfl ?_
    refine k_getR C (j := 51) okC11 rfl (by decide) (by decide) rfl flX11_114 dX11_mend_296 ?_
    refine k_bipush C dX11_mend_299 (by decide) ?_
    refine k_iload C dX11_mend_301 rfl ?_
    refine k_imul C dX11_mend_303 ?_
    refine k_iload_n C dX11_mend_304 rfl rfl ?_
    refine k_iadd C dX11_mend_305 ?_
    refine k_iaload C rfl (by decide) (by decide) ⟨by omega, by omega⟩ dX11_mend_306 (fun _ => ?_)
    rw [e35, show R 35 (30 * i + s) = mrow R i s from rfl]
    refine k_istore C dX11_mend_307 (by decide) ?_
    refine k_aload_n C dX11_mend_309 rfl rfl ?_
    refine k_getR C (j := 23) okC11 rfl (by decide) (by decide) rfl flX11_65 dX11_mend_310 ?_
    refine k_bipush C dX11_mend_313 (by decide) ?_
    refine k_iload_n C dX11_mend_315 rfl rfl ?_
    refine k_imul C dX11_mend_316 ?_
    refine k_aload_n C dX11_mend_317 rfl rfl ?_
    refine k_getR C (j := 1) okC11 rfl (by decide) (by decide) rfl flX11_9 dX11_mend_318 ?_
    refine k_iload C dX11_mend_321 rfl ?_
    refine k_iaload C rfl (by decide) (by decide) ⟨by omega, by omega⟩ dX11_mend_323 (fun _ => ?_)
    rw [e1]
    refine k_iadd C dX11_mend_324 ?_
    refine k_iaload C rfl (by decide) (by decide) ⟨by omega, by omega⟩ dX11_mend_325 (fun _ => ?_)
    rw [e19]
    refine k_istore C dX11_mend_326 (by decide) ?_
    refine k_iload C dX11_mend_328 rfl ?_
    refine k_if_lt C (tgt := 378) dX11_mend_330 rfl (by omega) (fun c330 => ?_) (fun c330 => ?_)
    · refine k_iconst C dX11_mend_378 ?_
      refine k_aload_n C dX11_mend_379 rfl rfl ?_
      refine k_getR C (j := 51) okC11 rfl (by decide) (by decide) rfl flX11_114 dX11_mend_380 ?_
      refine k_bipush C dX11_mend_383 (by decide) ?_
      refine k_iload C dX11_mend_385 rfl ?_
      refine k_iconst C dX11_mend_387 ?_
      refine k_iadd C dX11_mend_388 ?_
      refine k_imul C dX11_mend_389 ?_
      refine k_iload_n C dX11_mend_390 rfl rfl ?_
      refine k_iadd C dX11_mend_391 ?_
      refine k_iaload C rfl (by decide) (by decide) ⟨by omega, by omega⟩ dX11_mend_392 (fun _ => ?_)
      rw [e35, show R 35 (30 * (i + 1) + s) = mrow R (i + 1) s from rfl]
      refine k_iadd C dX11_mend_393 ?_
      refine k_iload C dX11_mend_394 rfl ?_
      refine k_icmp_ne C (tgt := 405) dX11_mend_396 rfl (by omega) (by omega) (fun c396 => ?_) (fun c396 => ?_)
      · refine k_iconst C dX11_mend_405 ?_
        refine k_istore C dX11_mend_406 (by decide) ?_
        refine k_cut2 C (lv' := [(0, _), (1, _), (2, _), (3, _), (4, _), (5, _), (7, _)]) ⟨rfl, rfl, rfl, rfl, rfl, rfl, rfl, trivial⟩ ?_
        have n1 : ¬ kpP (M 19) (M 1) (mrow R) i s := fun z => by have z1 := z.1; have z2 := z.2; omega
        have n2 : ¬ otP (mrow R) i s := fun z => by unfold otP at z; omega
        refine m_find bl M hL hH C R hR t N i s m md hq hW c292 n1 n2 (fun c c1 c2 c3 c4 => ?_) 0 (by omega) (fun d z1 z2 => by omega)
        have hto2 := hL.2.2 s c a2.1 a2.2 c1 c2
        refine k_aload_n C dX11_mend_459 rfl rfl ?_
        refine k_getR C (j := 52) okC11 rfl (by decide) (by decide) rfl flX11_117 dX11_mend_460 ?_
        refine k_iload_n C dX11_mend_463 rfl rfl ?_
        refine k_iload C dX11_mend_464 rfl ?_
        refine k_iastore C rfl (by decide) (by decide) ⟨by omega, by omega⟩ (by omega) dX11_mend_466 ?_
        refine k_iinc C dX11_mend_467 (by decide) rfl ?_
        refine k_aload_n C dX11_mend_470 rfl rfl ?_
        refine k_getR C (j := 23) okC11 rfl (by decide) (by decide) rfl flX11_65 dX11_mend_471 ?_
        refine k_bipush C dX11_mend_474 (by decide) ?_
        refine k_iload_n C dX11_mend_476 rfl rfl ?_
        refine k_imul C dX11_mend_477 ?_
        refine k_iload C dX11_mend_478 rfl ?_
        refine k_iadd C dX11_mend_480 ?_
        refine k_iaload C rfl (by decide) (by decide) ⟨by omega, by omega⟩ dX11_mend_481 (fun _ => ?_)
        rw [up_ne (show (19 : Nat) ≠ 36 by decide), e19]
        refine k_istore_n C dX11_mend_482 rfl (by decide) ?_
        refine k_goto C (tgt := 289) dX11_mend_483 rfl ?_
        refine k_cut2 C (lv' := [(0, _), (1, _), (2, _), (3, _), (4, _)]) ⟨rfl, rfl, rfl, rfl, rfl, trivial⟩ ?_
        refine m_way bl M hL hH C R hR kk (t + 1) (by omega) _ i (M 19 (8 * s + c)) (m + 1) (fun j => if j = m then c else md j) ?_ (WkM_s hW a3.1)
        rw [stp]; unfold wst; dsimp only; rw [iteP_neg n1, iteP_neg n2, fst8_eq ⟨c1, c2⟩ c3 c4]
      · refine k_iinc C dX11_mend_399 (by decide) rfl ?_
        refine k_goto C (tgt := 289) dX11_mend_402 rfl ?_
        refine k_cut2 C (lv' := [(0, _), (1, _), (2, _), (3, _), (4, _)]) ⟨rfl, rfl, rfl, rfl, rfl, trivial⟩ ?_
        first
        | (have n1 : ¬ kpP (M 19) (M 1) (mrow R) i s := fun z => by have z1 := z.1; have z2 := z.2; omega
           have n2 : otP (mrow R) i s := by unfold otP; omega
           refine m_way bl M hL hH C R hR kk (t + 1) (by omega) N (i + 1) s m md ?_ hW
           rw [stp]; unfold wst; dsimp only; rw [iteP_neg n1, iteP_pos n2])
        | (have n1 : kpP (M 19) (M 1) (mrow R) i s := ⟨by omega, by omega⟩
           refine m_way bl M hL hH C R hR kk (t + 1) (by omega) _ (i + 1) (M 19 (8 * s + M 1 i)) (m + 1) (fun j => if j = m then M 1 i else md j) ?_ (WkM_s hW a3.1)
           rw [stp]; unfold wst; dsimp only; rw [iteP_pos n1])
    · have rt := rt (by omega)
      refine k_aload_n C dX11_mend_333 rfl rfl ?_
      refine k_getR C (j := 51) okC11 rfl (by decide) (by decide) rfl flX11_114 dX11_mend_334 ?_
      refine k_bipush C dX11_mend_337 (by decide) ?_
      refine k_iload C dX11_mend_339 rfl ?_
      refine k_iconst C dX11_mend_341 ?_
      refine k_iadd C dX11_mend_342 ?_
      refine k_imul C dX11_mend_343 ?_
      refine k_iload C dX11_mend_344 rfl ?_
      refine k_iadd C dX11_mend_346 ?_
      refine k_iaload C rfl (by decide) (by decide) ⟨by omega, by omega⟩ dX11_mend_347 (fun _ => ?_)
      rw [e35, show R 35 (30 * (i + 1) + M 19 (8 * s + M 1 i)) = mrow R (i + 1) (M 19 (8 * s + M 1 i)) from rfl]
      refine k_iload C dX11_mend_348 rfl ?_
      refine k_icmp_ne C (tgt := 378) dX11_mend_350 rfl (by omega) (by omega) (fun c350 => ?_) (fun c350 => ?_)
      · refine k_iconst C dX11_mend_378 ?_
        refine k_aload_n C dX11_mend_379 rfl rfl ?_
        refine k_getR C (j := 51) okC11 rfl (by decide) (by decide) rfl flX11_114 dX11_mend_380 ?_
        refine k_bipush C dX11_mend_383 (by decide) ?_
        refine k_iload C dX11_mend_385 rfl ?_
        refine k_iconst C dX11_mend_387 ?_
        refine k_iadd C dX11_mend_388 ?_
        refine k_imul C dX11_mend_389 ?_
        refine k_iload_n C dX11_mend_390 rfl rfl ?_
        refine k_iadd C dX11_mend_391 ?_
        refine k_iaload C rfl (by decide) (by decide) ⟨by omega, by omega⟩ dX11_mend_392 (fun _ => ?_)
        rw [e35, show R 35 (30 * (i + 1) + s) = mrow R (i + 1) s from rfl]
        refine k_iadd C dX11_mend_393 ?_
        refine k_iload C dX11_mend_394 rfl ?_
        refine k_icmp_ne C (tgt := 405) dX11_mend_396 rfl (by omega) (by omega) (fun c396 => ?_) (fun c396 => ?_)
        · refine k_iconst C dX11_mend_405 ?_
          refine k_istore C dX11_mend_406 (by decide) ?_
          refine k_cut2 C (lv' := [(0, _), (1, _), (2, _), (3, _), (4, _), (5, _), (7, _)]) ⟨rfl, rfl, rfl, rfl, rfl, rfl, rfl, trivial⟩ ?_
          have n1 : ¬ kpP (M 19) (M 1) (mrow R) i s := fun z => by have z1 := z.1; have z2 := z.2; omega
          have n2 : ¬ otP (mrow R) i s := fun z => by unfold otP at z; omega
          refine m_find bl M hL hH C R hR t N i s m md hq hW c292 n1 n2 (fun c c1 c2 c3 c4 => ?_) 0 (by omega) (fun d z1 z2 => by omega)
          have hto2 := hL.2.2 s c a2.1 a2.2 c1 c2
          refine k_aload_n C dX11_mend_459 rfl rfl ?_
          refine k_getR C (j := 52) okC11 rfl (by decide) (by decide) rfl flX11_117 dX11_mend_460 ?_
          refine k_iload_n C dX11_mend_463 rfl rfl ?_
          refine k_iload C dX11_mend_464 rfl ?_
          refine k_iastore C rfl (by decide) (by decide) ⟨by omega, by omega⟩ (by omega) dX11_mend_466 ?_
          refine k_iinc C dX11_mend_467 (by decide) rfl ?_
          refine k_aload_n C dX11_mend_470 rfl rfl ?_
          refine k_getR C (j := 23) okC11 rfl (by decide) (by decide) rfl flX11_65 dX11_mend_471 ?_
          refine k_bipush C dX11_mend_474 (by decide) ?_
          refine k_iload_n C dX11_mend_476 rfl rfl ?_
          refine k_imul C dX11_mend_477 ?_
          refine k_iload C dX11_mend_478 rfl ?_
          refine k_iadd C dX11_mend_480 ?_
          refine k_iaload C rfl (by decide) (by decide) ⟨by omega, by omega⟩ dX11_mend_481 (fun _ => ?_)
          rw [up_ne (show (19 : Nat) ≠ 36 by decide), e19]
          refine k_istore_n C dX11_mend_482 rfl (by decide) ?_
          refine k_goto C (tgt := 289) dX11_mend_483 rfl ?_
          refine k_cut2 C (lv' := [(0, _), (1, _), (2, _), (3, _), (4, _)]) ⟨rfl, rfl, rfl, rfl, rfl, trivial⟩ ?_
          refine m_way bl M hL hH C R hR kk (t + 1) (by omega) _ i (M 19 (8 * s + c)) (m + 1) (fun j => if j = m then c else md j) ?_ (WkM_s hW a3.1)
          rw [stp]; unfold wst; dsimp only; rw [iteP_neg n1, iteP_neg n2, fst8_eq ⟨c1, c2⟩ c3 c4]
        · refine k_iinc C dX11_mend_399 (by decide) rfl ?_
          refine k_goto C (tgt := 289) dX11_mend_402 rfl ?_
          refine k_cut2 C (lv' := [(0, _), (1, _), (2, _), (3, _), (4, _)]) ⟨rfl, rfl, rfl, rfl, rfl, trivial⟩ ?_
          first
          | (have n1 : ¬ kpP (M 19) (M 1) (mrow R) i s := fun z => by have z1 := z.1; have z2 := z.2; omega
             have n2 : otP (mrow R) i s := by unfold otP; omega
             refine m_way bl M hL hH C R hR kk (t + 1) (by omega) N (i + 1) s m md ?_ hW
             rw [stp]; unfold wst; dsimp only; rw [iteP_neg n1, iteP_pos n2])
          | (have n1 : kpP (M 19) (M 1) (mrow R) i s := ⟨by omega, by omega⟩
             refine m_way bl M hL hH C R hR kk (t + 1) (by omega) _ (i + 1) (M 19 (8 * s + M 1 i)) (m + 1) (fun j => if j = m then M 1 i else md j) ?_ (WkM_s hW a3.1)
             rw [stp]; unfold wst; dsimp only; rw [iteP_pos n1])
      · refine k_aload_n C dX11_mend_353 rfl rfl ?_
        refine k_getR C (j := 52) okC11 rfl (by decide) (by decide) rfl flX11_117 dX11_mend_354 ?_
        refine k_iload_n C dX11_mend_357 rfl rfl ?_
        refine k_aload_n C dX11_mend_358 rfl rfl ?_
        refine k_getR C (j := 1) okC11 rfl (by decide) (by decide) rfl flX11_9 dX11_mend_359 ?_
        refine k_iload C dX11_mend_362 rfl ?_
        refine k_iaload C rfl (by decide) (by decide) ⟨by omega, by omega⟩ dX11_mend_364 (fun _ => ?_)
        rw [e1]
        refine k_iastore C rfl (by decide) (by decide) ⟨by omega, by omega⟩ (by omega) dX11_mend_365 ?_
        refine k_iinc C dX11_mend_366 (by decide) rfl ?_
        refine k_iload C dX11_mend_369 rfl ?_
        refine k_istore_n C dX11_mend_371 rfl (by decide) ?_
        refine k_iinc C dX11_mend_372 (by decide) rfl ?_
        refine k_goto C (tgt := 289) dX11_mend_375 rfl ?_
        refine k_cut2 C (lv' := [(0, _), (1, _), (2, _), (3, _), (4, _)]) ⟨rfl, rfl, rfl, rfl, rfl, trivial⟩ ?_
        first
        | (have n1 : ¬ kpP (M 19) (M 1) (mrow R) i s := fun z => by have z1 := z.1; have z2 := z.2; omega
           have n2 : otP (mrow R) i s := by unfold otP; omega
           refine m_way bl M hL hH C R hR kk (t + 1) (by omega) N (i + 1) s m md ?_ hW
           rw [stp]; unfold wst; dsimp only; rw [iteP_neg n1, iteP_pos n2])
        | (have n1 : kpP (M 19) (M 1) (mrow R) i s := ⟨by omega, by omega⟩
           refine m_way bl M hL hH C R hR kk (t + 1) (by omega) _ (i + 1) (M 19 (8 * s + M 1 i)) (m + 1) (fun j => if j = m then M 1 i else md j) ?_ (WkM_s hW a3.1)
           rw [stp]; unfold wst; dsimp only; rw [iteP_pos n1])
termination_by 25 - t
decreasing_by all_goals omega
set_option maxRecDepth 100000 in
theorem m_copy {K : Kt} (bl : Nat) (M : Mem) (hL : LwM M) (hH : HdM M) (C : Ctx (shM bl) nM RX11 cX11_mend 8 (some .int) (lvl 0) (fun r M' => (∀ j, j ≠ 0 → j ≠ 1 → j ≠ 35 → j ≠ 36 → M' j = M j) ∧ (∀ i, i ≠ 2 → M' 0 i = M 0 i) ∧ MendM M (M' 0 2) (M' 1) r) K) (cost : Int → Int → Int) (hC : COk (M 0 25) (M 19) (M 1) (M 0 2) 0 cost) (q : Int × Int × Int × (Int → Int)) (hq : q = wlk (M 19) (M 1) cost (M 0 2) 24) (hm : 0 ≤ q.2.2.1 ∧ q.2.2.1 ≤ 12) (hmd : ∀ j, 0 ≤ j → j < q.2.2.1 → 0 ≤ q.2.2.2 j ∧ q.2.2.2 j < 8) (hr : 0 ≤ cost 0 0 ∧ cost 0 0 ≤ 12) (N : Mem) (hf : ∀ j, j ≠ 1 → j ≠ 35 → j ≠ 36 → N j = M j) (h36 : ∀ j, 0 ≤ j → j < q.2.2.1 → N 36 j = q.2.2.2 j) (i : Int) (hi : 0 ≤ i ∧ i ≤ q.2.2.1) (hh2 : N 1 = fun j => if 0 ≤ j ∧ j < i then q.2.2.2 j else M 1 j) : K 505 [(0, .inr 0), (1, .inl (M 0 2)), (2, .inl q.2.2.1), (5, .inl (cost 0 0)), (6, .inl i)] [] N := by
  have l1 := hL.1; have l2 := hL.2.1; have h1 := hH.1; have h2 := hH.2.1
  refine k_iload C dX11_mend_505 rfl ?_
  refine k_iload_n C dX11_mend_507 rfl rfl ?_
  refine k_icmp_ge C (tgt := 531) dX11_mend_508 rfl (by omega) (by omega) (fun c508 => ?_) (fun c508 => ?_)
  · refine k_aload_n C dX11_mend_531 rfl rfl ?_
    refine k_iload_n C dX11_mend_532 rfl rfl ?_
    refine k_putJ C 2 2 rfl okC11 rfl (by decide) (by decide) rfl rfl rfl (by omega) flX11_144 dX11_mend_533 ?_
    refine k_iload_n C dX11_mend_536 rfl rfl ?_
    refine k_if_ne C (tgt := 544) dX11_mend_537 rfl (by omega) (fun c537 => ?_) (fun c537 => ?_)
    · refine k_iload C dX11_mend_544 rfl ?_
      exact k_iret C dX11_mend_546 (by omega) (fun _ => by
        have ei : i = q.2.2.1 := by omega
        rw [ei] at hh2
        refine ⟨fun j a b c d => by rw [up_ne a]; exact hf j b c d, fun i' h => by rw [up_at, if_neg h, hf 0 (by decide) (by decide) (by decide)], cost, hC, Or.inr ?_⟩
        rw [← hq]
        refine ⟨hm.2, ?_, up_same, by rw [up_ne (by decide)]; exact hh2⟩
        first | rfl | (have := hC.1 0 (by omega) (by omega); rw [show M 0 2 = 0 by omega] at this; omega))
    · refine k_iconst C dX11_mend_540 ?_
      refine k_goto C (tgt := 546) dX11_mend_541 rfl ?_
      exact k_iret C dX11_mend_546 (by omega) (fun _ => by
        have ei : i = q.2.2.1 := by omega
        rw [ei] at hh2
        refine ⟨fun j a b c d => by rw [up_ne a]; exact hf j b c d, fun i' h => by rw [up_at, if_neg h, hf 0 (by decide) (by decide) (by decide)], cost, hC, Or.inr ?_⟩
        rw [← hq]
        refine ⟨hm.2, ?_, up_same, by rw [up_ne (by decide)]; exact hh2⟩
        first | rfl | (have := hC.1 0 (by omega) (by omega); rw [show M 0 2 = 0 by omega] at this; omega))
  · refine k_aload_n C dX11_mend_511 rfl rfl ?_
    refine k_getR C (j := 1) okC11 rfl (by decide) (by decide) rfl flX11_9 dX11_mend_512 ?_
    refine k_iload C dX11_mend_515 rfl ?_
    refine k_aload_n C dX11_mend_517 rfl rfl ?_
    refine k_getR C (j := 52) okC11 rfl (by decide) (by decide) rfl flX11_117 dX11_mend_518 ?_
    refine k_iload C dX11_mend_521 rfl ?_
    refine k_iaload C rfl (by decide) (by decide) ⟨by omega, by omega⟩ dX11_mend_523 (fun _ => ?_)
    rw [h36 i (by omega) (by omega)]
    have hmi := hmd i (by omega) (by omega)
    refine k_iastore C rfl (by decide) (by decide) ⟨by omega, by omega⟩ (by omega) dX11_mend_524 ?_
    refine k_iinc C dX11_mend_525 (by decide) rfl ?_
    refine k_goto C (tgt := 505) dX11_mend_528 rfl ?_
    refine k_cut2 C (lv' := [(0, _), (1, _), (2, _), (5, _), (6, _)]) ⟨rfl, rfl, rfl, rfl, rfl, trivial⟩ ?_
    refine m_copy bl M hL hH C cost hC q hq hm hmd hr _ (fun j a b c => by rw [up_ne a]; exact hf j a b c) (fun j a b => ?_) (i + 1) (by omega) ?_
    · rw [up_ne (show (36 : Nat) ≠ 1 by decide)]; exact h36 j a b
    · funext j
      rw [up_at, hh2]
      by_cases e : j = i
      · rw [if_pos e, if_pos (by omega), e]
      · rw [if_neg e]
        dsimp only
        by_cases e2 : 0 ≤ j ∧ j < i
        · rw [if_pos e2, if_pos (by omega)]
        · rw [if_neg e2, if_neg (by omega)]
termination_by (q.2.2.1 - i).toNat
decreasing_by all_goals omega
set_option maxRecDepth 100000 in
theorem m_all {K : Kt} (bl : Nat) (M : Mem) (hL : LwM M) (hH : HdM M) (C : Ctx (shM bl) nM RX11 cX11_mend 8 (some .int) (lvl 0) (fun r M' => (∀ j, j ≠ 0 → j ≠ 1 → j ≠ 35 → j ≠ 36 → M' j = M j) ∧ (∀ i, i ≠ 2 → M' 0 i = M 0 i) ∧ MendM M (M' 0 2) (M' 1) r) K) : K 5 [(0, .inr 0)] [] M := by
  have l1 := hL.1; have l2 := hL.2.1; have h1 := hH.1; have h2 := hH.2.1
  refine k_aload_n C dX11_mend_5 rfl rfl ?_
  refine k_getJ C 2 2 rfl okC11 rfl (by decide) (by decide) rfl flX11_144 dX11_mend_6 (fun _ => ?_)
  refine k_istore_n C dX11_mend_9 rfl (by decide) ?_
  refine k_iconst C dX11_mend_10 ?_
  refine k_istore_n C dX11_mend_11 rfl (by decide) ?_
  refine k_cut2 C (lv' := [(0, _), (1, _), (2, _)]) ⟨rfl, rfl, rfl, trivial⟩ ?_
  refine m_zero bl M hL hH C (fun N s hI => ?_) M (fun _ _ => rfl) 0 (by omega) (fun t z1 z2 => by omega)
  refine k_iload_n C dX11_mend_38 rfl rfl ?_
  refine k_iconst C dX11_mend_39 ?_
  refine k_isub C dX11_mend_40 ?_
  refine k_istore_n C dX11_mend_41 rfl (by decide) ?_
  refine k_cut2 C (lv' := [(0, _), (1, _), (2, _)]) ⟨rfl, rfl, rfl, trivial⟩ ?_
  refine m_places bl M hL hH C (fun R a hR => ?_) (M 0 2 - 1) (by omega) N (by rw [show M 0 2 - 1 + 1 = M 0 2 by omega]; exact hI)
  refine k_iconst C dX11_mend_282 ?_
  refine k_istore_n C dX11_mend_283 rfl (by decide) ?_
  refine k_iconst C dX11_mend_284 ?_
  refine k_istore_n C dX11_mend_285 rfl (by decide) ?_
  refine k_iconst C dX11_mend_286 ?_
  refine k_istore C dX11_mend_287 (by decide) ?_
  refine k_cut2 C (lv' := [(0, _), (1, _), (2, _), (3, _), (4, _)]) ⟨rfl, rfl, rfl, rfl, rfl, trivial⟩ ?_
  refine m_way bl M hL hH C R hR (fun W hW => ?_) 0 (by omega) R 0 0 0 (fun _ => 0) rfl ⟨fun _ _ => rfl, fun j z1 z2 => by have z2 : j < 0 := z2; omega⟩
  have wk := wlk_ok hL hH.2.2 hH.1 hR.2 24
  have r00 := hR.2.2.2 0 0 (by omega) (by omega) (by omega) (by omega)
  have hf : ∀ j, j ≠ 1 → j ≠ 35 → j ≠ 36 → W j = M j := fun j _ b c => by rw [hW.1 j c, hR.1 j b]
  have hW1 : W 1 = M 1 := by rw [hW.1 1 (by decide), hR.1 1 (by decide)]
  refine k_iload_n C dX11_mend_486 rfl rfl ?_
  refine k_bipush C dX11_mend_487 (by decide) ?_
  refine k_icmp_le C (tgt := 494) dX11_mend_489 rfl (by omega) (by omega) (fun c489 => ?_) (fun c489 => ?_)
  · refine k_aload_n C dX11_mend_494 rfl rfl ?_
    refine k_getR C (j := 51) okC11 rfl (by decide) (by decide) rfl flX11_114 dX11_mend_495 ?_
    refine k_iconst C dX11_mend_498 ?_
    refine k_iaload C rfl (by decide) (by decide) ⟨by omega, by omega⟩ dX11_mend_499 (fun _ => ?_)
    rw [hW.1 35 (by decide), show R 35 0 = mrow R 0 0 from rfl]
    refine k_istore C dX11_mend_500 (by decide) ?_
    refine k_iconst C dX11_mend_502 ?_
    refine k_istore C dX11_mend_503 (by decide) ?_
    refine k_cut2 C (lv' := [(0, _), (1, _), (2, _), (5, _), (6, _)]) ⟨rfl, rfl, rfl, rfl, rfl, trivial⟩ ?_
    exact m_copy bl M hL hH C (mrow R) hR.2 _ rfl (by omega) wk.2.2.2.2 (by omega) W hf hW.2 0 (by omega) (by rw [hW1]; funext j; rw [if_neg (by omega)])
  · refine k_iconst C dX11_mend_492 ?_
    exact k_iret C dX11_mend_493 (by omega) (fun _ => ⟨fun j _ b c d => hf j b c d, fun i _ => by rw [hf 0 (by decide) (by decide) (by decide)], mrow R, hR.2, Or.inl ⟨by omega, rfl, by rw [hf 0 (by decide) (by decide) (by decide)], hW1⟩⟩)
