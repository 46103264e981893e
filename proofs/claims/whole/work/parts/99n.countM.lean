/-! THE REFERENCE: count -/
set_option maxHeartbeats 4000000 in
set_option maxRecDepth 100000 in
theorem m_cn0 {K : Kt} (bl : Nat) (B : Mem) (hB : BkM B) (hL : LwM B) (wh : Int) (hw : inR wh) (C : Ctx (shM bl) nM RX11 cX11_count 4 (some .int) (lvl 3) (fun r M' => (wh = 0 ∧ B = M' ∧ r = cntI (B 5) (B 0 7)) ∨ (wh = 1 ∧ B = M' ∧ r = B 0 7) ∨ (wh = 2 ∧ B = M' ∧ r = B 0 25) ∨ (wh = 3 ∧ B = M' ∧ r = cnI (fun i => 0 ≤ B 19 i) (8 * B 0 25)) ∨ (wh = 4 ∧ B = M' ∧ r = B 0 2) ∨ (wh = 5 ∧ B = M' ∧ r = B 0 30) ∨ (wh = 6 ∧ TrP B M' ∧ r = M' 0 13) ∨ (¬ (0 ≤ wh ∧ wh ≤ 6) ∧ B = M' ∧ r = -1)) K) (h0 : wh = 0) (sum r : Int) (hr : 0 ≤ r ∧ r ≤ B 0 7) (hs : sum = cntI (B 5) r) : K 54 [(0, .inr 0), (1, .inl wh), (2, .inl sum), (3, .inl r)] [] B := by
  have b1 := hB.1; have b2 := hB.2.1
  have l1 := hL.1; have l2 := hL.2.1
  have rg := cntI_rg (B 5) hr.1
  have cs := cntI_s (B 5) hr.1
  have hb := hB.2.2 r hr.1
  refine k_iload_n C dX11_count_54 rfl rfl ?_
  refine k_aload_n C dX11_count_55 rfl rfl ?_
  refine k_getJ C 7 7 rfl okC11 rfl (by decide) (by decide) rfl flX11_147 dX11_count_56 (fun ld56 => ?_)
  refine k_icmp_ge C (tgt := 85) dX11_count_59 rfl (by omega) (by omega) (fun c59 => ?_) (fun c59 => ?_)
  · refine k_iload_n C dX11_count_85 rfl rfl ?_
    exact k_iret C dX11_count_86 (by omega) (fun _ => Or.inl ⟨h0, rfl, by rw [hs, show r = B 0 7 by omega]⟩)
  · have hb := hb c59
    refine k_iload_n C dX11_count_62 rfl rfl ?_
    refine k_aload_n C dX11_count_63 rfl rfl ?_
    refine k_getR C (j := 6) okC11 rfl (by decide) (by decide) rfl flX11_23 dX11_count_64 ?_
    refine k_iload_n C dX11_count_67 rfl rfl ?_
    refine k_zaload C rfl (by decide) (by decide) ⟨by omega, by omega⟩ dX11_count_68 (fun ld68 => ?_)
    refine k_if_eq C (tgt := 76) dX11_count_69 rfl (by omega) (fun c69 => ?_) (fun c69 => ?_)
    · refine k_iconst C dX11_count_76 ?_
      refine k_iadd C dX11_count_77 ?_
      refine k_istore_n C dX11_count_78 rfl (by decide) ?_
      refine k_iinc C dX11_count_79 (by decide) rfl ?_
      refine k_goto C (tgt := 54) dX11_count_82 rfl ?_
      refine k_cut2 C (lv' := [(0, _), (1, _), (2, _), (3, _)]) ⟨rfl, rfl, rfl, rfl, trivial⟩ ?_
      first
      | (rw [iteP_pos c69] at cs; exact m_cn0 bl B hB hL wh hw C h0 _ (r + 1) (by omega) (by omega))
      | (rw [iteP_neg c69] at cs; exact m_cn0 bl B hB hL wh hw C h0 _ (r + 1) (by omega) (by omega))
    · refine k_iconst C dX11_count_72 ?_
      refine k_goto C (tgt := 77) dX11_count_73 rfl ?_
      refine k_iadd C dX11_count_77 ?_
      refine k_istore_n C dX11_count_78 rfl (by decide) ?_
      refine k_iinc C dX11_count_79 (by decide) rfl ?_
      refine k_goto C (tgt := 54) dX11_count_82 rfl ?_
      refine k_cut2 C (lv' := [(0, _), (1, _), (2, _), (3, _)]) ⟨rfl, rfl, rfl, rfl, trivial⟩ ?_
      first
      | (rw [iteP_pos c69] at cs; exact m_cn0 bl B hB hL wh hw C h0 _ (r + 1) (by omega) (by omega))
      | (rw [iteP_neg c69] at cs; exact m_cn0 bl B hB hL wh hw C h0 _ (r + 1) (by omega) (by omega))
termination_by (B 0 7 - r).toNat
decreasing_by all_goals omega
set_option maxHeartbeats 4000000 in
set_option maxRecDepth 100000 in
theorem m_cn3 {K : Kt} (bl : Nat) (B : Mem) (hB : BkM B) (hL : LwM B) (wh : Int) (hw : inR wh) (C : Ctx (shM bl) nM RX11 cX11_count 4 (some .int) (lvl 3) (fun r M' => (wh = 0 ∧ B = M' ∧ r = cntI (B 5) (B 0 7)) ∨ (wh = 1 ∧ B = M' ∧ r = B 0 7) ∨ (wh = 2 ∧ B = M' ∧ r = B 0 25) ∨ (wh = 3 ∧ B = M' ∧ r = cnI (fun i => 0 ≤ B 19 i) (8 * B 0 25)) ∨ (wh = 4 ∧ B = M' ∧ r = B 0 2) ∨ (wh = 5 ∧ B = M' ∧ r = B 0 30) ∨ (wh = 6 ∧ TrP B M' ∧ r = M' 0 13) ∨ (¬ (0 ≤ wh ∧ wh ≤ 6) ∧ B = M' ∧ r = -1)) K) (h0 : wh = 3) (sum r : Int) (hr : 0 ≤ r ∧ r ≤ 8 * B 0 25) (hs : sum = cnI (fun i => 0 ≤ B 19 i) r) : K 99 [(0, .inr 0), (1, .inl wh), (2, .inl sum), (3, .inl r)] [] B := by
  have b1 := hB.1; have b2 := hB.2.1
  have l1 := hL.1; have l2 := hL.2.1
  have rg := cnI_rg (fun i => 0 ≤ B 19 i) hr.1
  have cs := cnI_s (fun i => 0 ≤ B 19 i) hr.1
  refine k_iload_n C dX11_count_99 rfl rfl ?_
  refine k_bipush C dX11_count_100 (by decide) ?_
  refine k_aload_n C dX11_count_102 rfl rfl ?_
  refine k_getJ C 25 25 rfl okC11 rfl (by decide) (by decide) rfl flX11_126 dX11_count_103 (fun ld103 => ?_)
  refine k_imul C dX11_count_106 ?_
  refine k_icmp_ge C (tgt := 133) dX11_count_107 rfl (by omega) (by omega) (fun c107 => ?_) (fun c107 => ?_)
  · refine k_iload_n C dX11_count_133 rfl rfl ?_
    exact k_iret C dX11_count_134 (by omega) (fun _ => Or.inr (Or.inr (Or.inr (Or.inl ⟨h0, rfl, by rw [hs, show r = 8 * B 0 25 by omega]⟩))))
  · refine k_iload_n C dX11_count_110 rfl rfl ?_
    refine k_aload_n C dX11_count_111 rfl rfl ?_
    refine k_getR C (j := 23) okC11 rfl (by decide) (by decide) rfl flX11_65 dX11_count_112 ?_
    refine k_iload_n C dX11_count_115 rfl rfl ?_
    refine k_iaload C rfl (by decide) (by decide) ⟨by omega, by omega⟩ dX11_count_116 (fun ld116 => ?_)
    refine k_if_lt C (tgt := 124) dX11_count_117 rfl (by omega) (fun c117 => ?_) (fun c117 => ?_)
    · refine k_iconst C dX11_count_124 ?_
      refine k_iadd C dX11_count_125 ?_
      refine k_istore_n C dX11_count_126 rfl (by decide) ?_
      refine k_iinc C dX11_count_127 (by decide) rfl ?_
      refine k_goto C (tgt := 99) dX11_count_130 rfl ?_
      refine k_cut2 C (lv' := [(0, _), (1, _), (2, _), (3, _)]) ⟨rfl, rfl, rfl, rfl, trivial⟩ ?_
      first
      | (rw [iteP_pos (show 0 ≤ B 19 r by omega)] at cs; exact m_cn3 bl B hB hL wh hw C h0 _ (r + 1) (by omega) (by omega))
      | (rw [iteP_neg (show ¬ 0 ≤ B 19 r by omega)] at cs; exact m_cn3 bl B hB hL wh hw C h0 _ (r + 1) (by omega) (by omega))
    · refine k_iconst C dX11_count_120 ?_
      refine k_goto C (tgt := 125) dX11_count_121 rfl ?_
      refine k_iadd C dX11_count_125 ?_
      refine k_istore_n C dX11_count_126 rfl (by decide) ?_
      refine k_iinc C dX11_count_127 (by decide) rfl ?_
      refine k_goto C (tgt := 99) dX11_count_130 rfl ?_
      refine k_cut2 C (lv' := [(0, _), (1, _), (2, _), (3, _)]) ⟨rfl, rfl, rfl, rfl, trivial⟩ ?_
      first
      | (rw [iteP_pos (show 0 ≤ B 19 r by omega)] at cs; exact m_cn3 bl B hB hL wh hw C h0 _ (r + 1) (by omega) (by omega))
      | (rw [iteP_neg (show ¬ 0 ≤ B 19 r by omega)] at cs; exact m_cn3 bl B hB hL wh hw C h0 _ (r + 1) (by omega) (by omega))
termination_by (8 * B 0 25 - r).toNat
decreasing_by all_goals omega
set_option maxHeartbeats 4000000 in
set_option maxRecDepth 100000 in
theorem m_count {K : Kt} (bl : Nat) (B : Mem) (hB : BkM B) (hL : LwM B) (wh : Int) (hw : inR wh) (C : Ctx (shM bl) nM RX11 cX11_count 4 (some .int) (lvl 3) (fun r M' => (wh = 0 ∧ B = M' ∧ r = cntI (B 5) (B 0 7)) ∨ (wh = 1 ∧ B = M' ∧ r = B 0 7) ∨ (wh = 2 ∧ B = M' ∧ r = B 0 25) ∨ (wh = 3 ∧ B = M' ∧ r = cnI (fun i => 0 ≤ B 19 i) (8 * B 0 25)) ∨ (wh = 4 ∧ B = M' ∧ r = B 0 2) ∨ (wh = 5 ∧ B = M' ∧ r = B 0 30) ∨ (wh = 6 ∧ TrP B M' ∧ r = M' 0 13) ∨ (¬ (0 ≤ wh ∧ wh ≤ 6) ∧ B = M' ∧ r = -1)) K) : K 5 [(0, .inr 0), (1, .inl wh)] [] B := by
  have b1 := hB.1; have b2 := hB.2.1
  have l1 := hL.1; have l2 := hL.2.1
  refine k_iconst C dX11_count_5 ?_
  refine k_istore_n C dX11_count_6 rfl (by decide) ?_
  refine k_iload_n C dX11_count_7 rfl rfl ?_
  refine k_table C (tgt := 154) dX11_count_8 hw rfl (fun off t z1 z2 z3 z4 => ?_) (fun z1 z2 => ?_) (fun z => ?_)
  · have ew : wh = 0 ∨ wh = 1 ∨ wh = 2 ∨ wh = 3 ∨ wh = 4 ∨ wh = 5 ∨ wh = 6 := by omega
    rcases ew with rfl | rfl | rfl | rfl | rfl | rfl | rfl
    · have eo : off = 44 := by simpa using z3.symm
      subst eo
      have et : t = 52 := by omega
      subst et
      refine k_iconst C dX11_count_52 ?_
      refine k_istore_n C dX11_count_53 rfl (by decide) ?_
      refine k_cut2 C (lv' := [(0, _), (1, _), (2, _), (3, _)]) ⟨rfl, rfl, rfl, rfl, trivial⟩ ?_
      exact m_cn0 bl B hB hL _ hw C rfl 0 0 (by omega) rfl
    · have eo : off = 79 := by simpa using z3.symm
      subst eo
      have et : t = 87 := by omega
      subst et
      refine k_aload_n C dX11_count_87 rfl rfl ?_
      refine k_getJ C 7 7 rfl okC11 rfl (by decide) (by decide) rfl flX11_147 dX11_count_88 (fun ld88 => ?_)
      exact k_iret C dX11_count_91 (by omega) (fun _ => Or.inr (Or.inl ⟨rfl, rfl, rfl⟩))
    · have eo : off = 84 := by simpa using z3.symm
      subst eo
      have et : t = 92 := by omega
      subst et
      refine k_aload_n C dX11_count_92 rfl rfl ?_
      refine k_getJ C 25 25 rfl okC11 rfl (by decide) (by decide) rfl flX11_126 dX11_count_93 (fun ld93 => ?_)
      exact k_iret C dX11_count_96 (by omega) (fun _ => Or.inr (Or.inr (Or.inl ⟨rfl, rfl, rfl⟩)))
    · have eo : off = 89 := by simpa using z3.symm
      subst eo
      have et : t = 97 := by omega
      subst et
      refine k_iconst C dX11_count_97 ?_
      refine k_istore_n C dX11_count_98 rfl (by decide) ?_
      refine k_cut2 C (lv' := [(0, _), (1, _), (2, _), (3, _)]) ⟨rfl, rfl, rfl, rfl, trivial⟩ ?_
      exact m_cn3 bl B hB hL _ hw C rfl 0 0 (by omega) rfl
    · have eo : off = 127 := by simpa using z3.symm
      subst eo
      have et : t = 135 := by omega
      subst et
      refine k_aload_n C dX11_count_135 rfl rfl ?_
      refine k_getJ C 2 2 rfl okC11 rfl (by decide) (by decide) rfl flX11_144 dX11_count_136 (fun ld136 => ?_)
      exact k_iret C dX11_count_139 (by omega) (fun _ => Or.inr (Or.inr (Or.inr (Or.inr (Or.inl ⟨rfl, rfl, rfl⟩)))))
    · have eo : off = 132 := by simpa using z3.symm
      subst eo
      have et : t = 140 := by omega
      subst et
      refine k_aload_n C dX11_count_140 rfl rfl ?_
      refine k_getJ C 30 30 rfl okC11 rfl (by decide) (by decide) rfl flX11_204 dX11_count_141 (fun ld141 => ?_)
      exact k_iret C dX11_count_144 (by omega) (fun _ => Or.inr (Or.inr (Or.inr (Or.inr (Or.inr (Or.inl ⟨rfl, rfl, rfl⟩))))))
    · have eo : off = 137 := by simpa using z3.symm
      subst eo
      have et : t = 145 := by omega
      subst et
      refine k_aload_n C dX11_count_145 rfl rfl ?_
      refine k_callV C okX11_177 dX11_count_146 (c_M_tree bl B hB) rfl rfl (by decide) rfl (by decide) rfl (Nat.le_of_ble_eq_true rfl) (fun r146 M146 hr146 hp146 => ?_)
      refine k_aload_n C dX11_count_149 rfl rfl ?_
      refine k_getJ C 13 13 rfl okC11 rfl (by decide) (by decide) rfl flX11_164 dX11_count_150 (fun ld150 => ?_)
      exact k_iret C dX11_count_153 (by omega) (fun _ => Or.inr (Or.inr (Or.inr (Or.inr (Or.inr (Or.inr (Or.inl ⟨rfl, hp146, rfl⟩)))))))
  · have ew : wh = 0 ∨ wh = 1 ∨ wh = 2 ∨ wh = 3 ∨ wh = 4 ∨ wh = 5 ∨ wh = 6 := by omega
    rcases ew with rfl | rfl | rfl | rfl | rfl | rfl | rfl
    · exact ⟨44, 52, rfl, rfl⟩
    · exact ⟨79, 87, rfl, rfl⟩
    · exact ⟨84, 92, rfl, rfl⟩
    · exact ⟨89, 97, rfl, rfl⟩
    · exact ⟨127, 135, rfl, rfl⟩
    · exact ⟨132, 140, rfl, rfl⟩
    · exact ⟨137, 145, rfl, rfl⟩
  · refine k_iconst C dX11_count_154 ?_
    exact k_iret C dX11_count_155 (by omega) (fun _ => Or.inr (Or.inr (Or.inr (Or.inr (Or.inr (Or.inr (Or.inr (⟨by omega, rfl, rfl⟩))))))))
set_option maxHeartbeats 4000000 in
set_option maxRecDepth 100000 in
theorem c_M_count (bl : Nat) (M : Mem) (hB : BkM M) (hL : LwM M) (wh : Int) (hw : inR wh) : Ct (shM bl) nM yX11_count cX11_count 4 (some .int) (lvl 3) [.inr 0, .inl wh] M (fun r M' => (wh = 0 ∧ (th0 M) = M' ∧ r = cntI ((th0 M) 5) ((th0 M) 0 7)) ∨ (wh = 1 ∧ (th0 M) = M' ∧ r = (th0 M) 0 7) ∨ (wh = 2 ∧ (th0 M) = M' ∧ r = (th0 M) 0 25) ∨ (wh = 3 ∧ (th0 M) = M' ∧ r = cnI (fun i => 0 ≤ (th0 M) 19 i) (8 * (th0 M) 0 25)) ∨ (wh = 4 ∧ (th0 M) = M' ∧ r = (th0 M) 0 2) ∨ (wh = 5 ∧ (th0 M) = M' ∧ r = (th0 M) 0 30) ∨ (wh = 6 ∧ TrP (th0 M) M' ∧ r = M' 0 13) ∨ (¬ (0 ≤ wh ∧ wh ≤ 6) ∧ (th0 M) = M' ∧ r = -1)) := by
  refine Ct_of (by decide +kernel) (Nat.le_of_ble_eq_true rfl) (fun K C => ?_)
  refine k_aload_n C dX11_count_0 rfl rfl ?_
  refine k_iconst C dX11_count_1 ?_
  refine k_putJ C 0 0 rfl okC11 rfl (by decide) (by decide) rfl rfl rfl (by omega) flX11_133 dX11_count_2 ?_
  exact m_count bl (th0 M) (th0_B hB) (th0_L hL) wh hw C
