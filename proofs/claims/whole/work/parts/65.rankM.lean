/-! THE REFERENCE: ranks; told -/
def okHm (M : Mem) : Prop := ∀ i, 0 ≤ i → i < 64 → (0 ≤ M 37 i ∧ M 37 i ≤ 60) ∧ 0 ≤ M 38 i ∧ M 38 i ≤ 60
/-- ahead, as the reference has it: w counts by habit -/
def ahM (w ho : Int → Int) (a b : Int) : Prop := ho b * w a < ho a * w b ∨ (ho a * w b = ho b * w a ∧ (w b < w a ∨ (w a = w b ∧ a < b)))
set_option maxHeartbeats 4000000 in
set_option maxRecDepth 100000 in
theorem c_M_isAhead (bl : Nat) (M : Mem) (hH : okHm M) (a b : Int) (ha : 0 ≤ a ∧ a < 64) (hb : 0 ≤ b ∧ b < 64) : Ct (shM bl) nM yX11_isAhead cX11_isAhead 5 (some .boolean) (lvl 0) [.inr 0, .inl a, .inl b] M (fun r M' => M = M' ∧ ((r = 1 ∧ ahM (M 37) (M 38) a b) ∨ (r = 0 ∧ ¬ ahM (M 37) (M 38) a b))) := by
  refine Ct_of (by decide +kernel) (Nat.le_of_ble_eq_true rfl) (fun K C => ?_)
  have q1 := hH a ha.1 ha.2; have q2 := hH b hb.1 hb.2
  have m1 := mulr q1.2 q2.1; have m2 := mulr q2.2 q1.1
  refine k_aload_n C dX11_isAhead_0 rfl rfl ?_
  refine k_getR C (j := 54) okC11 rfl (by decide) (by decide) rfl flX11_123 dX11_isAhead_1 ?_
  refine k_iload_n C dX11_isAhead_4 rfl rfl ?_
  refine k_iaload C rfl (by decide) (by decide) ⟨by omega, by omega⟩ dX11_isAhead_5 (fun ld5 => ?_)
  refine k_aload_n C dX11_isAhead_6 rfl rfl ?_
  refine k_getR C (j := 53) okC11 rfl (by decide) (by decide) rfl flX11_120 dX11_isAhead_7 ?_
  refine k_iload_n C dX11_isAhead_10 rfl rfl ?_
  refine k_iaload C rfl (by decide) (by decide) ⟨by omega, by omega⟩ dX11_isAhead_11 (fun ld11 => ?_)
  refine k_imul C dX11_isAhead_12 ?_
  refine k_istore_n C dX11_isAhead_13 rfl (by decide) ?_
  refine k_aload_n C dX11_isAhead_14 rfl rfl ?_
  refine k_getR C (j := 54) okC11 rfl (by decide) (by decide) rfl flX11_123 dX11_isAhead_15 ?_
  refine k_iload_n C dX11_isAhead_18 rfl rfl ?_
  refine k_iaload C rfl (by decide) (by decide) ⟨by omega, by omega⟩ dX11_isAhead_19 (fun ld19 => ?_)
  refine k_aload_n C dX11_isAhead_20 rfl rfl ?_
  refine k_getR C (j := 53) okC11 rfl (by decide) (by decide) rfl flX11_120 dX11_isAhead_21 ?_
  refine k_iload_n C dX11_isAhead_24 rfl rfl ?_
  refine k_iaload C rfl (by decide) (by decide) ⟨by omega, by omega⟩ dX11_isAhead_25 (fun ld25 => ?_)
  refine k_imul C dX11_isAhead_26 ?_
  refine k_istore C dX11_isAhead_27 (by decide) ?_
  refine k_iload_n C dX11_isAhead_29 rfl rfl ?_
  refine k_iload C dX11_isAhead_30 rfl ?_
  refine k_icmp_eq C (tgt := 47) dX11_isAhead_32 rfl (by omega) (by omega) (fun c32 => ?_) (fun c32 => ?_)
  · refine k_aload_n C dX11_isAhead_47 rfl rfl ?_
    refine k_getR C (j := 53) okC11 rfl (by decide) (by decide) rfl flX11_120 dX11_isAhead_48 ?_
    refine k_iload_n C dX11_isAhead_51 rfl rfl ?_
    refine k_iaload C rfl (by decide) (by decide) ⟨by omega, by omega⟩ dX11_isAhead_52 (fun ld52 => ?_)
    refine k_aload_n C dX11_isAhead_53 rfl rfl ?_
    refine k_getR C (j := 53) okC11 rfl (by decide) (by decide) rfl flX11_120 dX11_isAhead_54 ?_
    refine k_iload_n C dX11_isAhead_57 rfl rfl ?_
    refine k_iaload C rfl (by decide) (by decide) ⟨by omega, by omega⟩ dX11_isAhead_58 (fun ld58 => ?_)
    refine k_icmp_eq C (tgt := 85) dX11_isAhead_59 rfl (by omega) (by omega) (fun c59 => ?_) (fun c59 => ?_)
    · refine k_iload_n C dX11_isAhead_85 rfl rfl ?_
      refine k_iload_n C dX11_isAhead_86 rfl rfl ?_
      refine k_icmp_ge C (tgt := 94) dX11_isAhead_87 rfl (by omega) (by omega) (fun c87 => ?_) (fun c87 => ?_)
      · refine k_iconst C dX11_isAhead_94 ?_
        exact k_zret C dX11_isAhead_95 (by omega) (fun _ => ⟨rfl, by unfold ahM; omega⟩)
      · refine k_iconst C dX11_isAhead_90 ?_
        refine k_goto C (tgt := 95) dX11_isAhead_91 rfl ?_
        exact k_zret C dX11_isAhead_95 (by omega) (fun _ => ⟨rfl, by unfold ahM; omega⟩)
    · refine k_aload_n C dX11_isAhead_62 rfl rfl ?_
      refine k_getR C (j := 53) okC11 rfl (by decide) (by decide) rfl flX11_120 dX11_isAhead_63 ?_
      refine k_iload_n C dX11_isAhead_66 rfl rfl ?_
      refine k_iaload C rfl (by decide) (by decide) ⟨by omega, by omega⟩ dX11_isAhead_67 (fun ld67 => ?_)
      refine k_aload_n C dX11_isAhead_68 rfl rfl ?_
      refine k_getR C (j := 53) okC11 rfl (by decide) (by decide) rfl flX11_120 dX11_isAhead_69 ?_
      refine k_iload_n C dX11_isAhead_72 rfl rfl ?_
      refine k_iaload C rfl (by decide) (by decide) ⟨by omega, by omega⟩ dX11_isAhead_73 (fun ld73 => ?_)
      refine k_icmp_le C (tgt := 81) dX11_isAhead_74 rfl (by omega) (by omega) (fun c74 => ?_) (fun c74 => ?_)
      · refine k_iconst C dX11_isAhead_81 ?_
        refine k_goto C (tgt := 95) dX11_isAhead_82 rfl ?_
        exact k_zret C dX11_isAhead_95 (by omega) (fun _ => ⟨rfl, by unfold ahM; omega⟩)
      · refine k_iconst C dX11_isAhead_77 ?_
        refine k_goto C (tgt := 95) dX11_isAhead_78 rfl ?_
        exact k_zret C dX11_isAhead_95 (by omega) (fun _ => ⟨rfl, by unfold ahM; omega⟩)
  · refine k_iload_n C dX11_isAhead_35 rfl rfl ?_
    refine k_iload C dX11_isAhead_36 rfl ?_
    refine k_icmp_le C (tgt := 45) dX11_isAhead_38 rfl (by omega) (by omega) (fun c38 => ?_) (fun c38 => ?_)
    · refine k_iconst C dX11_isAhead_45 ?_
      exact k_zret C dX11_isAhead_46 (by omega) (fun _ => ⟨rfl, by unfold ahM; omega⟩)
    · refine k_iconst C dX11_isAhead_41 ?_
      refine k_goto C (tgt := 46) dX11_isAhead_42 rfl ?_
      exact k_zret C dX11_isAhead_46 (by omega) (fun _ => ⟨rfl, by unfold ahM; omega⟩)
set_option maxHeartbeats 4000000 in
set_option maxRecDepth 100000 in
theorem c_M_told (bl : Nat) (M : Mem) (hB : BkM M) (r0 wh : Int) (hr : inR r0) (hw : inR wh) : Ct (shM bl) nM yX11_told cX11_told 3 (some .int) (lvl 2) [.inr 0, .inl r0, .inl wh] M (fun r M' => ((0 ≤ r0 ∧ r0 < M 0 7) ∧ ((wh = 0 ∧ r = M 5 r0) ∨ (wh = 1 ∧ r = M 4 r0) ∨ (wh = 2 ∧ r = M 3 r0) ∨ (wh = 3 ∧ r = iteP (M 5 r0 = 0) 0 (iteP (M 4 r0 = 0) (iteP (lof (M 0 7) (M 3) (M 4) (M 5) (M 2) r0) 1 0) (cutI (M 3) (M 4) (M 5) (M 2) r0 (M 0 7))))) ∧ M' = th0 M) ∨ (¬ (0 ≤ r0 ∧ r0 < M 0 7) ∧ M' = up M 0 0 1) ∨ ((0 ≤ r0 ∧ r0 < M 0 7) ∧ ¬ (0 ≤ wh ∧ wh ≤ 3) ∧ M' = up M 0 0 2)) := by
  refine Ct_of (by decide +kernel) (Nat.le_of_ble_eq_true rfl) (fun K C => ?_)
  refine k_aload_n C dX11_told_0 rfl rfl ?_
  refine k_iload_n C dX11_told_1 rfl rfl ?_
  refine k_callV C okX11_150 dX11_told_2 (c_M_isRow bl M hB r0 hr) rfl rfl (by decide) rfl (by decide) rfl (Nat.le_of_ble_eq_true rfl) (fun r2 M2 hr2 hp2 => ?_)
  refine k_if_eq C (tgt := 30) dX11_told_5 rfl (by omega) (fun c5 => ?_) (fun c5 => ?_)
  · refine k_iconst C dX11_told_30 ?_
    exact k_iret C dX11_told_31 (by omega) (fun _ => by first | (rcases hp2 with z | z; (exfalso; omega); exact Or.inr (Or.inl ⟨z.1, z.2.2⟩)) | (rcases hp24 with y | y; (exfalso; omega); exact Or.inr (Or.inr ⟨v1, by omega, by rw [y.2.2]; unfold th0; funext k i; unfold up; split <;> first | rfl | (rw [if_neg (by omega)])⟩)))
  · have hv : (0 ≤ r0 ∧ r0 < M 0 7) ∧ M2 = th0 M := by
      rcases hp2 with z | z
      · exact ⟨z.1, z.2.2⟩
      · exfalso; omega
    obtain ⟨v1, rfl⟩ := hv
    have hbr := hB.2.2 r0 v1.1 v1.2
    have hBt := th0_B hB
    have t07 : th0 M 0 7 = M 0 7 := th0_f (by decide)
    have t2 : th0 M 2 = M 2 := th0_c (by decide); have t3 : th0 M 3 = M 3 := th0_c (by decide); have t4 : th0 M 4 = M 4 := th0_c (by decide); have t5 : th0 M 5 = M 5 := th0_c (by decide)
    have b1 := hB.1; have b2 := hB.2.1
    refine k_aload_n C dX11_told_8 rfl rfl ?_
    refine k_iload_n C dX11_told_9 rfl rfl ?_
    refine k_if_lt C (tgt := 18) dX11_told_10 rfl (by omega) (fun c10 => ?_) (fun c10 => ?_)
    · refine k_iconst C dX11_told_18 ?_
      refine k_goto C (tgt := 23) dX11_told_19 rfl ?_
      refine k_iconst C dX11_told_23 ?_
      refine k_callV C okX11_140 dX11_told_24 (c_M_bad bl (th0 M) _ 2 (by omega) (by decide)) rfl rfl (by decide) rfl (by decide) rfl (Nat.le_of_ble_eq_true rfl) (fun r24 M24 hr24 hp24 => ?_)
      refine k_if_eq C (tgt := 32) dX11_told_27 rfl (by omega) (fun c27 => ?_) (fun c27 => ?_)
      · have ew : (0 ≤ wh ∧ wh ≤ 3) ∧ th0 M = M24 := by
          rcases hp24 with y | y
          · exact ⟨by omega, y.2.2⟩
          · exfalso; omega
        obtain ⟨ew, rfl⟩ := ew
        refine k_iload_n C dX11_told_32 rfl rfl ?_
        refine k_table C (tgt := 97) dX11_told_33 (by omega) rfl (fun off t z1 z2 z3 z4 => ?_) (fun z1 z2 => ?_) (fun z => ?_)
        · have ew : wh = 0 ∨ wh = 1 ∨ wh = 2 := by omega
          rcases ew with rfl | rfl | rfl
          · have eo : off = 27 := by simpa using z3.symm
            subst eo
            have et : t = 60 := by omega
            subst et
            refine k_aload_n C dX11_told_60 rfl rfl ?_
            refine k_getR C (j := 6) okC11 rfl (by decide) (by decide) rfl flX11_23 dX11_told_61 ?_
            refine k_iload_n C dX11_told_64 rfl rfl ?_
            refine k_zaload C rfl (by decide) (by decide) ⟨by omega, by omega⟩ dX11_told_65 (fun ld65 => ?_)
            rw [t5] at ld65 ⊢
            refine k_if_eq C (tgt := 73) dX11_told_66 rfl (by omega) (fun c66 => ?_) (fun c66 => ?_)
            · refine k_iconst C dX11_told_73 ?_
              exact k_iret C dX11_told_74 (by omega) (fun _ => Or.inl ⟨v1, Or.inl ⟨rfl, by omega⟩, rfl⟩)
            · refine k_iconst C dX11_told_69 ?_
              refine k_goto C (tgt := 74) dX11_told_70 rfl ?_
              exact k_iret C dX11_told_74 (by omega) (fun _ => Or.inl ⟨v1, Or.inl ⟨rfl, by omega⟩, rfl⟩)
          · have eo : off = 42 := by simpa using z3.symm
            subst eo
            have et : t = 75 := by omega
            subst et
            refine k_aload_n C dX11_told_75 rfl rfl ?_
            refine k_getR C (j := 5) okC11 rfl (by decide) (by decide) rfl flX11_19 dX11_told_76 ?_
            refine k_iload_n C dX11_told_79 rfl rfl ?_
            refine k_zaload C rfl (by decide) (by decide) ⟨by omega, by omega⟩ dX11_told_80 (fun ld80 => ?_)
            rw [t4] at ld80 ⊢
            refine k_if_eq C (tgt := 88) dX11_told_81 rfl (by omega) (fun c81 => ?_) (fun c81 => ?_)
            · refine k_iconst C dX11_told_88 ?_
              exact k_iret C dX11_told_89 (by omega) (fun _ => Or.inl ⟨v1, Or.inr (Or.inl ⟨rfl, by omega⟩), rfl⟩)
            · refine k_iconst C dX11_told_84 ?_
              refine k_goto C (tgt := 89) dX11_told_85 rfl ?_
              exact k_iret C dX11_told_89 (by omega) (fun _ => Or.inl ⟨v1, Or.inr (Or.inl ⟨rfl, by omega⟩), rfl⟩)
          · have eo : off = 57 := by simpa using z3.symm
            subst eo
            have et : t = 90 := by omega
            subst et
            refine k_aload_n C dX11_told_90 rfl rfl ?_
            refine k_getR C (j := 4) okC11 rfl (by decide) (by decide) rfl flX11_16 dX11_told_91 ?_
            refine k_iload_n C dX11_told_94 rfl rfl ?_
            refine k_iaload C rfl (by decide) (by decide) ⟨by omega, by omega⟩ dX11_told_95 (fun ld95 => ?_)
            rw [t3] at ld95 ⊢
            exact k_iret C dX11_told_96 (by omega) (fun _ => Or.inl ⟨v1, Or.inr (Or.inr (Or.inl ⟨rfl, rfl⟩)), rfl⟩)
        · have ew : wh = 0 ∨ wh = 1 ∨ wh = 2 := by omega
          rcases ew with rfl | rfl | rfl
          · exact ⟨27, 60, rfl, rfl⟩
          · exact ⟨42, 75, rfl, rfl⟩
          · exact ⟨57, 90, rfl, rfl⟩
        · refine k_aload_n C dX11_told_97 rfl rfl ?_
          refine k_getR C (j := 6) okC11 rfl (by decide) (by decide) rfl flX11_23 dX11_told_98 ?_
          refine k_iload_n C dX11_told_101 rfl rfl ?_
          refine k_zaload C rfl (by decide) (by decide) ⟨by omega, by omega⟩ dX11_told_102 (fun ld102 => ?_)
          rw [t5] at ld102 ⊢
          refine k_if_ne C (tgt := 110) dX11_told_103 rfl (by omega) (fun c103 => ?_) (fun c103 => ?_)
          · refine k_aload_n C dX11_told_110 rfl rfl ?_
            refine k_getR C (j := 5) okC11 rfl (by decide) (by decide) rfl flX11_19 dX11_told_111 ?_
            refine k_iload_n C dX11_told_114 rfl rfl ?_
            refine k_zaload C rfl (by decide) (by decide) ⟨by omega, by omega⟩ dX11_told_115 (fun ld115 => ?_)
            rw [t4] at ld115 ⊢
            refine k_if_eq C (tgt := 127) dX11_told_116 rfl (by omega) (fun c116 => ?_) (fun c116 => ?_)
            · refine k_aload_n C dX11_told_127 rfl rfl ?_
              refine k_iload_n C dX11_told_128 rfl rfl ?_
              refine k_callV C okX11_161 dX11_told_129 (c_M_isLeftOut bl (th0 M) hBt r0 (by omega)) rfl rfl (by decide) rfl (by decide) rfl (Nat.le_of_ble_eq_true rfl) (fun r129 M129 hr129 hp129 => ?_)
              obtain ⟨rfl, hp129⟩ := hp129
              rw [t07, t2, t3, t4, t5] at hp129
              refine k_if_eq C (tgt := 139) dX11_told_132 rfl (by omega) (fun c132 => ?_) (fun c132 => ?_)
              · refine k_iconst C dX11_told_139 ?_
                exact k_iret C dX11_told_140 (by omega) (fun _ => by
        refine Or.inl ⟨v1, Or.inr (Or.inr (Or.inr ⟨by omega, ?_⟩)), rfl⟩
        first | (rw [iteP_pos (by omega)]; done) | (rw [iteP_neg (by omega), iteP_neg (by omega)]; exact hp121) | (rw [iteP_neg (by omega), iteP_pos (by omega), iteP_pos (by rcases hp129 with y | y; exact y.2; omega)]; done) | (rw [iteP_neg (by omega), iteP_pos (by omega), iteP_neg (by rcases hp129 with y | y; omega; exact y.2)]; done))
              · refine k_iconst C dX11_told_135 ?_
                refine k_goto C (tgt := 140) dX11_told_136 rfl ?_
                exact k_iret C dX11_told_140 (by omega) (fun _ => by
        refine Or.inl ⟨v1, Or.inr (Or.inr (Or.inr ⟨by omega, ?_⟩)), rfl⟩
        first | (rw [iteP_pos (by omega)]; done) | (rw [iteP_neg (by omega), iteP_neg (by omega)]; exact hp121) | (rw [iteP_neg (by omega), iteP_pos (by omega), iteP_pos (by rcases hp129 with y | y; exact y.2; omega)]; done) | (rw [iteP_neg (by omega), iteP_pos (by omega), iteP_neg (by rcases hp129 with y | y; omega; exact y.2)]; done))
            · refine k_aload_n C dX11_told_119 rfl rfl ?_
              refine k_iload_n C dX11_told_120 rfl rfl ?_
              refine k_callV C okX11_157 dX11_told_121 (c_M_cutOf bl (th0 M) hBt r0 (by omega)) rfl rfl (by decide) rfl (by decide) rfl (Nat.le_of_ble_eq_true rfl) (fun r121 M121 hr121 hp121 => ?_)
              obtain ⟨rfl, hp121⟩ := hp121
              rw [t07, t2, t3, t4, t5] at hp121
              refine k_goto C (tgt := 140) dX11_told_124 rfl ?_
              exact k_iret C dX11_told_140 (by omega) (fun _ => by
        refine Or.inl ⟨v1, Or.inr (Or.inr (Or.inr ⟨by omega, ?_⟩)), rfl⟩
        first | (rw [iteP_pos (by omega)]; done) | (rw [iteP_neg (by omega), iteP_neg (by omega)]; exact hp121) | (rw [iteP_neg (by omega), iteP_pos (by omega), iteP_pos (by rcases hp129 with y | y; exact y.2; omega)]; done) | (rw [iteP_neg (by omega), iteP_pos (by omega), iteP_neg (by rcases hp129 with y | y; omega; exact y.2)]; done))
          · refine k_iconst C dX11_told_106 ?_
            refine k_goto C (tgt := 140) dX11_told_107 rfl ?_
            exact k_iret C dX11_told_140 (by omega) (fun _ => by
        refine Or.inl ⟨v1, Or.inr (Or.inr (Or.inr ⟨by omega, ?_⟩)), rfl⟩
        first | (rw [iteP_pos (by omega)]; done) | (rw [iteP_neg (by omega), iteP_neg (by omega)]; exact hp121) | (rw [iteP_neg (by omega), iteP_pos (by omega), iteP_pos (by rcases hp129 with y | y; exact y.2; omega)]; done) | (rw [iteP_neg (by omega), iteP_pos (by omega), iteP_neg (by rcases hp129 with y | y; omega; exact y.2)]; done))
      · refine k_iconst C dX11_told_30 ?_
        exact k_iret C dX11_told_31 (by omega) (fun _ => by first | (rcases hp2 with z | z; (exfalso; omega); exact Or.inr (Or.inl ⟨z.1, z.2.2⟩)) | (rcases hp24 with y | y; (exfalso; omega); exact Or.inr (Or.inr ⟨v1, by omega, by rw [y.2.2]; unfold th0; funext k i; unfold up; split <;> first | rfl | (rw [if_neg (by omega)])⟩)))
    · refine k_iload_n C dX11_told_13 rfl rfl ?_
      refine k_iconst C dX11_told_14 ?_
      refine k_icmp_le C (tgt := 22) dX11_told_15 rfl (by omega) (by omega) (fun c15 => ?_) (fun c15 => ?_)
      · refine k_iconst C dX11_told_22 ?_
        refine k_iconst C dX11_told_23 ?_
        refine k_callV C okX11_140 dX11_told_24 (c_M_bad bl (th0 M) _ 2 (by omega) (by decide)) rfl rfl (by decide) rfl (by decide) rfl (Nat.le_of_ble_eq_true rfl) (fun r24 M24 hr24 hp24 => ?_)
        refine k_if_eq C (tgt := 32) dX11_told_27 rfl (by omega) (fun c27 => ?_) (fun c27 => ?_)
        · have ew : (0 ≤ wh ∧ wh ≤ 3) ∧ th0 M = M24 := by
            rcases hp24 with y | y
            · exact ⟨by omega, y.2.2⟩
            · exfalso; omega
          obtain ⟨ew, rfl⟩ := ew
          refine k_iload_n C dX11_told_32 rfl rfl ?_
          refine k_table C (tgt := 97) dX11_told_33 (by omega) rfl (fun off t z1 z2 z3 z4 => ?_) (fun z1 z2 => ?_) (fun z => ?_)
          · have ew : wh = 0 ∨ wh = 1 ∨ wh = 2 := by omega
            rcases ew with rfl | rfl | rfl
            · have eo : off = 27 := by simpa using z3.symm
              subst eo
              have et : t = 60 := by omega
              subst et
              refine k_aload_n C dX11_told_60 rfl rfl ?_
              refine k_getR C (j := 6) okC11 rfl (by decide) (by decide) rfl flX11_23 dX11_told_61 ?_
              refine k_iload_n C dX11_told_64 rfl rfl ?_
              refine k_zaload C rfl (by decide) (by decide) ⟨by omega, by omega⟩ dX11_told_65 (fun ld65 => ?_)
              rw [t5] at ld65 ⊢
              refine k_if_eq C (tgt := 73) dX11_told_66 rfl (by omega) (fun c66 => ?_) (fun c66 => ?_)
              · refine k_iconst C dX11_told_73 ?_
                exact k_iret C dX11_told_74 (by omega) (fun _ => Or.inl ⟨v1, Or.inl ⟨rfl, by omega⟩, rfl⟩)
              · refine k_iconst C dX11_told_69 ?_
                refine k_goto C (tgt := 74) dX11_told_70 rfl ?_
                exact k_iret C dX11_told_74 (by omega) (fun _ => Or.inl ⟨v1, Or.inl ⟨rfl, by omega⟩, rfl⟩)
            · have eo : off = 42 := by simpa using z3.symm
              subst eo
              have et : t = 75 := by omega
              subst et
              refine k_aload_n C dX11_told_75 rfl rfl ?_
              refine k_getR C (j := 5) okC11 rfl (by decide) (by decide) rfl flX11_19 dX11_told_76 ?_
              refine k_iload_n C dX11_told_79 rfl rfl ?_
              refine k_zaload C rfl (by decide) (by decide) ⟨by omega, by omega⟩ dX11_told_80 (fun ld80 => ?_)
              rw [t4] at ld80 ⊢
              refine k_if_eq C (tgt := 88) dX11_told_81 rfl (by omega) (fun c81 => ?_) (fun c81 => ?_)
              · refine k_iconst C dX11_told_88 ?_
                exact k_iret C dX11_told_89 (by omega) (fun _ => Or.inl ⟨v1, Or.inr (Or.inl ⟨rfl, by omega⟩), rfl⟩)
              · refine k_iconst C dX11_told_84 ?_
                refine k_goto C (tgt := 89) dX11_told_85 rfl ?_
                exact k_iret C dX11_told_89 (by omega) (fun _ => Or.inl ⟨v1, Or.inr (Or.inl ⟨rfl, by omega⟩), rfl⟩)
            · have eo : off = 57 := by simpa using z3.symm
              subst eo
              have et : t = 90 := by omega
              subst et
              refine k_aload_n C dX11_told_90 rfl rfl ?_
              refine k_getR C (j := 4) okC11 rfl (by decide) (by decide) rfl flX11_16 dX11_told_91 ?_
              refine k_iload_n C dX11_told_94 rfl rfl ?_
              refine k_iaload C rfl (by decide) (by decide) ⟨by omega, by omega⟩ dX11_told_95 (fun ld95 => ?_)
              rw [t3] at ld95 ⊢
              exact k_iret C dX11_told_96 (by omega) (fun _ => Or.inl ⟨v1, Or.inr (Or.inr (Or.inl ⟨rfl, rfl⟩)), rfl⟩)
          · have ew : wh = 0 ∨ wh = 1 ∨ wh = 2 := by omega
            rcases ew with rfl | rfl | rfl
            · exact ⟨27, 60, rfl, rfl⟩
            · exact ⟨42, 75, rfl, rfl⟩
            · exact ⟨57, 90, rfl, rfl⟩
          · refine k_aload_n C dX11_told_97 rfl rfl ?_
            refine k_getR C (j := 6) okC11 rfl (by decide) (by decide) rfl flX11_23 dX11_told_98 ?_
            refine k_iload_n C dX11_told_101 rfl rfl ?_
            refine k_zaload C rfl (by decide) (by decide) ⟨by omega, by omega⟩ dX11_told_102 (fun ld102 => ?_)
            rw [t5] at ld102 ⊢
            refine k_if_ne C (tgt := 110) dX11_told_103 rfl (by omega) (fun c103 => ?_) (fun c103 => ?_)
            · refine k_aload_n C dX11_told_110 rfl rfl ?_
              refine k_getR C (j := 5) okC11 rfl (by decide) (by decide) rfl flX11_19 dX11_told_111 ?_
              refine k_iload_n C dX11_told_114 rfl rfl ?_
              refine k_zaload C rfl (by decide) (by decide) ⟨by omega, by omega⟩ dX11_told_115 (fun ld115 => ?_)
              rw [t4] at ld115 ⊢
              refine k_if_eq C (tgt := 127) dX11_told_116 rfl (by omega) (fun c116 => ?_) (fun c116 => ?_)
              · refine k_aload_n C dX11_told_127 rfl rfl ?_
                refine k_iload_n C dX11_told_128 rfl rfl ?_
                refine k_callV C okX11_161 dX11_told_129 (c_M_isLeftOut bl (th0 M) hBt r0 (by omega)) rfl rfl (by decide) rfl (by decide) rfl (Nat.le_of_ble_eq_true rfl) (fun r129 M129 hr129 hp129 => ?_)
                obtain ⟨rfl, hp129⟩ := hp129
                rw [t07, t2, t3, t4, t5] at hp129
                refine k_if_eq C (tgt := 139) dX11_told_132 rfl (by omega) (fun c132 => ?_) (fun c132 => ?_)
                · refine k_iconst C dX11_told_139 ?_
                  exact k_iret C dX11_told_140 (by omega) (fun _ => by
        refine Or.inl ⟨v1, Or.inr (Or.inr (Or.inr ⟨by omega, ?_⟩)), rfl⟩
        first | (rw [iteP_pos (by omega)]; done) | (rw [iteP_neg (by omega), iteP_neg (by omega)]; exact hp121) | (rw [iteP_neg (by omega), iteP_pos (by omega), iteP_pos (by rcases hp129 with y | y; exact y.2; omega)]; done) | (rw [iteP_neg (by omega), iteP_pos (by omega), iteP_neg (by rcases hp129 with y | y; omega; exact y.2)]; done))
                · refine k_iconst C dX11_told_135 ?_
                  refine k_goto C (tgt := 140) dX11_told_136 rfl ?_
                  exact k_iret C dX11_told_140 (by omega) (fun _ => by
        refine Or.inl ⟨v1, Or.inr (Or.inr (Or.inr ⟨by omega, ?_⟩)), rfl⟩
        first | (rw [iteP_pos (by omega)]; done) | (rw [iteP_neg (by omega), iteP_neg (by omega)]; exact hp121) | (rw [iteP_neg (by omega), iteP_pos (by omega), iteP_pos (by rcases hp129 with y | y; exact y.2; omega)]; done) | (rw [iteP_neg (by omega), iteP_pos (by omega), iteP_neg (by rcases hp129 with y | y; omega; exact y.2)]; done))
              · refine k_aload_n C dX11_told_119 rfl rfl ?_
                refine k_iload_n C dX11_told_120 rfl rfl ?_
                refine k_callV C okX11_157 dX11_told_121 (c_M_cutOf bl (th0 M) hBt r0 (by omega)) rfl rfl (by decide) rfl (by decide) rfl (Nat.le_of_ble_eq_true rfl) (fun r121 M121 hr121 hp121 => ?_)
                obtain ⟨rfl, hp121⟩ := hp121
                rw [t07, t2, t3, t4, t5] at hp121
                refine k_goto C (tgt := 140) dX11_told_124 rfl ?_
                exact k_iret C dX11_told_140 (by omega) (fun _ => by
        refine Or.inl ⟨v1, Or.inr (Or.inr (Or.inr ⟨by omega, ?_⟩)), rfl⟩
        first | (rw [iteP_pos (by omega)]; done) | (rw [iteP_neg (by omega), iteP_neg (by omega)]; exact hp121) | (rw [iteP_neg (by omega), iteP_pos (by omega), iteP_pos (by rcases hp129 with y | y; exact y.2; omega)]; done) | (rw [iteP_neg (by omega), iteP_pos (by omega), iteP_neg (by rcases hp129 with y | y; omega; exact y.2)]; done))
            · refine k_iconst C dX11_told_106 ?_
              refine k_goto C (tgt := 140) dX11_told_107 rfl ?_
              exact k_iret C dX11_told_140 (by omega) (fun _ => by
        refine Or.inl ⟨v1, Or.inr (Or.inr (Or.inr ⟨by omega, ?_⟩)), rfl⟩
        first | (rw [iteP_pos (by omega)]; done) | (rw [iteP_neg (by omega), iteP_neg (by omega)]; exact hp121) | (rw [iteP_neg (by omega), iteP_pos (by omega), iteP_pos (by rcases hp129 with y | y; exact y.2; omega)]; done) | (rw [iteP_neg (by omega), iteP_pos (by omega), iteP_neg (by rcases hp129 with y | y; omega; exact y.2)]; done))
        · refine k_iconst C dX11_told_30 ?_
          exact k_iret C dX11_told_31 (by omega) (fun _ => by first | (rcases hp2 with z | z; (exfalso; omega); exact Or.inr (Or.inl ⟨z.1, z.2.2⟩)) | (rcases hp24 with y | y; (exfalso; omega); exact Or.inr (Or.inr ⟨v1, by omega, by rw [y.2.2]; unfold th0; funext k i; unfold up; split <;> first | rfl | (rw [if_neg (by omega)])⟩)))
      · refine k_iconst C dX11_told_18 ?_
        refine k_goto C (tgt := 23) dX11_told_19 rfl ?_
        refine k_iconst C dX11_told_23 ?_
        refine k_callV C okX11_140 dX11_told_24 (c_M_bad bl (th0 M) _ 2 (by omega) (by decide)) rfl rfl (by decide) rfl (by decide) rfl (Nat.le_of_ble_eq_true rfl) (fun r24 M24 hr24 hp24 => ?_)
        refine k_if_eq C (tgt := 32) dX11_told_27 rfl (by omega) (fun c27 => ?_) (fun c27 => ?_)
        · have ew : (0 ≤ wh ∧ wh ≤ 3) ∧ th0 M = M24 := by
            rcases hp24 with y | y
            · exact ⟨by omega, y.2.2⟩
            · exfalso; omega
          obtain ⟨ew, rfl⟩ := ew
          refine k_iload_n C dX11_told_32 rfl rfl ?_
          refine k_table C (tgt := 97) dX11_told_33 (by omega) rfl (fun off t z1 z2 z3 z4 => ?_) (fun z1 z2 => ?_) (fun z => ?_)
          · have ew : wh = 0 ∨ wh = 1 ∨ wh = 2 := by omega
            rcases ew with rfl | rfl | rfl
            · have eo : off = 27 := by simpa using z3.symm
              subst eo
              have et : t = 60 := by omega
              subst et
              refine k_aload_n C dX11_told_60 rfl rfl ?_
              refine k_getR C (j := 6) okC11 rfl (by decide) (by decide) rfl flX11_23 dX11_told_61 ?_
              refine k_iload_n C dX11_told_64 rfl rfl ?_
              refine k_zaload C rfl (by decide) (by decide) ⟨by omega, by omega⟩ dX11_told_65 (fun ld65 => ?_)
              rw [t5] at ld65 ⊢
              refine k_if_eq C (tgt := 73) dX11_told_66 rfl (by omega) (fun c66 => ?_) (fun c66 => ?_)
              · refine k_iconst C dX11_told_73 ?_
                exact k_iret C dX11_told_74 (by omega) (fun _ => Or.inl ⟨v1, Or.inl ⟨rfl, by omega⟩, rfl⟩)
              · refine k_iconst C dX11_told_69 ?_
                refine k_goto C (tgt := 74) dX11_told_70 rfl ?_
                exact k_iret C dX11_told_74 (by omega) (fun _ => Or.inl ⟨v1, Or.inl ⟨rfl, by omega⟩, rfl⟩)
            · have eo : off = 42 := by simpa using z3.symm
              subst eo
              have et : t = 75 := by omega
              subst et
              refine k_aload_n C dX11_told_75 rfl rfl ?_
              refine k_getR C (j := 5) okC11 rfl (by decide) (by decide) rfl flX11_19 dX11_told_76 ?_
              refine k_iload_n C dX11_told_79 rfl rfl ?_
              refine k_zaload C rfl (by decide) (by decide) ⟨by omega, by omega⟩ dX11_told_80 (fun ld80 => ?_)
              rw [t4] at ld80 ⊢
              refine k_if_eq C (tgt := 88) dX11_told_81 rfl (by omega) (fun c81 => ?_) (fun c81 => ?_)
              · refine k_iconst C dX11_told_88 ?_
                exact k_iret C dX11_told_89 (by omega) (fun _ => Or.inl ⟨v1, Or.inr (Or.inl ⟨rfl, by omega⟩), rfl⟩)
              · refine k_iconst C dX11_told_84 ?_
                refine k_goto C (tgt := 89) dX11_told_85 rfl ?_
                exact k_iret C dX11_told_89 (by omega) (fun _ => Or.inl ⟨v1, Or.inr (Or.inl ⟨rfl, by omega⟩), rfl⟩)
            · have eo : off = 57 := by simpa using z3.symm
              subst eo
              have et : t = 90 := by omega
              subst et
              refine k_aload_n C dX11_told_90 rfl rfl ?_
              refine k_getR C (j := 4) okC11 rfl (by decide) (by decide) rfl flX11_16 dX11_told_91 ?_
              refine k_iload_n C dX11_told_94 rfl rfl ?_
              refine k_iaload C rfl (by decide) (by decide) ⟨by omega, by omega⟩ dX11_told_95 (fun ld95 => ?_)
              rw [t3] at ld95 ⊢
              exact k_iret C dX11_told_96 (by omega) (fun _ => Or.inl ⟨v1, Or.inr (Or.inr (Or.inl ⟨rfl, rfl⟩)), rfl⟩)
          · have ew : wh = 0 ∨ wh = 1 ∨ wh = 2 := by omega
            rcases ew with rfl | rfl | rfl
            · exact ⟨27, 60, rfl, rfl⟩
            · exact ⟨42, 75, rfl, rfl⟩
            · exact ⟨57, 90, rfl, rfl⟩
          · refine k_aload_n C dX11_told_97 rfl rfl ?_
            refine k_getR C (j := 6) okC11 rfl (by decide) (by decide) rfl flX11_23 dX11_told_98 ?_
            refine k_iload_n C dX11_told_101 rfl rfl ?_
            refine k_zaload C rfl (by decide) (by decide) ⟨by omega, by omega⟩ dX11_told_102 (fun ld102 => ?_)
            rw [t5] at ld102 ⊢
            refine k_if_ne C (tgt := 110) dX11_told_103 rfl (by omega) (fun c103 => ?_) (fun c103 => ?_)
            · refine k_aload_n C dX11_told_110 rfl rfl ?_
              refine k_getR C (j := 5) okC11 rfl (by decide) (by decide) rfl flX11_19 dX11_told_111 ?_
              refine k_iload_n C dX11_told_114 rfl rfl ?_
              refine k_zaload C rfl (by decide) (by decide) ⟨by omega, by omega⟩ dX11_told_115 (fun ld115 => ?_)
              rw [t4] at ld115 ⊢
              refine k_if_eq C (tgt := 127) dX11_told_116 rfl (by omega) (fun c116 => ?_) (fun c116 => ?_)
              · refine k_aload_n C dX11_told_127 rfl rfl ?_
                refine k_iload_n C dX11_told_128 rfl rfl ?_
                refine k_callV C okX11_161 dX11_told_129 (c_M_isLeftOut bl (th0 M) hBt r0 (by omega)) rfl rfl (by decide) rfl (by decide) rfl (Nat.le_of_ble_eq_true rfl) (fun r129 M129 hr129 hp129 => ?_)
                obtain ⟨rfl, hp129⟩ := hp129
                rw [t07, t2, t3, t4, t5] at hp129
                refine k_if_eq C (tgt := 139) dX11_told_132 rfl (by omega) (fun c132 => ?_) (fun c132 => ?_)
                · refine k_iconst C dX11_told_139 ?_
                  exact k_iret C dX11_told_140 (by omega) (fun _ => by
        refine Or.inl ⟨v1, Or.inr (Or.inr (Or.inr ⟨by omega, ?_⟩)), rfl⟩
        first | (rw [iteP_pos (by omega)]; done) | (rw [iteP_neg (by omega), iteP_neg (by omega)]; exact hp121) | (rw [iteP_neg (by omega), iteP_pos (by omega), iteP_pos (by rcases hp129 with y | y; exact y.2; omega)]; done) | (rw [iteP_neg (by omega), iteP_pos (by omega), iteP_neg (by rcases hp129 with y | y; omega; exact y.2)]; done))
                · refine k_iconst C dX11_told_135 ?_
                  refine k_goto C (tgt := 140) dX11_told_136 rfl ?_
                  exact k_iret C dX11_told_140 (by omega) (fun _ => by
        refine Or.inl ⟨v1, Or.inr (Or.inr (Or.inr ⟨by omega, ?_⟩)), rfl⟩
        first | (rw [iteP_pos (by omega)]; done) | (rw [iteP_neg (by omega), iteP_neg (by omega)]; exact hp121) | (rw [iteP_neg (by omega), iteP_pos (by omega), iteP_pos (by rcases hp129 with y | y; exact y.2; omega)]; done) | (rw [iteP_neg (by omega), iteP_pos (by omega), iteP_neg (by rcases hp129 with y | y; omega; exact y.2)]; done))
              · refine k_aload_n C dX11_told_119 rfl rfl ?_
                refine k_iload_n C dX11_told_120 rfl rfl ?_
                refine k_callV C okX11_157 dX11_told_121 (c_M_cutOf bl (th0 M) hBt r0 (by omega)) rfl rfl (by decide) rfl (by decide) rfl (Nat.le_of_ble_eq_true rfl) (fun r121 M121 hr121 hp121 => ?_)
                obtain ⟨rfl, hp121⟩ := hp121
                rw [t07, t2, t3, t4, t5] at hp121
                refine k_goto C (tgt := 140) dX11_told_124 rfl ?_
                exact k_iret C dX11_told_140 (by omega) (fun _ => by
        refine Or.inl ⟨v1, Or.inr (Or.inr (Or.inr ⟨by omega, ?_⟩)), rfl⟩
        first | (rw [iteP_pos (by omega)]; done) | (rw [iteP_neg (by omega), iteP_neg (by omega)]; exact hp121) | (rw [iteP_neg (by omega), iteP_pos (by omega), iteP_pos (by rcases hp129 with y | y; exact y.2; omega)]; done) | (rw [iteP_neg (by omega), iteP_pos (by omega), iteP_neg (by rcases hp129 with y | y; omega; exact y.2)]; done))
            · refine k_iconst C dX11_told_106 ?_
              refine k_goto C (tgt := 140) dX11_told_107 rfl ?_
              exact k_iret C dX11_told_140 (by omega) (fun _ => by
        refine Or.inl ⟨v1, Or.inr (Or.inr (Or.inr ⟨by omega, ?_⟩)), rfl⟩
        first | (rw [iteP_pos (by omega)]; done) | (rw [iteP_neg (by omega), iteP_neg (by omega)]; exact hp121) | (rw [iteP_neg (by omega), iteP_pos (by omega), iteP_pos (by rcases hp129 with y | y; exact y.2; omega)]; done) | (rw [iteP_neg (by omega), iteP_pos (by omega), iteP_neg (by rcases hp129 with y | y; omega; exact y.2)]; done))
        · refine k_iconst C dX11_told_30 ?_
          exact k_iret C dX11_told_31 (by omega) (fun _ => by first | (rcases hp2 with z | z; (exfalso; omega); exact Or.inr (Or.inl ⟨z.1, z.2.2⟩)) | (rcases hp24 with y | y; (exfalso; omega); exact Or.inr (Or.inr ⟨v1, by omega, by rw [y.2.2]; unfold th0; funext k i; unfold up; split <;> first | rfl | (rw [if_neg (by omega)])⟩)))
