/-! THE REFERENCE: a new row, what is told of a row, takes, step, seen, doubt -/
def cpyN (M : Mem) (t n : Int) : Mem := fun k i => if k = 2 ∧ 12 * t ≤ i ∧ i < 12 * t + n then M 1 (i - 12 * t) else M k i
theorem cpyN_0 (M : Mem) (t : Int) : cpyN M t 0 = M := by
  funext k i; unfold cpyN; rw [if_neg (by omega)]
theorem cpyN_ne {M : Mem} {t n : Int} {k : Nat} (h : k ≠ 2) : cpyN M t n k = M k := by
  funext i; unfold cpyN; rw [if_neg (by omega)]
theorem cpyN_s (M : Mem) (t : Int) {n : Int} (h : 0 ≤ n) : up (cpyN M t n) 2 (12 * t + n) (M 1 n) = cpyN M t (n + 1) := by
  funext k i
  show (if k = 2 ∧ i = 12 * t + n then M 1 n else (if k = 2 ∧ 12 * t ≤ i ∧ i < 12 * t + n then M 1 (i - 12 * t) else M k i)) = (if k = 2 ∧ 12 * t ≤ i ∧ i < 12 * t + (n + 1) then M 1 (i - 12 * t) else M k i)
  by_cases h1 : k = 2
  · by_cases h2 : i = 12 * t + n
    · rw [if_pos ⟨h1, h2⟩, if_pos ⟨h1, by omega⟩, show i - 12 * t = n by omega]
    · rw [if_neg (fun h => h2 h.2)]
      by_cases h3 : 12 * t ≤ i ∧ i < 12 * t + n
      · rw [if_pos ⟨h1, h3⟩, if_pos ⟨h1, by omega⟩]
      · rw [if_neg (fun h => h3 h.2), if_neg (fun h => h3 (by omega))]
  · rw [if_neg (fun h => h1 h.1), if_neg (fun h => h1 h.1), if_neg (fun h => h1 h.1)]
def entN (M : Mem) (right : Int) : Mem := up (up (up (up (up (cpyN M (M 0 7) (M 0 2)) 3 (M 0 7) (M 0 2)) 4 (M 0 7) right) 5 (M 0 7) 1) 0 2 0) 0 7 (M 0 7 + 1)
set_option maxHeartbeats 4000000 in
set_option maxRecDepth 100000 in
theorem m_rowL {K : Kt} (bl : Nat) (B : Mem) (hB : BkM B) (hH : HdM B) (right : Int) (hr : right = 0 ∨ right = 1) (C : Ctx (shM bl) nM RX11 cX11_row 3 (some .int) (lvl 0) (fun r M' => ((right = 0 ∧ B 0 2 = 0) ∧ r = -1 ∧ B = M') ∨ (¬ (right = 0 ∧ B 0 2 = 0) ∧ B 0 7 = 60 ∧ r = -2 ∧ B = M') ∨ (¬ (right = 0 ∧ B 0 2 = 0) ∧ B 0 7 < 60 ∧ r = B 0 7 ∧ M' = entN B right)) K) (hc : ¬ (right = 0 ∧ B 0 2 = 0)) (h60 : B 0 7 < 60) (i : Int) (hi : 0 ≤ i ∧ i ≤ B 0 2) : K 32 [(0, .inr 0), (1, .inl right), (2, .inl i)] [] (cpyN B (B 0 7) i) := by
  have h1 := hB.1; have h2 := hB.2.1; have h3 := hH.1; have h4 := hH.2.1
  have f0 : cpyN B (B 0 7) i 0 = B 0 := cpyN_ne (by decide)
  have f1 : cpyN B (B 0 7) i 1 = B 1 := cpyN_ne (by decide)
  refine k_iload_n C dX11_row_32 rfl rfl ?_
  refine k_aload_n C dX11_row_33 rfl rfl ?_
  refine k_getJ C 2 2 rfl okC11 rfl (by decide) (by decide) rfl flX11_144 dX11_row_34 (fun ld34 => ?_)
  rw [f0]
  refine k_icmp_ge C (tgt := 66) dX11_row_37 rfl (by omega) (by omega) (fun c37 => ?_) (fun c37 => ?_)
  · refine k_aload_n C dX11_row_66 rfl rfl ?_
    refine k_getR C (j := 4) okC11 rfl (by decide) (by decide) rfl flX11_16 dX11_row_67 ?_
    refine k_aload_n C dX11_row_70 rfl rfl ?_
    refine k_getJ C 7 7 rfl okC11 rfl (by decide) (by decide) rfl flX11_147 dX11_row_71 (fun ld71 => ?_)
    rw [cpyN_ne (show (0 : Nat) ≠ 2 by decide)]
    refine k_aload_n C dX11_row_74 rfl rfl ?_
    refine k_getJ C 2 2 rfl okC11 rfl (by decide) (by decide) rfl flX11_144 dX11_row_75 (fun ld75 => ?_)
    rw [cpyN_ne (show (0 : Nat) ≠ 2 by decide)]
    refine k_iastore C rfl (by decide) (by decide) ⟨by omega, by omega⟩ (by omega) dX11_row_78 ?_
    refine k_aload_n C dX11_row_79 rfl rfl ?_
    refine k_getR C (j := 5) okC11 rfl (by decide) (by decide) rfl flX11_19 dX11_row_80 ?_
    refine k_aload_n C dX11_row_83 rfl rfl ?_
    refine k_getJ C 7 7 rfl okC11 rfl (by decide) (by decide) rfl flX11_147 dX11_row_84 (fun ld84 => ?_)
    rw [up_ne (show (0 : Nat) ≠ 3 by decide), cpyN_ne (show (0 : Nat) ≠ 2 by decide)]
    refine k_iload_n C dX11_row_87 rfl rfl ?_
    refine k_zastore C rfl (by decide) (by decide) ⟨by omega, by omega⟩ (by omega) dX11_row_88 ?_
    refine k_aload_n C dX11_row_89 rfl rfl ?_
    refine k_getR C (j := 6) okC11 rfl (by decide) (by decide) rfl flX11_23 dX11_row_90 ?_
    refine k_aload_n C dX11_row_93 rfl rfl ?_
    refine k_getJ C 7 7 rfl okC11 rfl (by decide) (by decide) rfl flX11_147 dX11_row_94 (fun ld94 => ?_)
    rw [up_ne (show (0 : Nat) ≠ 4 by decide), up_ne (show (0 : Nat) ≠ 3 by decide), cpyN_ne (show (0 : Nat) ≠ 2 by decide)]
    refine k_iconst C dX11_row_97 ?_
    refine k_zastore C rfl (by decide) (by decide) ⟨by omega, by omega⟩ (by omega) dX11_row_98 ?_
    refine k_aload_n C dX11_row_99 rfl rfl ?_
    refine k_iconst C dX11_row_100 ?_
    refine k_putJ C 2 2 rfl okC11 rfl (by decide) (by decide) rfl rfl rfl (by omega) flX11_144 dX11_row_101 ?_
    refine k_aload_n C dX11_row_104 rfl rfl ?_
    refine k_dup C dX11_row_105 ?_
    refine k_getJ C 7 7 rfl okC11 rfl (by decide) (by decide) rfl flX11_147 dX11_row_106 (fun ld106 => ?_)
    rw [up_at, if_neg (by decide)]
    rw [up_ne (show (0 : Nat) ≠ 5 by decide), up_ne (show (0 : Nat) ≠ 4 by decide), up_ne (show (0 : Nat) ≠ 3 by decide), cpyN_ne (show (0 : Nat) ≠ 2 by decide)]
    refine k_iconst C dX11_row_109 ?_
    refine k_iadd C dX11_row_110 ?_
    refine k_putJ C 7 7 rfl okC11 rfl (by decide) (by decide) rfl rfl rfl (by omega) flX11_147 dX11_row_111 ?_
    refine k_aload_n C dX11_row_114 rfl rfl ?_
    refine k_getJ C 7 7 rfl okC11 rfl (by decide) (by decide) rfl flX11_147 dX11_row_115 (fun ld115 => ?_)
    rw [up_same]
    refine k_iconst C dX11_row_118 ?_
    refine k_isub C dX11_row_119 ?_
    exact k_iret C dX11_row_120 (by omega) (fun _ => by
        refine Or.inr (Or.inr ⟨hc, h60, by omega, ?_⟩)
        rw [show i = B 0 2 by omega]
        rfl)
  · refine k_aload_n C dX11_row_40 rfl rfl ?_
    refine k_getR C (j := 3) okC11 rfl (by decide) (by decide) rfl flX11_13 dX11_row_41 ?_
    refine k_bipush C dX11_row_44 (by decide) ?_
    refine k_aload_n C dX11_row_46 rfl rfl ?_
    refine k_getJ C 7 7 rfl okC11 rfl (by decide) (by decide) rfl flX11_147 dX11_row_47 (fun ld47 => ?_)
    rw [f0]
    refine k_imul C dX11_row_50 ?_
    refine k_iload_n C dX11_row_51 rfl rfl ?_
    refine k_iadd C dX11_row_52 ?_
    refine k_aload_n C dX11_row_53 rfl rfl ?_
    refine k_getR C (j := 1) okC11 rfl (by decide) (by decide) rfl flX11_9 dX11_row_54 ?_
    refine k_iload_n C dX11_row_57 rfl rfl ?_
    refine k_iaload C rfl (by decide) (by decide) ⟨by omega, by omega⟩ dX11_row_58 (fun ld58 => ?_)
    rw [f1] at ld58 ⊢
    refine k_iastore C rfl (by decide) (by decide) ⟨by omega, by omega⟩ (by omega) dX11_row_59 ?_
    refine k_iinc C dX11_row_60 (by decide) rfl ?_
    refine k_goto C (tgt := 32) dX11_row_63 rfl ?_
    refine k_cut2 C (lv' := [(0, _), (1, _), (2, _)]) ⟨rfl, rfl, rfl, trivial⟩ ?_
    rw [cpyN_s _ _ hi.1]
    exact m_rowL bl B hB hH right hr C hc h60 (i + 1) (by omega)
termination_by (B 0 2 - i).toNat
decreasing_by all_goals omega
set_option maxHeartbeats 4000000 in
set_option maxRecDepth 100000 in
theorem m_row {K : Kt} (bl : Nat) (B : Mem) (hB : BkM B) (hH : HdM B) (right : Int) (hr : right = 0 ∨ right = 1) (C : Ctx (shM bl) nM RX11 cX11_row 3 (some .int) (lvl 0) (fun r M' => ((right = 0 ∧ B 0 2 = 0) ∧ r = -1 ∧ B = M') ∨ (¬ (right = 0 ∧ B 0 2 = 0) ∧ B 0 7 = 60 ∧ r = -2 ∧ B = M') ∨ (¬ (right = 0 ∧ B 0 2 = 0) ∧ B 0 7 < 60 ∧ r = B 0 7 ∧ M' = entN B right)) K) : K 5 [(0, .inr 0), (1, .inl right)] [] B := by
  have h1 := hB.1; have h2 := hB.2.1; have h3 := hH.1; have h4 := hH.2.1
  refine k_iload_n C dX11_row_5 rfl rfl ?_
  refine k_if_ne C (tgt := 18) dX11_row_6 rfl (by omega) (fun c6 => ?_) (fun c6 => ?_)
  · refine k_aload_n C dX11_row_18 rfl rfl ?_
    refine k_getJ C 7 7 rfl okC11 rfl (by decide) (by decide) rfl flX11_147 dX11_row_19 (fun ld19 => ?_)
    refine k_bipush C dX11_row_22 (by decide) ?_
    refine k_icmp_ne C (tgt := 30) dX11_row_24 rfl (by omega) (by omega) (fun c24 => ?_) (fun c24 => ?_)
    · refine k_iconst C dX11_row_30 ?_
      refine k_istore_n C dX11_row_31 rfl (by decide) ?_
      refine k_cut2 C (lv' := [(0, _), (1, _), (2, _)]) ⟨rfl, rfl, rfl, trivial⟩ ?_
      have h := m_rowL bl B hB hH right hr C (by omega) (by omega) 0 (by omega)
      rw [cpyN_0] at h
      exact h
    · refine k_bipush C dX11_row_27 (by decide) ?_
      exact k_iret C dX11_row_29 (by omega) (fun _ => Or.inr (Or.inl ⟨by omega, c24, rfl, rfl⟩))
  · refine k_aload_n C dX11_row_9 rfl rfl ?_
    refine k_getJ C 2 2 rfl okC11 rfl (by decide) (by decide) rfl flX11_144 dX11_row_10 (fun ld10 => ?_)
    refine k_if_ne C (tgt := 18) dX11_row_13 rfl (by omega) (fun c13 => ?_) (fun c13 => ?_)
    · refine k_aload_n C dX11_row_18 rfl rfl ?_
      refine k_getJ C 7 7 rfl okC11 rfl (by decide) (by decide) rfl flX11_147 dX11_row_19 (fun ld19 => ?_)
      refine k_bipush C dX11_row_22 (by decide) ?_
      refine k_icmp_ne C (tgt := 30) dX11_row_24 rfl (by omega) (by omega) (fun c24 => ?_) (fun c24 => ?_)
      · refine k_iconst C dX11_row_30 ?_
        refine k_istore_n C dX11_row_31 rfl (by decide) ?_
        refine k_cut2 C (lv' := [(0, _), (1, _), (2, _)]) ⟨rfl, rfl, rfl, trivial⟩ ?_
        have h := m_rowL bl B hB hH right hr C (by omega) (by omega) 0 (by omega)
        rw [cpyN_0] at h
        exact h
      · refine k_bipush C dX11_row_27 (by decide) ?_
        exact k_iret C dX11_row_29 (by omega) (fun _ => Or.inr (Or.inl ⟨by omega, c24, rfl, rfl⟩))
    · refine k_iconst C dX11_row_16 ?_
      exact k_iret C dX11_row_17 (by omega) (fun _ => Or.inl ⟨by omega, rfl, rfl⟩)
set_option maxHeartbeats 4000000 in
set_option maxRecDepth 100000 in
theorem c_M_row (bl : Nat) (M : Mem) (hB : BkM M) (hH : HdM M) (right : Int) (hr : right = 0 ∨ right = 1) : Ct (shM bl) nM yX11_row cX11_row 3 (some .int) (lvl 0) [.inr 0, .inl right] M (fun r M' => ((right = 0 ∧ (th0 M) 0 2 = 0) ∧ r = -1 ∧ (th0 M) = M') ∨ (¬ (right = 0 ∧ (th0 M) 0 2 = 0) ∧ (th0 M) 0 7 = 60 ∧ r = -2 ∧ (th0 M) = M') ∨ (¬ (right = 0 ∧ (th0 M) 0 2 = 0) ∧ (th0 M) 0 7 < 60 ∧ r = (th0 M) 0 7 ∧ M' = entN (th0 M) right)) := by
  refine Ct_of (by decide +kernel) (Nat.le_of_ble_eq_true rfl) (fun K C => ?_)
  refine k_aload_n C dX11_row_0 rfl rfl ?_
  refine k_iconst C dX11_row_1 ?_
  refine k_putJ C 0 0 rfl okC11 rfl (by decide) (by decide) rfl rfl rfl (by omega) flX11_133 dX11_row_2 ?_
  exact m_row bl (th0 M) (th0_B hB) (th0_H hH) right hr C
theorem tkP_rg (nx hd : Int → Int) (n : Int) : ∀ (f : Nat) (i s : Int), i ≤ n → i ≤ tkP nx hd n f i s ∧ tkP nx hd n f i s ≤ n
  | 0, i, s, h => ⟨Int.le_refl _, h⟩
  | f + 1, i, s, h => by
    unfold tkP
    split
    · split
      · omega
      · have := tkP_rg nx hd n f (i + 1) (nx (8 * s + hd i)) (by omega); omega
    · omega
set_option maxHeartbeats 4000000 in
set_option maxRecDepth 100000 in
theorem m_takesL {K : Kt} (bl : Nat) (B : Mem) (hL : LwM B) (hH : HdM B) (C : Ctx (shM bl) nM RX11 cX11_takes 3 (some .int) (lvl 0) (fun r M' => B = M' ∧ r = tkP (B 19) (B 1) (B 0 2) 13 0 0) K) (i s : Int) (hi : 0 ≤ i ∧ i ≤ B 0 2) (hs : 0 ≤ s ∧ s < B 0 25) (f : Nat) (hf : B 0 2 - i < f) (he : tkP (B 19) (B 1) (B 0 2) 13 0 0 = tkP (B 19) (B 1) (B 0 2) f i s) : K 9 [(0, .inr 0), (1, .inl s), (2, .inl i)] [] B := by
  have h1 := hH.1; have h2 := hH.2.1; have l1 := hL.1; have l2 := hL.2.1
  obtain ⟨g, rfl⟩ : ∃ g, f = g + 1 := ⟨f - 1, by omega⟩
  refine k_iload_n C dX11_takes_9 rfl rfl ?_
  refine k_aload_n C dX11_takes_10 rfl rfl ?_
  refine k_getJ C 2 2 rfl okC11 rfl (by decide) (by decide) rfl flX11_144 dX11_takes_11 (fun ld11 => ?_)
  refine k_icmp_ge C (tgt := 59) dX11_takes_14 rfl (by omega) (by omega) (fun c14 => ?_) (fun c14 => ?_)
  · refine k_iload_n C dX11_takes_59 rfl rfl ?_
    exact k_iret C dX11_takes_60 (by omega) (fun _ => by
        refine ⟨rfl, ?_⟩
        rw [he]
        show _ = (if i < B 0 2 then _ else i)
        first | (rw [if_neg (by omega)]; done) | (rw [if_pos c14, if_pos (by omega)]; done))
  · have hhd := hH.2.2 i hi.1 c14
    have hto := hL.2.2 s (B 1 i) hs.1 hs.2 hhd.1 hhd.2
    refine k_aload_n C dX11_takes_17 rfl rfl ?_
    refine k_getR C (j := 23) okC11 rfl (by decide) (by decide) rfl flX11_65 dX11_takes_18 ?_
    refine k_bipush C dX11_takes_21 (by decide) ?_
    refine k_iload_n C dX11_takes_23 rfl rfl ?_
    refine k_imul C dX11_takes_24 ?_
    refine k_aload_n C dX11_takes_25 rfl rfl ?_
    refine k_getR C (j := 1) okC11 rfl (by decide) (by decide) rfl flX11_9 dX11_takes_26 ?_
    refine k_iload_n C dX11_takes_29 rfl rfl ?_
    refine k_iaload C rfl (by decide) (by decide) ⟨by omega, by omega⟩ dX11_takes_30 (fun ld30 => ?_)
    refine k_iadd C dX11_takes_31 ?_
    refine k_iaload C rfl (by decide) (by decide) ⟨by omega, by omega⟩ dX11_takes_32 (fun ld32 => ?_)
    refine k_if_lt C (tgt := 59) dX11_takes_33 rfl (by omega) (fun c33 => ?_) (fun c33 => ?_)
    · refine k_iload_n C dX11_takes_59 rfl rfl ?_
      exact k_iret C dX11_takes_60 (by omega) (fun _ => by
        refine ⟨rfl, ?_⟩
        rw [he]
        show _ = (if i < B 0 2 then _ else i)
        first | (rw [if_neg (by omega)]; done) | (rw [if_pos c14, if_pos (by omega)]; done))
    · refine k_aload_n C dX11_takes_36 rfl rfl ?_
      refine k_getR C (j := 23) okC11 rfl (by decide) (by decide) rfl flX11_65 dX11_takes_37 ?_
      refine k_bipush C dX11_takes_40 (by decide) ?_
      refine k_iload_n C dX11_takes_42 rfl rfl ?_
      refine k_imul C dX11_takes_43 ?_
      refine k_aload_n C dX11_takes_44 rfl rfl ?_
      refine k_getR C (j := 1) okC11 rfl (by decide) (by decide) rfl flX11_9 dX11_takes_45 ?_
      refine k_iload_n C dX11_takes_48 rfl rfl ?_
      refine k_iaload C rfl (by decide) (by decide) ⟨by omega, by omega⟩ dX11_takes_49 (fun ld49 => ?_)
      refine k_iadd C dX11_takes_50 ?_
      refine k_iaload C rfl (by decide) (by decide) ⟨by omega, by omega⟩ dX11_takes_51 (fun ld51 => ?_)
      refine k_istore_n C dX11_takes_52 rfl (by decide) ?_
      refine k_iinc C dX11_takes_53 (by decide) rfl ?_
      refine k_goto C (tgt := 9) dX11_takes_56 rfl ?_
      refine k_cut2 C (lv' := [(0, _), (1, _), (2, _)]) ⟨rfl, rfl, rfl, trivial⟩ ?_
      refine m_takesL bl B hL hH C (i + 1) (B 19 (8 * s + B 1 i)) (by omega) (by omega) g (by omega) ?_
      rw [he]
      show (if i < B 0 2 then _ else i) = _
      rw [if_pos c14, if_neg (by omega)]
termination_by (B 0 2 - i).toNat
decreasing_by all_goals omega
set_option maxHeartbeats 4000000 in
set_option maxRecDepth 100000 in
theorem m_takes {K : Kt} (bl : Nat) (B : Mem) (hL : LwM B) (hH : HdM B) (C : Ctx (shM bl) nM RX11 cX11_takes 3 (some .int) (lvl 0) (fun r M' => B = M' ∧ r = tkP (B 19) (B 1) (B 0 2) 13 0 0) K) : K 5 [(0, .inr 0)] [] B := by
  have h1 := hH.1; have h2 := hH.2.1; have l1 := hL.1
  refine k_iconst C dX11_takes_5 ?_
  refine k_istore_n C dX11_takes_6 rfl (by decide) ?_
  refine k_iconst C dX11_takes_7 ?_
  refine k_istore_n C dX11_takes_8 rfl (by decide) ?_
  refine k_cut2 C (lv' := [(0, _), (1, _), (2, _)]) ⟨rfl, rfl, rfl, trivial⟩ ?_
  exact m_takesL bl B hL hH C 0 0 (by omega) (by omega) 13 (by omega) rfl
set_option maxHeartbeats 4000000 in
set_option maxRecDepth 100000 in
theorem c_M_takes (bl : Nat) (M : Mem) (hL : LwM M) (hH : HdM M) : Ct (shM bl) nM yX11_takes cX11_takes 3 (some .int) (lvl 0) [.inr 0] M (fun r M' => (th0 M) = M' ∧ r = tkP ((th0 M) 19) ((th0 M) 1) ((th0 M) 0 2) 13 0 0) := by
  refine Ct_of (by decide +kernel) (Nat.le_of_ble_eq_true rfl) (fun K C => ?_)
  refine k_aload_n C dX11_takes_0 rfl rfl ?_
  refine k_iconst C dX11_takes_1 ?_
  refine k_putJ C 0 0 rfl okC11 rfl (by decide) (by decide) rfl rfl rfl (by omega) flX11_133 dX11_takes_2 ?_
  exact m_takes bl (th0 M) (th0_L hL) (th0_H hH) C
set_option maxHeartbeats 4000000 in
set_option maxRecDepth 100000 in
theorem c_M_isStep (bl : Nat) (M : Mem) (hL : LwM M) (s c : Int) (hs : inR s) (hc : inR c) : Ct (shM bl) nM yX11_isStep cX11_isStep 3 (some .boolean) (lvl 1) [.inr 0, .inl s, .inl c] M (fun r M' => ((0 ≤ s ∧ s < M 0 25) ∧ (0 ≤ c ∧ c < 8) ∧ r = 1 ∧ M' = th0 M) ∨ (r = 0 ∧ ((¬ (0 ≤ s ∧ s < M 0 25) ∧ M' = up M 0 0 1) ∨ ((0 ≤ s ∧ s < M 0 25) ∧ ¬ (0 ≤ c ∧ c < 8) ∧ M' = up M 0 0 2)))) := by
  refine Ct_of (by decide +kernel) (Nat.le_of_ble_eq_true rfl) (fun K C => ?_)
  refine k_aload_n C dX11_isStep_0 rfl rfl ?_
  refine k_iload_n C dX11_isStep_1 rfl rfl ?_
  refine k_if_lt C (tgt := 13) dX11_isStep_2 rfl (by omega) (fun c2 => ?_) (fun c2 => ?_)
  · refine k_iconst C dX11_isStep_13 ?_
    refine k_goto C (tgt := 29) dX11_isStep_14 rfl ?_
    refine k_putJ C 0 0 rfl okC11 rfl (by decide) (by decide) rfl rfl rfl (by omega) flX11_133 dX11_isStep_29 ?_
    refine k_aload_n C dX11_isStep_32 rfl rfl ?_
    refine k_getJ C 0 0 rfl okC11 rfl (by decide) (by decide) rfl flX11_133 dX11_isStep_33 (fun ld33 => ?_)
    rw [up_same]
    refine k_if_ne C (tgt := 43) dX11_isStep_36 rfl (by omega) (fun c36 => ?_) (fun c36 => ?_)
    · refine k_iconst C dX11_isStep_43 ?_
      exact k_zret C dX11_isStep_44 (by omega) (fun _ => by first | (exfalso; omega) | exact Or.inl ⟨by omega, by omega, rfl, rfl⟩ | exact Or.inr ⟨rfl, Or.inl ⟨by omega, rfl⟩⟩ | exact Or.inr ⟨rfl, Or.inr ⟨by omega, by omega, rfl⟩⟩)
    · refine k_iconst C dX11_isStep_39 ?_
      refine k_goto C (tgt := 44) dX11_isStep_40 rfl ?_
      exact k_zret C dX11_isStep_44 (by omega) (fun _ => by first | (exfalso; omega) | exact Or.inl ⟨by omega, by omega, rfl, rfl⟩ | exact Or.inr ⟨rfl, Or.inl ⟨by omega, rfl⟩⟩ | exact Or.inr ⟨rfl, Or.inr ⟨by omega, by omega, rfl⟩⟩)
  · refine k_iload_n C dX11_isStep_5 rfl rfl ?_
    refine k_aload_n C dX11_isStep_6 rfl rfl ?_
    refine k_getJ C 25 25 rfl okC11 rfl (by decide) (by decide) rfl flX11_126 dX11_isStep_7 (fun ld7 => ?_)
    refine k_icmp_lt C (tgt := 17) dX11_isStep_10 rfl (by omega) (by omega) (fun c10 => ?_) (fun c10 => ?_)
    · refine k_iload_n C dX11_isStep_17 rfl rfl ?_
      refine k_callS C okX11_136 dX11_isStep_18 (c_M_isCall bl M c (by omega)) rfl (by decide) rfl (Nat.le_of_ble_eq_true rfl) (fun r18 M18 hr18 hp18 => ?_)
      obtain ⟨rfl, hp18⟩ := hp18
      refine k_if_ne C (tgt := 28) dX11_isStep_21 rfl (by omega) (fun c21 => ?_) (fun c21 => ?_)
      · refine k_iconst C dX11_isStep_28 ?_
        refine k_putJ C 0 0 rfl okC11 rfl (by decide) (by decide) rfl rfl rfl (by omega) flX11_133 dX11_isStep_29 ?_
        refine k_aload_n C dX11_isStep_32 rfl rfl ?_
        refine k_getJ C 0 0 rfl okC11 rfl (by decide) (by decide) rfl flX11_133 dX11_isStep_33 (fun ld33 => ?_)
        rw [up_same]
        refine k_if_ne C (tgt := 43) dX11_isStep_36 rfl (by omega) (fun c36 => ?_) (fun c36 => ?_)
        · refine k_iconst C dX11_isStep_43 ?_
          exact k_zret C dX11_isStep_44 (by omega) (fun _ => by first | (exfalso; omega) | exact Or.inl ⟨by omega, by omega, rfl, rfl⟩ | exact Or.inr ⟨rfl, Or.inl ⟨by omega, rfl⟩⟩ | exact Or.inr ⟨rfl, Or.inr ⟨by omega, by omega, rfl⟩⟩)
        · refine k_iconst C dX11_isStep_39 ?_
          refine k_goto C (tgt := 44) dX11_isStep_40 rfl ?_
          exact k_zret C dX11_isStep_44 (by omega) (fun _ => by first | (exfalso; omega) | exact Or.inl ⟨by omega, by omega, rfl, rfl⟩ | exact Or.inr ⟨rfl, Or.inl ⟨by omega, rfl⟩⟩ | exact Or.inr ⟨rfl, Or.inr ⟨by omega, by omega, rfl⟩⟩)
      · refine k_iconst C dX11_isStep_24 ?_
        refine k_goto C (tgt := 29) dX11_isStep_25 rfl ?_
        refine k_putJ C 0 0 rfl okC11 rfl (by decide) (by decide) rfl rfl rfl (by omega) flX11_133 dX11_isStep_29 ?_
        refine k_aload_n C dX11_isStep_32 rfl rfl ?_
        refine k_getJ C 0 0 rfl okC11 rfl (by decide) (by decide) rfl flX11_133 dX11_isStep_33 (fun ld33 => ?_)
        rw [up_same]
        refine k_if_ne C (tgt := 43) dX11_isStep_36 rfl (by omega) (fun c36 => ?_) (fun c36 => ?_)
        · refine k_iconst C dX11_isStep_43 ?_
          exact k_zret C dX11_isStep_44 (by omega) (fun _ => by first | (exfalso; omega) | exact Or.inl ⟨by omega, by omega, rfl, rfl⟩ | exact Or.inr ⟨rfl, Or.inl ⟨by omega, rfl⟩⟩ | exact Or.inr ⟨rfl, Or.inr ⟨by omega, by omega, rfl⟩⟩)
        · refine k_iconst C dX11_isStep_39 ?_
          refine k_goto C (tgt := 44) dX11_isStep_40 rfl ?_
          exact k_zret C dX11_isStep_44 (by omega) (fun _ => by first | (exfalso; omega) | exact Or.inl ⟨by omega, by omega, rfl, rfl⟩ | exact Or.inr ⟨rfl, Or.inl ⟨by omega, rfl⟩⟩ | exact Or.inr ⟨rfl, Or.inr ⟨by omega, by omega, rfl⟩⟩)
    · refine k_iconst C dX11_isStep_13 ?_
      refine k_goto C (tgt := 29) dX11_isStep_14 rfl ?_
      refine k_putJ C 0 0 rfl okC11 rfl (by decide) (by decide) rfl rfl rfl (by omega) flX11_133 dX11_isStep_29 ?_
      refine k_aload_n C dX11_isStep_32 rfl rfl ?_
      refine k_getJ C 0 0 rfl okC11 rfl (by decide) (by decide) rfl flX11_133 dX11_isStep_33 (fun ld33 => ?_)
      rw [up_same]
      refine k_if_ne C (tgt := 43) dX11_isStep_36 rfl (by omega) (fun c36 => ?_) (fun c36 => ?_)
      · refine k_iconst C dX11_isStep_43 ?_
        exact k_zret C dX11_isStep_44 (by omega) (fun _ => by first | (exfalso; omega) | exact Or.inl ⟨by omega, by omega, rfl, rfl⟩ | exact Or.inr ⟨rfl, Or.inl ⟨by omega, rfl⟩⟩ | exact Or.inr ⟨rfl, Or.inr ⟨by omega, by omega, rfl⟩⟩)
      · refine k_iconst C dX11_isStep_39 ?_
        refine k_goto C (tgt := 44) dX11_isStep_40 rfl ?_
        exact k_zret C dX11_isStep_44 (by omega) (fun _ => by first | (exfalso; omega) | exact Or.inl ⟨by omega, by omega, rfl, rfl⟩ | exact Or.inr ⟨rfl, Or.inl ⟨by omega, rfl⟩⟩ | exact Or.inr ⟨rfl, Or.inr ⟨by omega, by omega, rfl⟩⟩)
set_option maxHeartbeats 4000000 in
set_option maxRecDepth 100000 in
theorem c_M_step (bl : Nat) (M : Mem) (hL : LwM M) (s c : Int) (hs : inR s) (hc : inR c) : Ct (shM bl) nM yX11_step cX11_step 3 (some .int) (lvl 2) [.inr 0, .inl s, .inl c] M (fun r M' => ((0 ≤ s ∧ s < M 0 25) ∧ (0 ≤ c ∧ c < 8) ∧ r = M 19 (8 * s + c) ∧ M' = th0 M) ∨ ((¬ (0 ≤ s ∧ s < M 0 25) ∧ M' = up M 0 0 1) ∨ ((0 ≤ s ∧ s < M 0 25) ∧ ¬ (0 ≤ c ∧ c < 8) ∧ M' = up M 0 0 2))) := by
  refine Ct_of (by decide +kernel) (Nat.le_of_ble_eq_true rfl) (fun K C => ?_)
  refine k_aload_n C dX11_step_0 rfl rfl ?_
  refine k_iload_n C dX11_step_1 rfl rfl ?_
  refine k_iload_n C dX11_step_2 rfl rfl ?_
  refine k_callV C okX11_194 dX11_step_3 (c_M_isStep bl M hL s c hs hc) rfl rfl (by decide) rfl (by decide) rfl (Nat.le_of_ble_eq_true rfl) (fun r3 M3 hr3 hp3 => ?_)
  refine k_if_eq C (tgt := 23) dX11_step_6 rfl (by omega) (fun c6 => ?_) (fun c6 => ?_)
  · refine k_iconst C dX11_step_23 ?_
    exact k_iret C dX11_step_24 (by omega) (fun _ => by first | exact Or.inl ⟨v1, v2, rfl, rfl⟩ | (rcases hp3 with z | z; (exfalso; omega); exact Or.inr z.2))
  · have hv : (0 ≤ s ∧ s < M 0 25) ∧ (0 ≤ c ∧ c < 8) ∧ M3 = th0 M := by
      rcases hp3 with z | z
      · exact ⟨z.1, z.2.1, z.2.2.2⟩
      · exfalso; omega
    obtain ⟨v1, v2, rfl⟩ := hv
    have l2 := hL.2.1
    refine k_aload_n C dX11_step_9 rfl rfl ?_
    refine k_getR C (j := 23) okC11 rfl (by decide) (by decide) rfl flX11_65 dX11_step_10 ?_
    refine k_bipush C dX11_step_13 (by decide) ?_
    refine k_iload_n C dX11_step_15 rfl rfl ?_
    refine k_imul C dX11_step_16 ?_
    refine k_iload_n C dX11_step_17 rfl rfl ?_
    refine k_iadd C dX11_step_18 ?_
    refine k_iaload C rfl (by decide) (by decide) ⟨by omega, by omega⟩ dX11_step_19 (fun ld19 => ?_)
    rw [th0_c (by decide)] at ld19 ⊢
    refine k_goto C (tgt := 24) dX11_step_20 rfl ?_
    exact k_iret C dX11_step_24 (by omega) (fun _ => by first | exact Or.inl ⟨v1, v2, rfl, rfl⟩ | (rcases hp3 with z | z; (exfalso; omega); exact Or.inr z.2))
set_option maxHeartbeats 4000000 in
set_option maxRecDepth 100000 in
theorem c_M_seen (bl : Nat) (M : Mem) (hL : LwM M) (s c : Int) (hs : inR s) (hc : inR c) : Ct (shM bl) nM yX11_seen cX11_seen 3 (some .int) (lvl 2) [.inr 0, .inl s, .inl c] M (fun r M' => ((0 ≤ s ∧ s < M 0 25) ∧ (0 ≤ c ∧ c < 8) ∧ r = (if 0 ≤ M 19 (8 * s + c) then M 20 (8 * s + c) else 0) ∧ M' = th0 M) ∨ ((¬ (0 ≤ s ∧ s < M 0 25) ∧ M' = up M 0 0 1) ∨ ((0 ≤ s ∧ s < M 0 25) ∧ ¬ (0 ≤ c ∧ c < 8) ∧ M' = up M 0 0 2))) := by
  refine Ct_of (by decide +kernel) (Nat.le_of_ble_eq_true rfl) (fun K C => ?_)
  refine k_aload_n C dX11_seen_0 rfl rfl ?_
  refine k_iload_n C dX11_seen_1 rfl rfl ?_
  refine k_iload_n C dX11_seen_2 rfl rfl ?_
  refine k_callV C okX11_194 dX11_seen_3 (c_M_isStep bl M hL s c hs hc) rfl rfl (by decide) rfl (by decide) rfl (Nat.le_of_ble_eq_true rfl) (fun r3 M3 hr3 hp3 => ?_)
  refine k_if_eq C (tgt := 37) dX11_seen_6 rfl (by omega) (fun c6 => ?_) (fun c6 => ?_)
  · refine k_iconst C dX11_seen_37 ?_
    exact k_iret C dX11_seen_38 (by omega) (fun _ => by first | exact Or.inl ⟨v1, v2, by first | (rw [if_pos c20]; done) | (rw [if_neg (by omega)]; done), rfl⟩ | (rcases hp3 with z | z; (exfalso; omega); exact Or.inr z.2))
  · have hv : (0 ≤ s ∧ s < M 0 25) ∧ (0 ≤ c ∧ c < 8) ∧ M3 = th0 M := by
      rcases hp3 with z | z
      · exact ⟨z.1, z.2.1, z.2.2.2⟩
      · exfalso; omega
    obtain ⟨v1, v2, rfl⟩ := hv
    have l2 := hL.2.1
    refine k_aload_n C dX11_seen_9 rfl rfl ?_
    refine k_getR C (j := 23) okC11 rfl (by decide) (by decide) rfl flX11_65 dX11_seen_10 ?_
    refine k_bipush C dX11_seen_13 (by decide) ?_
    refine k_iload_n C dX11_seen_15 rfl rfl ?_
    refine k_imul C dX11_seen_16 ?_
    refine k_iload_n C dX11_seen_17 rfl rfl ?_
    refine k_iadd C dX11_seen_18 ?_
    refine k_iaload C rfl (by decide) (by decide) ⟨by omega, by omega⟩ dX11_seen_19 (fun ld19 => ?_)
    rw [th0_c (by decide)] at ld19 ⊢
    refine k_if_lt C (tgt := 37) dX11_seen_20 rfl (by omega) (fun c20 => ?_) (fun c20 => ?_)
    · refine k_iconst C dX11_seen_37 ?_
      exact k_iret C dX11_seen_38 (by omega) (fun _ => by first | exact Or.inl ⟨v1, v2, by first | (rw [if_pos c20]; done) | (rw [if_neg (by omega)]; done), rfl⟩ | (rcases hp3 with z | z; (exfalso; omega); exact Or.inr z.2))
    · refine k_aload_n C dX11_seen_23 rfl rfl ?_
      refine k_getR C (j := 24) okC11 rfl (by decide) (by decide) rfl flX11_68 dX11_seen_24 ?_
      refine k_bipush C dX11_seen_27 (by decide) ?_
      refine k_iload_n C dX11_seen_29 rfl rfl ?_
      refine k_imul C dX11_seen_30 ?_
      refine k_iload_n C dX11_seen_31 rfl rfl ?_
      refine k_iadd C dX11_seen_32 ?_
      refine k_iaload C rfl (by decide) (by decide) ⟨by omega, by omega⟩ dX11_seen_33 (fun ld33 => ?_)
      rw [th0_c (by decide)] at ld33 ⊢
      refine k_goto C (tgt := 38) dX11_seen_34 rfl ?_
      exact k_iret C dX11_seen_38 (by omega) (fun _ => by first | exact Or.inl ⟨v1, v2, by first | (rw [if_pos c20]; done) | (rw [if_neg (by omega)]; done), rfl⟩ | (rcases hp3 with z | z; (exfalso; omega); exact Or.inr z.2))
set_option maxHeartbeats 4000000 in
set_option maxRecDepth 100000 in
theorem m_doubtL {K : Kt} (bl : Nat) (B : Mem) (hL : LwM B) (n : Int) (hn : inR n) (C : Ctx (shM bl) nM RX11 cX11_doubt 4 (some .int) (lvl 0) (fun r M' => B = M' ∧ r = cnI (fun k => 0 ≤ B 19 k ∧ B 20 k < n) (8 * B 0 25)) K) (m k : Int) (hk : 0 ≤ k ∧ k ≤ 8 * B 0 25) (hm : m = cnI (fun k => 0 ≤ B 19 k ∧ B 20 k < n) k) : K 9 [(0, .inr 0), (1, .inl n), (2, .inl m), (3, .inl k)] [] B := by
  have l1 := hL.1; have l2 := hL.2.1; have hq := cnI_rg (fun k => 0 ≤ B 19 k ∧ B 20 k < n) hk.1
  refine k_iload_n C dX11_doubt_9 rfl rfl ?_
  refine k_bipush C dX11_doubt_10 (by decide) ?_
  refine k_aload_n C dX11_doubt_12 rfl rfl ?_
  refine k_getJ C 25 25 rfl okC11 rfl (by decide) (by decide) rfl flX11_126 dX11_doubt_13 (fun ld13 => ?_)
  refine k_imul C dX11_doubt_16 ?_
  refine k_icmp_ge C (tgt := 53) dX11_doubt_17 rfl (by omega) (by omega) (fun c17 => ?_) (fun c17 => ?_)
  · refine k_iload_n C dX11_doubt_53 rfl rfl ?_
    exact k_iret C dX11_doubt_54 (by omega) (fun _ => ⟨rfl, by rw [hm]; congr 1; omega⟩)
  · refine k_iload_n C dX11_doubt_20 rfl rfl ?_
    refine k_aload_n C dX11_doubt_21 rfl rfl ?_
    refine k_getR C (j := 23) okC11 rfl (by decide) (by decide) rfl flX11_65 dX11_doubt_22 ?_
    refine k_iload_n C dX11_doubt_25 rfl rfl ?_
    refine k_iaload C rfl (by decide) (by decide) ⟨by omega, by omega⟩ dX11_doubt_26 (fun ld26 => ?_)
    refine k_if_lt C (tgt := 44) dX11_doubt_27 rfl (by omega) (fun c27 => ?_) (fun c27 => ?_)
    · refine k_iconst C dX11_doubt_44 ?_
      refine k_iadd C dX11_doubt_45 ?_
      refine k_istore_n C dX11_doubt_46 rfl (by decide) ?_
      refine k_iinc C dX11_doubt_47 (by decide) rfl ?_
      refine k_goto C (tgt := 9) dX11_doubt_50 rfl ?_
      refine k_cut2 C (lv' := [(0, _), (1, _), (2, _), (3, _)]) ⟨rfl, rfl, rfl, rfl, trivial⟩ ?_
      refine m_doubtL bl B hL n hn C _ _ (by omega) ?_
      rw [cnI_s _ hk.1]
      first | (rw [iteP_pos ⟨c27, c37⟩, hm]; done) | (rw [iteP_neg (fun q => by have := q.2; omega), hm]; done) | (rw [iteP_neg (fun q => by have := q.1; omega), hm]; done)
    · refine k_aload_n C dX11_doubt_30 rfl rfl ?_
      refine k_getR C (j := 24) okC11 rfl (by decide) (by decide) rfl flX11_68 dX11_doubt_31 ?_
      refine k_iload_n C dX11_doubt_34 rfl rfl ?_
      refine k_iaload C rfl (by decide) (by decide) ⟨by omega, by omega⟩ dX11_doubt_35 (fun ld35 => ?_)
      refine k_iload_n C dX11_doubt_36 rfl rfl ?_
      refine k_icmp_ge C (tgt := 44) dX11_doubt_37 rfl (by omega) (by omega) (fun c37 => ?_) (fun c37 => ?_)
      · refine k_iconst C dX11_doubt_44 ?_
        refine k_iadd C dX11_doubt_45 ?_
        refine k_istore_n C dX11_doubt_46 rfl (by decide) ?_
        refine k_iinc C dX11_doubt_47 (by decide) rfl ?_
        refine k_goto C (tgt := 9) dX11_doubt_50 rfl ?_
        refine k_cut2 C (lv' := [(0, _), (1, _), (2, _), (3, _)]) ⟨rfl, rfl, rfl, rfl, trivial⟩ ?_
        refine m_doubtL bl B hL n hn C _ _ (by omega) ?_
        rw [cnI_s _ hk.1]
        first | (rw [iteP_pos ⟨c27, c37⟩, hm]; done) | (rw [iteP_neg (fun q => by have := q.2; omega), hm]; done) | (rw [iteP_neg (fun q => by have := q.1; omega), hm]; done)
      · refine k_iconst C dX11_doubt_40 ?_
        refine k_goto C (tgt := 45) dX11_doubt_41 rfl ?_
        refine k_iadd C dX11_doubt_45 ?_
        refine k_istore_n C dX11_doubt_46 rfl (by decide) ?_
        refine k_iinc C dX11_doubt_47 (by decide) rfl ?_
        refine k_goto C (tgt := 9) dX11_doubt_50 rfl ?_
        refine k_cut2 C (lv' := [(0, _), (1, _), (2, _), (3, _)]) ⟨rfl, rfl, rfl, rfl, trivial⟩ ?_
        refine m_doubtL bl B hL n hn C _ _ (by omega) ?_
        rw [cnI_s _ hk.1]
        first | (rw [iteP_pos ⟨c27, c37⟩, hm]; done) | (rw [iteP_neg (fun q => by have := q.2; omega), hm]; done) | (rw [iteP_neg (fun q => by have := q.1; omega), hm]; done)
termination_by (8 * B 0 25 - k).toNat
decreasing_by all_goals omega
set_option maxHeartbeats 4000000 in
set_option maxRecDepth 100000 in
theorem m_doubt {K : Kt} (bl : Nat) (B : Mem) (hL : LwM B) (n : Int) (hn : inR n) (C : Ctx (shM bl) nM RX11 cX11_doubt 4 (some .int) (lvl 0) (fun r M' => B = M' ∧ r = cnI (fun k => 0 ≤ B 19 k ∧ B 20 k < n) (8 * B 0 25)) K) : K 5 [(0, .inr 0), (1, .inl n)] [] B := by
  have l1 := hL.1
  refine k_iconst C dX11_doubt_5 ?_
  refine k_istore_n C dX11_doubt_6 rfl (by decide) ?_
  refine k_iconst C dX11_doubt_7 ?_
  refine k_istore_n C dX11_doubt_8 rfl (by decide) ?_
  refine k_cut2 C (lv' := [(0, _), (1, _), (2, _), (3, _)]) ⟨rfl, rfl, rfl, rfl, trivial⟩ ?_
  exact m_doubtL bl B hL n hn C 0 0 (by omega) rfl
set_option maxHeartbeats 4000000 in
set_option maxRecDepth 100000 in
theorem c_M_doubt (bl : Nat) (M : Mem) (hL : LwM M) (n : Int) (hn : inR n) : Ct (shM bl) nM yX11_doubt cX11_doubt 4 (some .int) (lvl 0) [.inr 0, .inl n] M (fun r M' => (th0 M) = M' ∧ r = cnI (fun k => 0 ≤ (th0 M) 19 k ∧ (th0 M) 20 k < n) (8 * (th0 M) 0 25)) := by
  refine Ct_of (by decide +kernel) (Nat.le_of_ble_eq_true rfl) (fun K C => ?_)
  refine k_aload_n C dX11_doubt_0 rfl rfl ?_
  refine k_iconst C dX11_doubt_1 ?_
  refine k_putJ C 0 0 rfl okC11 rfl (by decide) (by decide) rfl rfl rfl (by omega) flX11_133 dX11_doubt_2 ?_
  exact m_doubt bl (th0 M) (th0_L hL) n hn C
set_option maxHeartbeats 4000000 in
set_option maxRecDepth 100000 in
theorem c_M_mend (bl : Nat) (M : Mem) (hL : LwM M) (hH : HdM M) : Ct (shM bl) nM yX11_mend cX11_mend 8 (some .int) (lvl 0) [.inr 0] M (fun r M' => (∀ j, j ≠ 0 → j ≠ 1 → j ≠ 35 → j ≠ 36 → M' j = (th0 M) j) ∧ (∀ i, i ≠ 2 → M' 0 i = (th0 M) 0 i) ∧ MendM (th0 M) (M' 0 2) (M' 1) r) := by
  refine Ct_of (by decide +kernel) (Nat.le_of_ble_eq_true rfl) (fun K C => ?_)
  refine k_aload_n C dX11_mend_0 rfl rfl ?_
  refine k_iconst C dX11_mend_1 ?_
  refine k_putJ C 0 0 rfl okC11 rfl (by decide) (by decide) rfl rfl rfl (by omega) flX11_133 dX11_mend_2 ?_
  exact m_all bl (th0 M) (th0_L hL) (th0_H hH) C
