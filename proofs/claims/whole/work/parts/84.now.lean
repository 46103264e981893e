/-! THE REFERENCE: now, adds, state (the reader's parts): at (0, 32), size (0, 31), newEdges (0, 43), newStates (0, 44) -/
def skp (tx : Int → Int) (n : Int) : Nat → Int → Int
  | 0, i => i
  | f + 1, i => if i < n ∧ tx i = 32 then skp tx n f (i + 1) else i
theorem up_self (M : Mem) (k : Nat) (i : Int) : up M k i (M k i) = M := by
  funext k' i'; unfold up; split
  · rename_i h; rw [h.1, h.2]
  · rfl
theorem up_up (M : Mem) (k : Nat) (i v w : Int) : up (up M k i v) k i w = up M k i w := by
  funext k' i'; unfold up; split
  · rfl
  · rfl
set_option maxHeartbeats 4000000 in
set_option maxRecDepth 100000 in
theorem m_now {K : Kt} (bl : Nat) (M : Mem) (hs : 0 ≤ M 0 32 ∧ M 0 32 ≤ M 0 31 ∧ M 0 31 ≤ 200) (C : Ctx (shM bl) nM RX11 cX11_now 1 (some .int) (lvl 0) (fun r M' => M' = up M 0 32 (skp (M 24) (M 0 31) 201 (M 0 32)) ∧ r = (if skp (M 24) (M 0 31) 201 (M 0 32) < M 0 31 then M 24 (skp (M 24) (M 0 31) 201 (M 0 32)) % 256 else 0)) K) (i : Int) (hi : 0 ≤ i ∧ i ≤ M 0 31) (f : Nat) (hf : M 0 31 - i < f) (he : skp (M 24) (M 0 31) 201 (M 0 32) = skp (M 24) (M 0 31) f i) : K 0 [(0, .inr 0)] [] (up M 0 32 i) := by
  obtain ⟨g, rfl⟩ : ∃ g, f = g + 1 := ⟨f - 1, by omega⟩
  have he2 : skp (M 24) (M 0 31) 201 (M 0 32) = if i < M 0 31 ∧ M 24 i = 32 then skp (M 24) (M 0 31) g (i + 1) else i := he
  have r32 : up M 0 32 i 0 32 = i := up_same
  have r31 : up M 0 32 i 0 31 = M 0 31 := by rw [up_at, if_neg (by decide)]
  have r24 : up M 0 32 i 24 = M 24 := up_ne (by decide)
  refine k_aload_n C dX11_now_0 rfl rfl ?_
  refine k_getJ C 32 32 rfl okC11 rfl (by decide) (by decide) rfl flX11_207 dX11_now_1 (fun ld1 => ?_)
  rw [r32] at ld1 ⊢
  refine k_aload_n C dX11_now_4 rfl rfl ?_
  refine k_getJ C 31 31 rfl okC11 rfl (by decide) (by decide) rfl flX11_210 dX11_now_5 (fun ld5 => ?_)
  rw [r31] at ld5 ⊢
  refine k_icmp_ge C (tgt := 38) dX11_now_8 rfl (by omega) (by omega) (fun c8 => ?_) (fun c8 => ?_)
  · refine k_aload_n C dX11_now_38 rfl rfl ?_
    refine k_getJ C 32 32 rfl okC11 rfl (by decide) (by decide) rfl flX11_207 dX11_now_39 (fun ld39 => ?_)
    rw [r32] at ld39 ⊢
    refine k_aload_n C dX11_now_42 rfl rfl ?_
    refine k_getJ C 31 31 rfl okC11 rfl (by decide) (by decide) rfl flX11_210 dX11_now_43 (fun ld43 => ?_)
    rw [r31] at ld43 ⊢
    refine k_icmp_ge C (tgt := 65) dX11_now_46 rfl (by omega) (by omega) (fun c46 => ?_) (fun c46 => ?_)
    · refine k_iconst C dX11_now_65 ?_
      exact k_iret C dX11_now_66 (by omega) (fun _ => by
        have es : skp (M 24) (M 0 31) 201 (M 0 32) = i := by rw [he2, if_neg (fun z => by have z1 := z.1; have z2 := z.2; omega)]
        rw [es]
        refine ⟨rfl, ?_⟩
        first | (rw [if_pos (by omega)]; done) | (rw [if_neg (by omega)]; done))
    · refine k_aload_n C dX11_now_49 rfl rfl ?_
      refine k_getR C (j := 29) okC11 rfl (by decide) (by decide) rfl flX11_80 dX11_now_50 ?_
      refine k_aload_n C dX11_now_53 rfl rfl ?_
      refine k_getJ C 32 32 rfl okC11 rfl (by decide) (by decide) rfl flX11_207 dX11_now_54 (fun ld54 => ?_)
      rw [r32] at ld54 ⊢
      refine k_baload C rfl (by decide) (by decide) ⟨by omega, by omega⟩ dX11_now_57 (fun ld57 => ?_)
      rw [r24] at ld57 ⊢
      refine k_sipush C dX11_now_58 (by decide) ?_
      refine k_iand255 C dX11_now_61 ?_
      refine k_goto C (tgt := 66) dX11_now_62 rfl ?_
      exact k_iret C dX11_now_66 (by omega) (fun _ => by
        have es : skp (M 24) (M 0 31) 201 (M 0 32) = i := by rw [he2, if_neg (fun z => by have z1 := z.1; have z2 := z.2; omega)]
        rw [es]
        refine ⟨rfl, ?_⟩
        first | (rw [if_pos (by omega)]; done) | (rw [if_neg (by omega)]; done))
  · refine k_aload_n C dX11_now_11 rfl rfl ?_
    refine k_getR C (j := 29) okC11 rfl (by decide) (by decide) rfl flX11_80 dX11_now_12 ?_
    refine k_aload_n C dX11_now_15 rfl rfl ?_
    refine k_getJ C 32 32 rfl okC11 rfl (by decide) (by decide) rfl flX11_207 dX11_now_16 (fun ld16 => ?_)
    rw [r32] at ld16 ⊢
    refine k_baload C rfl (by decide) (by decide) ⟨by omega, by omega⟩ dX11_now_19 (fun ld19 => ?_)
    rw [r24] at ld19 ⊢
    refine k_bipush C dX11_now_20 (by decide) ?_
    refine k_icmp_ne C (tgt := 38) dX11_now_22 rfl (by omega) (by omega) (fun c22 => ?_) (fun c22 => ?_)
    · refine k_aload_n C dX11_now_38 rfl rfl ?_
      refine k_getJ C 32 32 rfl okC11 rfl (by decide) (by decide) rfl flX11_207 dX11_now_39 (fun ld39 => ?_)
      rw [r32] at ld39 ⊢
      refine k_aload_n C dX11_now_42 rfl rfl ?_
      refine k_getJ C 31 31 rfl okC11 rfl (by decide) (by decide) rfl flX11_210 dX11_now_43 (fun ld43 => ?_)
      rw [r31] at ld43 ⊢
      refine k_icmp_ge C (tgt := 65) dX11_now_46 rfl (by omega) (by omega) (fun c46 => ?_) (fun c46 => ?_)
      · refine k_iconst C dX11_now_65 ?_
        exact k_iret C dX11_now_66 (by omega) (fun _ => by
        have es : skp (M 24) (M 0 31) 201 (M 0 32) = i := by rw [he2, if_neg (fun z => by have z1 := z.1; have z2 := z.2; omega)]
        rw [es]
        refine ⟨rfl, ?_⟩
        first | (rw [if_pos (by omega)]; done) | (rw [if_neg (by omega)]; done))
      · refine k_aload_n C dX11_now_49 rfl rfl ?_
        refine k_getR C (j := 29) okC11 rfl (by decide) (by decide) rfl flX11_80 dX11_now_50 ?_
        refine k_aload_n C dX11_now_53 rfl rfl ?_
        refine k_getJ C 32 32 rfl okC11 rfl (by decide) (by decide) rfl flX11_207 dX11_now_54 (fun ld54 => ?_)
        rw [r32] at ld54 ⊢
        refine k_baload C rfl (by decide) (by decide) ⟨by omega, by omega⟩ dX11_now_57 (fun ld57 => ?_)
        rw [r24] at ld57 ⊢
        refine k_sipush C dX11_now_58 (by decide) ?_
        refine k_iand255 C dX11_now_61 ?_
        refine k_goto C (tgt := 66) dX11_now_62 rfl ?_
        exact k_iret C dX11_now_66 (by omega) (fun _ => by
        have es : skp (M 24) (M 0 31) 201 (M 0 32) = i := by rw [he2, if_neg (fun z => by have z1 := z.1; have z2 := z.2; omega)]
        rw [es]
        refine ⟨rfl, ?_⟩
        first | (rw [if_pos (by omega)]; done) | (rw [if_neg (by omega)]; done))
    · refine k_aload_n C dX11_now_25 rfl rfl ?_
      refine k_dup C dX11_now_26 ?_
      refine k_getJ C 32 32 rfl okC11 rfl (by decide) (by decide) rfl flX11_207 dX11_now_27 (fun ld27 => ?_)
      rw [r32] at ld27 ⊢
      refine k_iconst C dX11_now_30 ?_
      refine k_iadd C dX11_now_31 ?_
      refine k_putJ C 32 32 rfl okC11 rfl (by decide) (by decide) rfl rfl rfl (by omega) flX11_207 dX11_now_32 ?_
      refine k_goto C (tgt := 0) dX11_now_35 rfl ?_
      refine k_cut2 C (lv' := [(0, _)]) ⟨rfl, trivial⟩ ?_
      rw [up_up]
      exact m_now bl M hs C (i + 1) (by omega) g (by omega) (by rw [he2, if_pos ⟨c8, c22⟩])
termination_by (M 0 31 - i).toNat
decreasing_by all_goals omega
set_option maxHeartbeats 4000000 in
set_option maxRecDepth 100000 in
theorem c_M_now (bl : Nat) (M : Mem) (hs : 0 ≤ M 0 32 ∧ M 0 32 ≤ M 0 31 ∧ M 0 31 ≤ 200) : Ct (shM bl) nM yX11_now cX11_now 1 (some .int) (lvl 0) [.inr 0] M (fun r M' => M' = up M 0 32 (skp (M 24) (M 0 31) 201 (M 0 32)) ∧ r = (if skp (M 24) (M 0 31) 201 (M 0 32) < M 0 31 then M 24 (skp (M 24) (M 0 31) 201 (M 0 32)) % 256 else 0)) := by
  refine Ct_of (by decide +kernel) (Nat.le_of_ble_eq_true rfl) (fun K C => ?_)
  have h := m_now bl M hs C (M 0 32) (by omega) 201 (by omega) rfl
  rw [up_self] at h
  exact h
set_option maxHeartbeats 4000000 in
set_option maxRecDepth 100000 in
theorem c_M_state (bl : Nat) (M : Mem) (hs : 0 ≤ M 0 44 ∧ M 0 44 ≤ 100000) : Ct (shM bl) nM yX11_state cX11_state 1 (some .int) (lvl 0) [.inr 0] M (fun r M' => r = M 0 44 ∧ M' = up M 0 44 (M 0 44 + 1)) := by
  refine Ct_of (by decide +kernel) (Nat.le_of_ble_eq_true rfl) (fun K C => ?_)
  refine k_aload_n C dX11_state_0 rfl rfl ?_
  refine k_dup C dX11_state_1 ?_
  refine k_getJ C 44 44 rfl okC11 rfl (by decide) (by decide) rfl flX11_216 dX11_state_2 (fun ld2 => ?_)
  refine k_iconst C dX11_state_5 ?_
  refine k_iadd C dX11_state_6 ?_
  refine k_putJ C 44 44 rfl okC11 rfl (by decide) (by decide) rfl rfl rfl (by omega) flX11_216 dX11_state_7 ?_
  refine k_aload_n C dX11_state_10 rfl rfl ?_
  refine k_getJ C 44 44 rfl okC11 rfl (by decide) (by decide) rfl flX11_216 dX11_state_11 (fun ld11 => ?_)
  rw [up_same]
  refine k_iconst C dX11_state_14 ?_
  refine k_isub C dX11_state_15 ?_
  exact k_iret C dX11_state_16 (by omega) (fun _ => ⟨by omega, rfl⟩)
set_option maxHeartbeats 4000000 in
set_option maxRecDepth 100000 in
theorem c_M_adds (bl : Nat) (M : Mem) (hs : 0 ≤ M 0 43 ∧ M 0 43 < 1200) (a b c : Int) (ha : inR a) (hb : inR b) (hc : inR c) : Ct (shM bl) nM yX11_adds cX11_adds 4 none (lvl 0) [.inr 0, .inl a, .inl b, .inl c] M (fun _ M' => M' = up (up (up (up M 28 (M 0 43) a) 29 (M 0 43) b) 30 (M 0 43) c) 0 43 (M 0 43 + 1)) := by
  refine Ct_of (by decide +kernel) (Nat.le_of_ble_eq_true rfl) (fun K C => ?_)
  refine k_aload_n C dX11_adds_0 rfl rfl ?_
  refine k_getR C (j := 40) okC11 rfl (by decide) (by decide) rfl flX11_93 dX11_adds_1 ?_
  refine k_aload_n C dX11_adds_4 rfl rfl ?_
  refine k_getJ C 43 43 rfl okC11 rfl (by decide) (by decide) rfl flX11_213 dX11_adds_5 (fun ld5 => ?_)
  refine k_iload_n C dX11_adds_8 rfl rfl ?_
  refine k_iastore C rfl (by decide) (by decide) ⟨by omega, by omega⟩ (by omega) dX11_adds_9 ?_
  refine k_aload_n C dX11_adds_10 rfl rfl ?_
  refine k_getR C (j := 41) okC11 rfl (by decide) (by decide) rfl flX11_96 dX11_adds_11 ?_
  refine k_aload_n C dX11_adds_14 rfl rfl ?_
  refine k_getJ C 43 43 rfl okC11 rfl (by decide) (by decide) rfl flX11_213 dX11_adds_15 (fun ld15 => ?_)
  rw [up_ne (show (0 : Nat) ≠ 28 by decide)]
  refine k_iload_n C dX11_adds_18 rfl rfl ?_
  refine k_iastore C rfl (by decide) (by decide) ⟨by omega, by omega⟩ (by omega) dX11_adds_19 ?_
  refine k_aload_n C dX11_adds_20 rfl rfl ?_
  refine k_getR C (j := 42) okC11 rfl (by decide) (by decide) rfl flX11_99 dX11_adds_21 ?_
  refine k_aload_n C dX11_adds_24 rfl rfl ?_
  refine k_getJ C 43 43 rfl okC11 rfl (by decide) (by decide) rfl flX11_213 dX11_adds_25 (fun ld25 => ?_)
  rw [up_ne (show (0 : Nat) ≠ 29 by decide), up_ne (show (0 : Nat) ≠ 28 by decide)]
  refine k_iload_n C dX11_adds_28 rfl rfl ?_
  refine k_iastore C rfl (by decide) (by decide) ⟨by omega, by omega⟩ (by omega) dX11_adds_29 ?_
  refine k_aload_n C dX11_adds_30 rfl rfl ?_
  refine k_dup C dX11_adds_31 ?_
  refine k_getJ C 43 43 rfl okC11 rfl (by decide) (by decide) rfl flX11_213 dX11_adds_32 (fun ld32 => ?_)
  rw [up_ne (show (0 : Nat) ≠ 30 by decide), up_ne (show (0 : Nat) ≠ 29 by decide), up_ne (show (0 : Nat) ≠ 28 by decide)]
  refine k_iconst C dX11_adds_35 ?_
  refine k_iadd C dX11_adds_36 ?_
  refine k_putJ C 43 43 rfl okC11 rfl (by decide) (by decide) rfl rfl rfl (by omega) flX11_213 dX11_adds_37 ?_
  exact k_vret C dX11_adds_40 (fun _ => rfl)
