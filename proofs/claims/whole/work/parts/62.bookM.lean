/-! THE REFERENCE: hand and rows. th0 M: nothing thrown -/

def th0 (M : Mem) : Mem := up M 0 0 0
theorem th0_f {M : Mem} {i : Int} (h : i ≠ 0) : th0 M 0 i = M 0 i := by unfold th0; rw [up_at, if_neg h]
theorem th0_c {M : Mem} {k : Nat} (h : k ≠ 0) : th0 M k = M k := up_ne h
theorem th0_0 {M : Mem} : th0 M 0 0 = 0 := up_same
theorem th0_H {M : Mem} (h : HdM M) : HdM (th0 M) := by
  unfold HdM; rw [th0_f (by decide), th0_c (by decide)]; exact h
theorem th0_L {M : Mem} (h : LwM M) : LwM (th0 M) := by
  unfold LwM; rw [th0_f (by decide), th0_c (by decide)]; exact h
abbrev BkM (M : Mem) : Prop := BkOk (M 0 7) (M 3) (M 4) (M 5) (M 2)
theorem th0_B {M : Mem} (h : BkM M) : BkM (th0 M) := by
  unfold BkM; rw [th0_f (by decide), th0_c (by decide), th0_c (by decide), th0_c (by decide), th0_c (by decide)]; exact h
set_option maxRecDepth 100000 in
theorem c_M_isCall (bl : Nat) (M : Mem) (c : Int) (hc : inR c) : Ct (shM bl) nM yX11_isCall cX11_isCall 1 (some .boolean) (lvl 0) [.inl c] M (fun r M' => M = M' ∧ ((r = 1 ∧ (0 ≤ c ∧ c < 8)) ∨ (r = 0 ∧ ¬ (0 ≤ c ∧ c < 8)))) := by
  refine Ct_of (by decide +kernel) (Nat.le_of_ble_eq_true rfl) (fun K C => ?_)
  refine k_iload_n C dX11_isCall_0 rfl rfl ?_
  refine k_if_lt C (tgt := 14) dX11_isCall_1 rfl (by omega) (fun c1 => ?_) (fun c1 => ?_)
  · refine k_iconst C dX11_isCall_14 ?_
    exact k_zret C dX11_isCall_15 (by omega) (fun _ => ⟨rfl, by omega⟩)
  · refine k_iload_n C dX11_isCall_4 rfl rfl ?_
    refine k_bipush C dX11_isCall_5 (by decide) ?_
    refine k_icmp_ge C (tgt := 14) dX11_isCall_7 rfl (by omega) (by omega) (fun c7 => ?_) (fun c7 => ?_)
    · refine k_iconst C dX11_isCall_14 ?_
      exact k_zret C dX11_isCall_15 (by omega) (fun _ => ⟨rfl, by omega⟩)
    · refine k_iconst C dX11_isCall_10 ?_
      refine k_goto C (tgt := 15) dX11_isCall_11 rfl ?_
      exact k_zret C dX11_isCall_15 (by omega) (fun _ => ⟨rfl, by omega⟩)
set_option maxRecDepth 100000 in
theorem c_M_thrown (bl : Nat) (M : Mem) : Ct (shM bl) nM yX11_thrown cX11_thrown 1 (some .int) (lvl 0) [.inr 0] M (fun r M' => M = M' ∧ r = M 0 0) := by
  refine Ct_of (by decide +kernel) (Nat.le_of_ble_eq_true rfl) (fun K C => ?_)
  refine k_aload_n C dX11_thrown_0 rfl rfl ?_
  refine k_getJ C 0 0 rfl okC11 rfl (by decide) (by decide) rfl flX11_133 dX11_thrown_1 (fun _ => ?_)
  exact k_iret C dX11_thrown_4 (by omega) (fun _ => ⟨rfl, rfl⟩)
set_option maxRecDepth 100000 in
theorem c_M_bad (bl : Nat) (M : Mem) (b w : Int) (hb : b = 0 ∨ b = 1) (hw : inR w) : Ct (shM bl) nM yX11_bad cX11_bad 3 (some .boolean) (lvl 0) [.inr 0, .inl b, .inl w] M (fun r M' => (b = 0 ∧ r = 0 ∧ M = M') ∨ (b = 1 ∧ r = 1 ∧ M' = up M 0 0 w)) := by
  refine Ct_of (by decide +kernel) (Nat.le_of_ble_eq_true rfl) (fun K C => ?_)
  refine k_iload_n C dX11_bad_0 rfl rfl ?_
  refine k_if_eq C (tgt := 9) dX11_bad_1 rfl (by omega) (fun c1 => ?_) (fun c1 => ?_)
  · refine k_iload_n C dX11_bad_9 rfl rfl ?_
    exact k_zret C dX11_bad_10 (by omega) (fun _ => by first | exact Or.inl ⟨c1, c1, rfl⟩ | exact Or.inr ⟨by omega, by omega, rfl⟩)
  · refine k_aload_n C dX11_bad_4 rfl rfl ?_
    refine k_iload_n C dX11_bad_5 rfl rfl ?_
    refine k_putJ C 0 0 rfl okC11 rfl (by decide) (by decide) rfl rfl rfl (by omega) flX11_133 dX11_bad_6 ?_
    refine k_iload_n C dX11_bad_9 rfl rfl ?_
    exact k_zret C dX11_bad_10 (by omega) (fun _ => by first | exact Or.inl ⟨c1, c1, rfl⟩ | exact Or.inr ⟨by omega, by omega, rfl⟩)
set_option maxRecDepth 100000 in
theorem m_push {K : Kt} (bl : Nat) (B : Mem) (hH : HdM B) (c : Int) (hc : inR c) (C : Ctx (shM bl) nM RX11 cX11_push 2 (some .int) (lvl 1) (fun r M' => (¬ (0 ≤ c ∧ c < 8) ∧ M' = up B 0 0 1) ∨ ((0 ≤ c ∧ c < 8) ∧ B 0 2 = 12 ∧ r = -1 ∧ B = M') ∨ ((0 ≤ c ∧ c < 8) ∧ B 0 2 < 12 ∧ r = B 0 2 + 1 ∧ M' = up (up B 1 (B 0 2) c) 0 2 (B 0 2 + 1))) K) : K 5 [(0, .inr 0), (1, .inl c)] [] B := by
  have h1 := hH.1; have h2 := hH.2.1
  refine k_aload_n C dX11_push_5 rfl rfl ?_
  refine k_iload_n C dX11_push_6 rfl rfl ?_
  refine k_callS C okX11_136 dX11_push_7 (c_M_isCall bl B c (by omega)) rfl (by decide) rfl (Nat.le_of_ble_eq_true rfl) (fun r7 M7 hr7 hp7 => ?_)
  obtain ⟨rfl, hp7⟩ := hp7
  refine k_if_ne C (tgt := 17) dX11_push_10 rfl (by omega) (fun c10 => ?_) (fun c10 => ?_)
  · refine k_iconst C dX11_push_17 ?_
    refine k_iconst C dX11_push_18 ?_
    refine k_callV C okX11_140 dX11_push_19 (c_M_bad bl B _ 1 (by omega) (by decide)) rfl rfl (by decide) rfl (by decide) rfl (Nat.le_of_ble_eq_true rfl) (fun r19 M19 hr19 hp19 => ?_)
    rcases hp19 with ⟨z, rfl, rfl⟩ | ⟨z, rfl, rfl⟩ <;> first | (exfalso; omega) | skip
    refine k_if_eq C (tgt := 27) dX11_push_22 rfl (by omega) (fun c22 => ?_) (fun c22 => ?_)
    · refine k_aload_n C dX11_push_27 rfl rfl ?_
      refine k_getJ C 2 2 rfl okC11 rfl (by decide) (by decide) rfl flX11_144 dX11_push_28 (fun _ => ?_)
      refine k_bipush C dX11_push_31 (by decide) ?_
      refine k_icmp_ne C (tgt := 38) dX11_push_33 rfl (by omega) (by omega) (fun c33 => ?_) (fun c33 => ?_)
      · refine k_aload_n C dX11_push_38 rfl rfl ?_
        refine k_getR C (j := 1) okC11 rfl (by decide) (by decide) rfl flX11_9 dX11_push_39 ?_
        refine k_aload_n C dX11_push_42 rfl rfl ?_
        refine k_getJ C 2 2 rfl okC11 rfl (by decide) (by decide) rfl flX11_144 dX11_push_43 (fun _ => ?_)
        refine k_iload_n C dX11_push_46 rfl rfl ?_
        refine k_iastore C rfl (by decide) (by decide) ⟨by omega, by omega⟩ (by omega) dX11_push_47 ?_
        refine k_aload_n C dX11_push_48 rfl rfl ?_
        refine k_dup C dX11_push_49 ?_
        refine k_getJ C 2 2 rfl okC11 rfl (by decide) (by decide) rfl flX11_144 dX11_push_50 (fun _ => ?_)
        rw [up_ne (show (0 : Nat) ≠ 1 by decide)]
        refine k_iconst C dX11_push_53 ?_
        refine k_iadd C dX11_push_54 ?_
        refine k_putJ C 2 2 rfl okC11 rfl (by decide) (by decide) rfl rfl rfl (by omega) flX11_144 dX11_push_55 ?_
        refine k_aload_n C dX11_push_58 rfl rfl ?_
        refine k_getJ C 2 2 rfl okC11 rfl (by decide) (by decide) rfl flX11_144 dX11_push_59 (fun _ => ?_)
        rw [up_same]
        exact k_iret C dX11_push_62 (by omega) (fun _ => by first | (exfalso; omega) | exact Or.inr (Or.inr ⟨by omega, by omega, rfl, rfl⟩))
      · refine k_iconst C dX11_push_36 ?_
        exact k_iret C dX11_push_37 (by omega) (fun _ => by first | (exfalso; omega) | exact Or.inr (Or.inl ⟨by omega, c33, rfl, rfl⟩))
    · refine k_iconst C dX11_push_25 ?_
      exact k_iret C dX11_push_26 (by omega) (fun _ => by first | (exfalso; omega) | exact Or.inl ⟨by omega, rfl⟩)
  · refine k_iconst C dX11_push_13 ?_
    refine k_goto C (tgt := 18) dX11_push_14 rfl ?_
    refine k_iconst C dX11_push_18 ?_
    refine k_callV C okX11_140 dX11_push_19 (c_M_bad bl B _ 1 (by omega) (by decide)) rfl rfl (by decide) rfl (by decide) rfl (Nat.le_of_ble_eq_true rfl) (fun r19 M19 hr19 hp19 => ?_)
    rcases hp19 with ⟨z, rfl, rfl⟩ | ⟨z, rfl, rfl⟩ <;> first | (exfalso; omega) | skip
    refine k_if_eq C (tgt := 27) dX11_push_22 rfl (by omega) (fun c22 => ?_) (fun c22 => ?_)
    · refine k_aload_n C dX11_push_27 rfl rfl ?_
      refine k_getJ C 2 2 rfl okC11 rfl (by decide) (by decide) rfl flX11_144 dX11_push_28 (fun _ => ?_)
      refine k_bipush C dX11_push_31 (by decide) ?_
      refine k_icmp_ne C (tgt := 38) dX11_push_33 rfl (by omega) (by omega) (fun c33 => ?_) (fun c33 => ?_)
      · refine k_aload_n C dX11_push_38 rfl rfl ?_
        refine k_getR C (j := 1) okC11 rfl (by decide) (by decide) rfl flX11_9 dX11_push_39 ?_
        refine k_aload_n C dX11_push_42 rfl rfl ?_
        refine k_getJ C 2 2 rfl okC11 rfl (by decide) (by decide) rfl flX11_144 dX11_push_43 (fun _ => ?_)
        refine k_iload_n C dX11_push_46 rfl rfl ?_
        refine k_iastore C rfl (by decide) (by decide) ⟨by omega, by omega⟩ (by omega) dX11_push_47 ?_
        refine k_aload_n C dX11_push_48 rfl rfl ?_
        refine k_dup C dX11_push_49 ?_
        refine k_getJ C 2 2 rfl okC11 rfl (by decide) (by decide) rfl flX11_144 dX11_push_50 (fun _ => ?_)
        rw [up_ne (show (0 : Nat) ≠ 1 by decide)]
        refine k_iconst C dX11_push_53 ?_
        refine k_iadd C dX11_push_54 ?_
        refine k_putJ C 2 2 rfl okC11 rfl (by decide) (by decide) rfl rfl rfl (by omega) flX11_144 dX11_push_55 ?_
        refine k_aload_n C dX11_push_58 rfl rfl ?_
        refine k_getJ C 2 2 rfl okC11 rfl (by decide) (by decide) rfl flX11_144 dX11_push_59 (fun _ => ?_)
        rw [up_same]
        exact k_iret C dX11_push_62 (by omega) (fun _ => by first | (exfalso; omega) | exact Or.inr (Or.inr ⟨by omega, by omega, rfl, rfl⟩))
      · refine k_iconst C dX11_push_36 ?_
        exact k_iret C dX11_push_37 (by omega) (fun _ => by first | (exfalso; omega) | exact Or.inr (Or.inl ⟨by omega, c33, rfl, rfl⟩))
    · refine k_iconst C dX11_push_25 ?_
      exact k_iret C dX11_push_26 (by omega) (fun _ => by first | (exfalso; omega) | exact Or.inl ⟨by omega, rfl⟩)
set_option maxRecDepth 100000 in
theorem c_M_push (bl : Nat) (M : Mem) (hH : HdM M) (c : Int) (hc : inR c) : Ct (shM bl) nM yX11_push cX11_push 2 (some .int) (lvl 1) [.inr 0, .inl c] M (fun r M' => (¬ (0 ≤ c ∧ c < 8) ∧ M' = up (th0 M) 0 0 1) ∨ ((0 ≤ c ∧ c < 8) ∧ (th0 M) 0 2 = 12 ∧ r = -1 ∧ (th0 M) = M') ∨ ((0 ≤ c ∧ c < 8) ∧ (th0 M) 0 2 < 12 ∧ r = (th0 M) 0 2 + 1 ∧ M' = up (up (th0 M) 1 ((th0 M) 0 2) c) 0 2 ((th0 M) 0 2 + 1))) := by
  refine Ct_of (by decide +kernel) (Nat.le_of_ble_eq_true rfl) (fun K C => ?_)
  refine k_aload_n C dX11_push_0 rfl rfl ?_
  refine k_iconst C dX11_push_1 ?_
  refine k_putJ C 0 0 rfl okC11 rfl (by decide) (by decide) rfl rfl rfl (by omega) flX11_133 dX11_push_2 ?_
  exact m_push bl (th0 M) (th0_H hH) c hc C
set_option maxRecDepth 100000 in
theorem m_empty {K : Kt} (bl : Nat) (B : Mem) (C : Ctx (shM bl) nM RX11 cX11_empty 2 (some .int) (lvl 0) (fun r M' => r = B 0 2 ∧ M' = up B 0 2 0) K) : K 5 [(0, .inr 0)] [] B := by
  refine k_aload_n C dX11_empty_5 rfl rfl ?_
  refine k_getJ C 2 2 rfl okC11 rfl (by decide) (by decide) rfl flX11_144 dX11_empty_6 (fun _ => ?_)
  refine k_istore_n C dX11_empty_9 rfl (by decide) ?_
  refine k_aload_n C dX11_empty_10 rfl rfl ?_
  refine k_iconst C dX11_empty_11 ?_
  refine k_putJ C 2 2 rfl okC11 rfl (by decide) (by decide) rfl rfl rfl (by omega) flX11_144 dX11_empty_12 ?_
  refine k_iload_n C dX11_empty_15 rfl rfl ?_
  exact k_iret C dX11_empty_16 (by omega) (fun _ => ⟨rfl, rfl⟩)
set_option maxRecDepth 100000 in
theorem c_M_empty (bl : Nat) (M : Mem) : Ct (shM bl) nM yX11_empty cX11_empty 2 (some .int) (lvl 0) [.inr 0] M (fun r M' => r = (th0 M) 0 2 ∧ M' = up (th0 M) 0 2 0) := by
  refine Ct_of (by decide +kernel) (Nat.le_of_ble_eq_true rfl) (fun K C => ?_)
  refine k_aload_n C dX11_empty_0 rfl rfl ?_
  refine k_iconst C dX11_empty_1 ?_
  refine k_putJ C 0 0 rfl okC11 rfl (by decide) (by decide) rfl rfl rfl (by omega) flX11_133 dX11_empty_2 ?_
  exact m_empty bl (th0 M) C
set_option maxRecDepth 100000 in
theorem m_hand {K : Kt} (bl : Nat) (B : Mem) (hH : HdM B) (i : Int) (hi : inR i) (C : Ctx (shM bl) nM RX11 cX11_hand 2 (some .int) (lvl 0) (fun r M' => B = M' ∧ r = if 0 ≤ i ∧ i < B 0 2 then B 1 i else -1) K) : K 5 [(0, .inr 0), (1, .inl i)] [] B := by
  have h1 := hH.1; have h2 := hH.2.1
  refine k_iload_n C dX11_hand_5 rfl rfl ?_
  refine k_if_lt C (tgt := 26) dX11_hand_6 rfl (by omega) (fun c6 => ?_) (fun c6 => ?_)
  · refine k_iconst C dX11_hand_26 ?_
    exact k_iret C dX11_hand_27 (by omega) (fun _ => ⟨rfl, by split <;> first | rfl | omega⟩)
  · refine k_iload_n C dX11_hand_9 rfl rfl ?_
    refine k_aload_n C dX11_hand_10 rfl rfl ?_
    refine k_getJ C 2 2 rfl okC11 rfl (by decide) (by decide) rfl flX11_144 dX11_hand_11 (fun _ => ?_)
    refine k_icmp_ge C (tgt := 26) dX11_hand_14 rfl (by omega) (by omega) (fun c14 => ?_) (fun c14 => ?_)
    · refine k_iconst C dX11_hand_26 ?_
      exact k_iret C dX11_hand_27 (by omega) (fun _ => ⟨rfl, by split <;> first | rfl | omega⟩)
    · refine k_aload_n C dX11_hand_17 rfl rfl ?_
      refine k_getR C (j := 1) okC11 rfl (by decide) (by decide) rfl flX11_9 dX11_hand_18 ?_
      refine k_iload_n C dX11_hand_21 rfl rfl ?_
      refine k_iaload C rfl (by decide) (by decide) ⟨by omega, by omega⟩ dX11_hand_22 (fun _ => ?_)
      refine k_goto C (tgt := 27) dX11_hand_23 rfl ?_
      exact k_iret C dX11_hand_27 (by omega) (fun _ => ⟨rfl, by split <;> first | rfl | omega⟩)
set_option maxRecDepth 100000 in
theorem c_M_hand (bl : Nat) (M : Mem) (hH : HdM M) (i : Int) (hi : inR i) : Ct (shM bl) nM yX11_hand cX11_hand 2 (some .int) (lvl 0) [.inr 0, .inl i] M (fun r M' => (th0 M) = M' ∧ r = if 0 ≤ i ∧ i < (th0 M) 0 2 then (th0 M) 1 i else -1) := by
  refine Ct_of (by decide +kernel) (Nat.le_of_ble_eq_true rfl) (fun K C => ?_)
  refine k_aload_n C dX11_hand_0 rfl rfl ?_
  refine k_iconst C dX11_hand_1 ?_
  refine k_putJ C 0 0 rfl okC11 rfl (by decide) (by decide) rfl rfl rfl (by omega) flX11_133 dX11_hand_2 ?_
  exact m_hand bl (th0 M) (th0_H hH) i hi C
set_option maxRecDepth 100000 in
theorem c_M_isRow (bl : Nat) (M : Mem) (hB : BkM M) (r0 : Int) (hr : inR r0) : Ct (shM bl) nM yX11_isRow cX11_isRow 2 (some .boolean) (lvl 0) [.inr 0, .inl r0] M (fun r M' => ((0 ≤ r0 ∧ r0 < M 0 7) ∧ r = 1 ∧ M' = th0 M) ∨ (¬ (0 ≤ r0 ∧ r0 < M 0 7) ∧ r = 0 ∧ M' = up M 0 0 1)) := by
  refine Ct_of (by decide +kernel) (Nat.le_of_ble_eq_true rfl) (fun K C => ?_)
  refine k_aload_n C dX11_isRow_0 rfl rfl ?_
  refine k_iload_n C dX11_isRow_1 rfl rfl ?_
  refine k_if_lt C (tgt := 13) dX11_isRow_2 rfl (by omega) (fun c2 => ?_) (fun c2 => ?_)
  · refine k_iconst C dX11_isRow_13 ?_
    refine k_goto C (tgt := 18) dX11_isRow_14 rfl ?_
    refine k_putJ C 0 0 rfl okC11 rfl (by decide) (by decide) rfl rfl rfl (by omega) flX11_133 dX11_isRow_18 ?_
    refine k_aload_n C dX11_isRow_21 rfl rfl ?_
    refine k_getJ C 0 0 rfl okC11 rfl (by decide) (by decide) rfl flX11_133 dX11_isRow_22 (fun _ => ?_)
    rw [up_same]
    refine k_if_ne C (tgt := 32) dX11_isRow_25 rfl (by omega) (fun c25 => ?_) (fun c25 => ?_)
    · refine k_iconst C dX11_isRow_32 ?_
      exact k_zret C dX11_isRow_33 (by omega) (fun _ => by first | (exfalso; omega) | exact Or.inl ⟨by omega, rfl, rfl⟩ | exact Or.inr ⟨by omega, rfl, rfl⟩)
    · refine k_iconst C dX11_isRow_28 ?_
      refine k_goto C (tgt := 33) dX11_isRow_29 rfl ?_
      exact k_zret C dX11_isRow_33 (by omega) (fun _ => by first | (exfalso; omega) | exact Or.inl ⟨by omega, rfl, rfl⟩ | exact Or.inr ⟨by omega, rfl, rfl⟩)
  · refine k_iload_n C dX11_isRow_5 rfl rfl ?_
    refine k_aload_n C dX11_isRow_6 rfl rfl ?_
    refine k_getJ C 7 7 rfl okC11 rfl (by decide) (by decide) rfl flX11_147 dX11_isRow_7 (fun _ => ?_)
    refine k_icmp_lt C (tgt := 17) dX11_isRow_10 rfl (by omega) (by omega) (fun c10 => ?_) (fun c10 => ?_)
    · refine k_iconst C dX11_isRow_17 ?_
      refine k_putJ C 0 0 rfl okC11 rfl (by decide) (by decide) rfl rfl rfl (by omega) flX11_133 dX11_isRow_18 ?_
      refine k_aload_n C dX11_isRow_21 rfl rfl ?_
      refine k_getJ C 0 0 rfl okC11 rfl (by decide) (by decide) rfl flX11_133 dX11_isRow_22 (fun _ => ?_)
      rw [up_same]
      refine k_if_ne C (tgt := 32) dX11_isRow_25 rfl (by omega) (fun c25 => ?_) (fun c25 => ?_)
      · refine k_iconst C dX11_isRow_32 ?_
        exact k_zret C dX11_isRow_33 (by omega) (fun _ => by first | (exfalso; omega) | exact Or.inl ⟨by omega, rfl, rfl⟩ | exact Or.inr ⟨by omega, rfl, rfl⟩)
      · refine k_iconst C dX11_isRow_28 ?_
        refine k_goto C (tgt := 33) dX11_isRow_29 rfl ?_
        exact k_zret C dX11_isRow_33 (by omega) (fun _ => by first | (exfalso; omega) | exact Or.inl ⟨by omega, rfl, rfl⟩ | exact Or.inr ⟨by omega, rfl, rfl⟩)
    · refine k_iconst C dX11_isRow_13 ?_
      refine k_goto C (tgt := 18) dX11_isRow_14 rfl ?_
      refine k_putJ C 0 0 rfl okC11 rfl (by decide) (by decide) rfl rfl rfl (by omega) flX11_133 dX11_isRow_18 ?_
      refine k_aload_n C dX11_isRow_21 rfl rfl ?_
      refine k_getJ C 0 0 rfl okC11 rfl (by decide) (by decide) rfl flX11_133 dX11_isRow_22 (fun _ => ?_)
      rw [up_same]
      refine k_if_ne C (tgt := 32) dX11_isRow_25 rfl (by omega) (fun c25 => ?_) (fun c25 => ?_)
      · refine k_iconst C dX11_isRow_32 ?_
        exact k_zret C dX11_isRow_33 (by omega) (fun _ => by first | (exfalso; omega) | exact Or.inl ⟨by omega, rfl, rfl⟩ | exact Or.inr ⟨by omega, rfl, rfl⟩)
      · refine k_iconst C dX11_isRow_28 ?_
        refine k_goto C (tgt := 33) dX11_isRow_29 rfl ?_
        exact k_zret C dX11_isRow_33 (by omega) (fun _ => by first | (exfalso; omega) | exact Or.inl ⟨by omega, rfl, rfl⟩ | exact Or.inr ⟨by omega, rfl, rfl⟩)
set_option maxRecDepth 100000 in
theorem c_M_drop (bl : Nat) (M : Mem) (hB : BkM M) (r0 : Int) (hr : inR r0) : Ct (shM bl) nM yX11_drop cX11_drop 3 (some .boolean) (lvl 1) [.inr 0, .inl r0] M (fun r M' => ((0 ≤ r0 ∧ r0 < M 0 7) ∧ r = M 5 r0 ∧ M' = up (th0 M) 5 r0 0) ∨ (¬ (0 ≤ r0 ∧ r0 < M 0 7) ∧ M' = up M 0 0 1)) := by
  refine Ct_of (by decide +kernel) (Nat.le_of_ble_eq_true rfl) (fun K C => ?_)
  have h1 := hB.1; have h2 := hB.2.1; have h3 := hB.2.2 r0
  refine k_aload_n C dX11_drop_0 rfl rfl ?_
  refine k_iload_n C dX11_drop_1 rfl rfl ?_
  refine k_callV C okX11_150 dX11_drop_2 (c_M_isRow bl M hB r0 hr) rfl rfl (by decide) rfl (by decide) rfl (Nat.le_of_ble_eq_true rfl) (fun r2 M2 hr2 hp2 => ?_)
  refine k_if_ne C (tgt := 10) dX11_drop_5 rfl (by omega) (fun c5 => ?_) (fun c5 => ?_)
  · have hv : 0 ≤ r0 ∧ r0 < M 0 7 ∧ M2 = th0 M := by rcases hp2 with ⟨z, y, x⟩ | ⟨z, y, x⟩; exact ⟨z.1, z.2, x⟩; exfalso; omega
    obtain ⟨v1, v2, rfl⟩ := hv
    have h3 := h3 v1 v2
    refine k_aload_n C dX11_drop_10 rfl rfl ?_
    refine k_getR C (j := 6) okC11 rfl (by decide) (by decide) rfl flX11_23 dX11_drop_11 ?_
    refine k_iload_n C dX11_drop_14 rfl rfl ?_
    refine k_zaload C rfl (by decide) (by decide) ⟨by omega, by omega⟩ dX11_drop_15 (fun _ => ?_)
    rw [th0_c (by decide)]
    refine k_istore_n C dX11_drop_16 rfl (by decide) ?_
    refine k_aload_n C dX11_drop_17 rfl rfl ?_
    refine k_getR C (j := 6) okC11 rfl (by decide) (by decide) rfl flX11_23 dX11_drop_18 ?_
    refine k_iload_n C dX11_drop_21 rfl rfl ?_
    refine k_iconst C dX11_drop_22 ?_
    refine k_zastore C rfl (by decide) (by decide) ⟨by omega, by omega⟩ (by omega) dX11_drop_23 ?_
    refine k_iload_n C dX11_drop_24 rfl rfl ?_
    exact k_zret C dX11_drop_25 (by omega) (fun _ => Or.inl ⟨⟨v1, v2⟩, rfl, rfl⟩)
  · refine k_iconst C dX11_drop_8 ?_
    exact k_zret C dX11_drop_9 (by omega) (fun _ => Or.inr (by rcases hp2 with ⟨z, y, x⟩ | ⟨z, y, x⟩; exfalso; omega; exact ⟨z, x⟩))
set_option maxRecDepth 100000 in
theorem m_quar {K : Kt} (bl : Nat) (M : Mem) (hB : BkM M) (w r0 : Int) (hw : 0 ≤ w ∧ w < M 0 7) (hr : 0 ≤ r0 ∧ r0 < M 0 7) (C : Ctx (shM bl) nM RX11 cX11_quarrels 5 (some .boolean) (lvl 0) (fun r M' => M = M' ∧ ((r = 1 ∧ qr (M 3) (M 4) (M 5) (M 2) w r0) ∨ (r = 0 ∧ ¬ qr (M 3) (M 4) (M 5) (M 2) w r0))) K) (b i : Int) (hi : 0 ≤ i ∧ i ≤ M 3 w) (hb : (b = 1 ∧ M 5 w = 1 ∧ M 4 w = 0 ∧ M 5 r0 = 1 ∧ M 4 r0 = 1 ∧ M 3 w ≤ M 3 r0 ∧ ∀ j, 0 ≤ j → j < i → M 2 (12 * r0 + j) = M 2 (12 * w + j)) ∨ (b = 0 ∧ ¬ qr (M 3) (M 4) (M 5) (M 2) w r0)) : K 60 [(0, .inr 0), (1, .inl w), (2, .inl r0), (3, .inl b), (4, .inl i)] [] M := by
  have h1 := hB.1; have h2 := hB.2.1; have hbw := hB.2.2 w hw.1 hw.2; have hbr := hB.2.2 r0 hr.1 hr.2
  have hb01 : b = 0 ∨ b = 1 := by rcases hb with z | z; exact Or.inr z.1; exact Or.inl z.1
  refine k_iload C dX11_quarrels_60 rfl ?_
  refine k_aload_n C dX11_quarrels_62 rfl rfl ?_
  refine k_getR C (j := 4) okC11 rfl (by decide) (by decide) rfl flX11_16 dX11_quarrels_63 ?_
  refine k_iload_n C dX11_quarrels_66 rfl rfl ?_
  refine k_iaload C rfl (by decide) (by decide) ⟨by omega, by omega⟩ dX11_quarrels_67 (fun _ => ?_)
  refine k_icmp_ge C (tgt := 114) dX11_quarrels_68 rfl (by omega) (by omega) (fun c68 => ?_) (fun c68 => ?_)
  · refine k_iload_n C dX11_quarrels_114 rfl rfl ?_
    exact k_zret C dX11_quarrels_115 (by omega) (fun _ => ⟨rfl, by rcases hb with z | z; exact Or.inl ⟨z.1, z.2.1, z.2.2.1, z.2.2.2.1, z.2.2.2.2.1, z.2.2.2.2.2.1, fun j y1 y2 => z.2.2.2.2.2.2 j y1 (by omega)⟩; exact Or.inr z⟩)
  · refine k_iload_n C dX11_quarrels_71 rfl rfl ?_
    refine k_if_eq C (tgt := 114) dX11_quarrels_72 rfl (by omega) (fun c72 => ?_) (fun c72 => ?_)
    · refine k_iload_n C dX11_quarrels_114 rfl rfl ?_
      exact k_zret C dX11_quarrels_115 (by omega) (fun _ => ⟨rfl, by rcases hb with z | z; exact Or.inl ⟨z.1, z.2.1, z.2.2.1, z.2.2.2.1, z.2.2.2.2.1, z.2.2.2.2.2.1, fun j y1 y2 => z.2.2.2.2.2.2 j y1 (by omega)⟩; exact Or.inr z⟩)
    · refine k_aload_n C dX11_quarrels_75 rfl rfl ?_
      refine k_getR C (j := 3) okC11 rfl (by decide) (by decide) rfl flX11_13 dX11_quarrels_76 ?_
      refine k_bipush C dX11_quarrels_79 (by decide) ?_
      refine k_iload_n C dX11_quarrels_81 rfl rfl ?_
      refine k_imul C dX11_quarrels_82 ?_
      refine k_iload C dX11_quarrels_83 rfl ?_
      refine k_iadd C dX11_quarrels_85 ?_
      refine k_iaload C rfl (by decide) (by decide) ⟨by omega, by omega⟩ dX11_quarrels_86 (fun _ => ?_)
      refine k_aload_n C dX11_quarrels_87 rfl rfl ?_
      refine k_getR C (j := 3) okC11 rfl (by decide) (by decide) rfl flX11_13 dX11_quarrels_88 ?_
      refine k_bipush C dX11_quarrels_91 (by decide) ?_
      refine k_iload_n C dX11_quarrels_93 rfl rfl ?_
      refine k_imul C dX11_quarrels_94 ?_
      refine k_iload C dX11_quarrels_95 rfl ?_
      refine k_iadd C dX11_quarrels_97 ?_
      refine k_iaload C rfl (by decide) (by decide) ⟨by omega, by omega⟩ dX11_quarrels_98 (fun _ => ?_)
      refine k_icmp_ne C (tgt := 106) dX11_quarrels_99 rfl (by omega) (by omega) (fun c99 => ?_) (fun c99 => ?_)
      · refine k_iconst C dX11_quarrels_106 ?_
        refine k_istore_n C dX11_quarrels_107 rfl (by decide) ?_
        refine k_iinc C dX11_quarrels_108 (by decide) rfl ?_
        refine k_goto C (tgt := 60) dX11_quarrels_111 rfl ?_
        refine k_cut2 C (lv' := [(0, _), (1, _), (2, _), (3, _), (4, _)]) ⟨rfl, rfl, rfl, rfl, rfl, trivial⟩ ?_
        rcases hb with z | z
        · refine m_quar bl M hB w r0 hw hr C _ (i + 1) (by omega) ?_
          first
          | exact Or.inl ⟨rfl, z.2.1, z.2.2.1, z.2.2.2.1, z.2.2.2.2.1, z.2.2.2.2.2.1, fun j y1 y2 => by by_cases e : j = i; rw [e]; omega; exact z.2.2.2.2.2.2 j y1 (by omega)⟩
          | exact Or.inr ⟨rfl, fun q => c99 (q.2.2.2.2.2 i hi.1 c68).symm⟩
        · exfalso; omega
      · refine k_iconst C dX11_quarrels_102 ?_
        refine k_goto C (tgt := 107) dX11_quarrels_103 rfl ?_
        refine k_istore_n C dX11_quarrels_107 rfl (by decide) ?_
        refine k_iinc C dX11_quarrels_108 (by decide) rfl ?_
        refine k_goto C (tgt := 60) dX11_quarrels_111 rfl ?_
        refine k_cut2 C (lv' := [(0, _), (1, _), (2, _), (3, _), (4, _)]) ⟨rfl, rfl, rfl, rfl, rfl, trivial⟩ ?_
        rcases hb with z | z
        · refine m_quar bl M hB w r0 hw hr C _ (i + 1) (by omega) ?_
          first
          | exact Or.inl ⟨rfl, z.2.1, z.2.2.1, z.2.2.2.1, z.2.2.2.2.1, z.2.2.2.2.2.1, fun j y1 y2 => by by_cases e : j = i; rw [e]; omega; exact z.2.2.2.2.2.2 j y1 (by omega)⟩
          | exact Or.inr ⟨rfl, fun q => c99 (q.2.2.2.2.2 i hi.1 c68).symm⟩
        · exfalso; omega
termination_by (M 3 w - i).toNat
decreasing_by all_goals omega
set_option maxRecDepth 100000 in
theorem c_M_quarrels (bl : Nat) (M : Mem) (hB : BkM M) (w r0 : Int) (hw : 0 ≤ w ∧ w < M 0 7) (hr : 0 ≤ r0 ∧ r0 < M 0 7) : Ct (shM bl) nM yX11_quarrels cX11_quarrels 5 (some .boolean) (lvl 0) [.inr 0, .inl w, .inl r0] M (fun r M' => M = M' ∧ ((r = 1 ∧ qr (M 3) (M 4) (M 5) (M 2) w r0) ∨ (r = 0 ∧ ¬ qr (M 3) (M 4) (M 5) (M 2) w r0))) := by
  refine Ct_of (by decide +kernel) (Nat.le_of_ble_eq_true rfl) (fun K C => ?_)
  have h1 := hB.1; have h2 := hB.2.1; have hbw := hB.2.2 w hw.1 hw.2; have hbr := hB.2.2 r0 hr.1 hr.2
  refine k_aload_n C dX11_quarrels_0 rfl rfl ?_
  refine k_getR C (j := 6) okC11 rfl (by decide) (by decide) rfl flX11_23 dX11_quarrels_1 ?_
  refine k_iload_n C dX11_quarrels_4 rfl rfl ?_
  refine k_zaload C rfl (by decide) (by decide) ⟨by omega, by omega⟩ dX11_quarrels_5 (fun _ => ?_)
  refine k_if_eq C (tgt := 55) dX11_quarrels_6 rfl (by omega) (fun c6 => ?_) (fun c6 => ?_)
  · refine k_iconst C dX11_quarrels_55 ?_
    refine k_istore_n C dX11_quarrels_56 rfl (by decide) ?_
    refine k_iconst C dX11_quarrels_57 ?_
    refine k_istore C dX11_quarrels_58 (by decide) ?_
    refine k_cut2 C (lv' := [(0, _), (1, _), (2, _), (3, _), (4, _)]) ⟨rfl, rfl, rfl, rfl, rfl, trivial⟩ ?_
    refine m_quar bl M hB w r0 hw hr C _ 0 (by omega) ?_
    first
    | exact Or.inl ⟨rfl, by omega, by omega, by omega, by omega, by omega, fun j y1 y2 => by omega⟩
    | exact Or.inr ⟨rfl, fun q => by have q1 := q.1; have q2 := q.2.1; have q3 := q.2.2.1; have q4 := q.2.2.2.1; have q5 := q.2.2.2.2.1; omega⟩
  · refine k_aload_n C dX11_quarrels_9 rfl rfl ?_
    refine k_getR C (j := 6) okC11 rfl (by decide) (by decide) rfl flX11_23 dX11_quarrels_10 ?_
    refine k_iload_n C dX11_quarrels_13 rfl rfl ?_
    refine k_zaload C rfl (by decide) (by decide) ⟨by omega, by omega⟩ dX11_quarrels_14 (fun _ => ?_)
    refine k_if_eq C (tgt := 55) dX11_quarrels_15 rfl (by omega) (fun c15 => ?_) (fun c15 => ?_)
    · refine k_iconst C dX11_quarrels_55 ?_
      refine k_istore_n C dX11_quarrels_56 rfl (by decide) ?_
      refine k_iconst C dX11_quarrels_57 ?_
      refine k_istore C dX11_quarrels_58 (by decide) ?_
      refine k_cut2 C (lv' := [(0, _), (1, _), (2, _), (3, _), (4, _)]) ⟨rfl, rfl, rfl, rfl, rfl, trivial⟩ ?_
      refine m_quar bl M hB w r0 hw hr C _ 0 (by omega) ?_
      first
      | exact Or.inl ⟨rfl, by omega, by omega, by omega, by omega, by omega, fun j y1 y2 => by omega⟩
      | exact Or.inr ⟨rfl, fun q => by have q1 := q.1; have q2 := q.2.1; have q3 := q.2.2.1; have q4 := q.2.2.2.1; have q5 := q.2.2.2.2.1; omega⟩
    · refine k_aload_n C dX11_quarrels_18 rfl rfl ?_
      refine k_getR C (j := 5) okC11 rfl (by decide) (by decide) rfl flX11_19 dX11_quarrels_19 ?_
      refine k_iload_n C dX11_quarrels_22 rfl rfl ?_
      refine k_zaload C rfl (by decide) (by decide) ⟨by omega, by omega⟩ dX11_quarrels_23 (fun _ => ?_)
      refine k_if_ne C (tgt := 55) dX11_quarrels_24 rfl (by omega) (fun c24 => ?_) (fun c24 => ?_)
      · refine k_iconst C dX11_quarrels_55 ?_
        refine k_istore_n C dX11_quarrels_56 rfl (by decide) ?_
        refine k_iconst C dX11_quarrels_57 ?_
        refine k_istore C dX11_quarrels_58 (by decide) ?_
        refine k_cut2 C (lv' := [(0, _), (1, _), (2, _), (3, _), (4, _)]) ⟨rfl, rfl, rfl, rfl, rfl, trivial⟩ ?_
        refine m_quar bl M hB w r0 hw hr C _ 0 (by omega) ?_
        first
        | exact Or.inl ⟨rfl, by omega, by omega, by omega, by omega, by omega, fun j y1 y2 => by omega⟩
        | exact Or.inr ⟨rfl, fun q => by have q1 := q.1; have q2 := q.2.1; have q3 := q.2.2.1; have q4 := q.2.2.2.1; have q5 := q.2.2.2.2.1; omega⟩
      · refine k_aload_n C dX11_quarrels_27 rfl rfl ?_
        refine k_getR C (j := 5) okC11 rfl (by decide) (by decide) rfl flX11_19 dX11_quarrels_28 ?_
        refine k_iload_n C dX11_quarrels_31 rfl rfl ?_
        refine k_zaload C rfl (by decide) (by decide) ⟨by omega, by omega⟩ dX11_quarrels_32 (fun _ => ?_)
        refine k_if_eq C (tgt := 55) dX11_quarrels_33 rfl (by omega) (fun c33 => ?_) (fun c33 => ?_)
        · refine k_iconst C dX11_quarrels_55 ?_
          refine k_istore_n C dX11_quarrels_56 rfl (by decide) ?_
          refine k_iconst C dX11_quarrels_57 ?_
          refine k_istore C dX11_quarrels_58 (by decide) ?_
          refine k_cut2 C (lv' := [(0, _), (1, _), (2, _), (3, _), (4, _)]) ⟨rfl, rfl, rfl, rfl, rfl, trivial⟩ ?_
          refine m_quar bl M hB w r0 hw hr C _ 0 (by omega) ?_
          first
          | exact Or.inl ⟨rfl, by omega, by omega, by omega, by omega, by omega, fun j y1 y2 => by omega⟩
          | exact Or.inr ⟨rfl, fun q => by have q1 := q.1; have q2 := q.2.1; have q3 := q.2.2.1; have q4 := q.2.2.2.1; have q5 := q.2.2.2.2.1; omega⟩
        · refine k_aload_n C dX11_quarrels_36 rfl rfl ?_
          refine k_getR C (j := 4) okC11 rfl (by decide) (by decide) rfl flX11_16 dX11_quarrels_37 ?_
          refine k_iload_n C dX11_quarrels_40 rfl rfl ?_
          refine k_iaload C rfl (by decide) (by decide) ⟨by omega, by omega⟩ dX11_quarrels_41 (fun _ => ?_)
          refine k_aload_n C dX11_quarrels_42 rfl rfl ?_
          refine k_getR C (j := 4) okC11 rfl (by decide) (by decide) rfl flX11_16 dX11_quarrels_43 ?_
          refine k_iload_n C dX11_quarrels_46 rfl rfl ?_
          refine k_iaload C rfl (by decide) (by decide) ⟨by omega, by omega⟩ dX11_quarrels_47 (fun _ => ?_)
          refine k_icmp_gt C (tgt := 55) dX11_quarrels_48 rfl (by omega) (by omega) (fun c48 => ?_) (fun c48 => ?_)
          · refine k_iconst C dX11_quarrels_55 ?_
            refine k_istore_n C dX11_quarrels_56 rfl (by decide) ?_
            refine k_iconst C dX11_quarrels_57 ?_
            refine k_istore C dX11_quarrels_58 (by decide) ?_
            refine k_cut2 C (lv' := [(0, _), (1, _), (2, _), (3, _), (4, _)]) ⟨rfl, rfl, rfl, rfl, rfl, trivial⟩ ?_
            refine m_quar bl M hB w r0 hw hr C _ 0 (by omega) ?_
            first
            | exact Or.inl ⟨rfl, by omega, by omega, by omega, by omega, by omega, fun j y1 y2 => by omega⟩
            | exact Or.inr ⟨rfl, fun q => by have q1 := q.1; have q2 := q.2.1; have q3 := q.2.2.1; have q4 := q.2.2.2.1; have q5 := q.2.2.2.2.1; omega⟩
          · refine k_iconst C dX11_quarrels_51 ?_
            refine k_goto C (tgt := 56) dX11_quarrels_52 rfl ?_
            refine k_istore_n C dX11_quarrels_56 rfl (by decide) ?_
            refine k_iconst C dX11_quarrels_57 ?_
            refine k_istore C dX11_quarrels_58 (by decide) ?_
            refine k_cut2 C (lv' := [(0, _), (1, _), (2, _), (3, _), (4, _)]) ⟨rfl, rfl, rfl, rfl, rfl, trivial⟩ ?_
            refine m_quar bl M hB w r0 hw hr C _ 0 (by omega) ?_
            first
            | exact Or.inl ⟨rfl, by omega, by omega, by omega, by omega, by omega, fun j y1 y2 => by omega⟩
            | exact Or.inr ⟨rfl, fun q => by have q1 := q.1; have q2 := q.2.1; have q3 := q.2.2.1; have q4 := q.2.2.2.1; have q5 := q.2.2.2.2.1; omega⟩
set_option maxRecDepth 100000 in
theorem m_cutOf {K : Kt} (bl : Nat) (M : Mem) (hB : BkM M) (r0 : Int) (hr : 0 ≤ r0 ∧ r0 < M 0 7) (C : Ctx (shM bl) nM RX11 cX11_cutOf 4 (some .int) (lvl 1) (fun r M' => M = M' ∧ r = cutI (M 3) (M 4) (M 5) (M 2) r0 (M 0 7)) K) (w n : Int) (hw : 0 ≤ w ∧ w ≤ M 0 7) (hn : n = cutI (M 3) (M 4) (M 5) (M 2) r0 w) : K 9 [(0, .inr 0), (1, .inl r0), (2, .inl n), (3, .inl w)] [] M := by
  have h1 := hB.1; have h2 := hB.2.1; have hbr := hB.2.2 r0 hr.1 hr.2
  have hcr := cutI_rg hB hr.1 hr.2 hw.1 hw.2
  have hbw := hB.2.2 w hw.1
  refine k_iload_n C dX11_cutOf_9 rfl rfl ?_
  refine k_aload_n C dX11_cutOf_10 rfl rfl ?_
  refine k_getJ C 7 7 rfl okC11 rfl (by decide) (by decide) rfl flX11_147 dX11_cutOf_11 (fun _ => ?_)
  refine k_icmp_ge C (tgt := 53) dX11_cutOf_14 rfl (by omega) (by omega) (fun c14 => ?_) (fun c14 => ?_)
  · refine k_iload_n C dX11_cutOf_53 rfl rfl ?_
    exact k_iret C dX11_cutOf_54 (by omega) (fun _ => ⟨rfl, by rw [hn]; congr 1; omega⟩)
  · refine k_aload_n C dX11_cutOf_17 rfl rfl ?_
    refine k_iload_n C dX11_cutOf_18 rfl rfl ?_
    refine k_iload_n C dX11_cutOf_19 rfl rfl ?_
    refine k_callV C okX11_153 dX11_cutOf_20 (c_M_quarrels bl M hB w r0 (by omega) hr) rfl rfl (by decide) rfl (by decide) rfl (Nat.le_of_ble_eq_true rfl) (fun r20 M20 hr20 hp20 => ?_)
    obtain ⟨rfl, hp20⟩ := hp20
    have hbw := hbw c14
    refine k_if_eq C (tgt := 47) dX11_cutOf_23 rfl (by omega) (fun c23 => ?_) (fun c23 => ?_)
    · refine k_iinc C dX11_cutOf_47 (by decide) rfl ?_
      refine k_goto C (tgt := 9) dX11_cutOf_50 rfl ?_
      refine k_cut2 C (lv' := [(0, _), (1, _), (2, _), (3, _)]) ⟨rfl, rfl, rfl, rfl, trivial⟩ ?_
      refine m_cutOf bl M hB r0 hr C (w + 1) _ (by omega) ?_
      rw [cutI_s _ _ _ _ _ hw.1]
      first
      | (rw [iteP_pos ⟨by rcases hp20 with z | z; exact z.2; omega, by omega⟩]; done)
      | (rw [iteP_neg (fun q => by have := q.2; omega)]; exact hn)
      | (rw [iteP_neg (fun q => by rcases hp20 with z | z; omega; exact z.2 q.1)]; exact hn)
    · refine k_aload_n C dX11_cutOf_26 rfl rfl ?_
      refine k_getR C (j := 4) okC11 rfl (by decide) (by decide) rfl flX11_16 dX11_cutOf_27 ?_
      refine k_iload_n C dX11_cutOf_30 rfl rfl ?_
      refine k_iaload C rfl (by decide) (by decide) ⟨by omega, by omega⟩ dX11_cutOf_31 (fun _ => ?_)
      refine k_iconst C dX11_cutOf_32 ?_
      refine k_isub C dX11_cutOf_33 ?_
      refine k_iload_n C dX11_cutOf_34 rfl rfl ?_
      refine k_icmp_ge C (tgt := 47) dX11_cutOf_35 rfl (by omega) (by omega) (fun c35 => ?_) (fun c35 => ?_)
      · refine k_iinc C dX11_cutOf_47 (by decide) rfl ?_
        refine k_goto C (tgt := 9) dX11_cutOf_50 rfl ?_
        refine k_cut2 C (lv' := [(0, _), (1, _), (2, _), (3, _)]) ⟨rfl, rfl, rfl, rfl, trivial⟩ ?_
        refine m_cutOf bl M hB r0 hr C (w + 1) _ (by omega) ?_
        rw [cutI_s _ _ _ _ _ hw.1]
        first
        | (rw [iteP_pos ⟨by rcases hp20 with z | z; exact z.2; omega, by omega⟩]; done)
        | (rw [iteP_neg (fun q => by have := q.2; omega)]; exact hn)
        | (rw [iteP_neg (fun q => by rcases hp20 with z | z; omega; exact z.2 q.1)]; exact hn)
      · refine k_aload_n C dX11_cutOf_38 rfl rfl ?_
        refine k_getR C (j := 4) okC11 rfl (by decide) (by decide) rfl flX11_16 dX11_cutOf_39 ?_
        refine k_iload_n C dX11_cutOf_42 rfl rfl ?_
        refine k_iaload C rfl (by decide) (by decide) ⟨by omega, by omega⟩ dX11_cutOf_43 (fun _ => ?_)
        refine k_iconst C dX11_cutOf_44 ?_
        refine k_isub C dX11_cutOf_45 ?_
        refine k_istore_n C dX11_cutOf_46 rfl (by decide) ?_
        refine k_iinc C dX11_cutOf_47 (by decide) rfl ?_
        refine k_goto C (tgt := 9) dX11_cutOf_50 rfl ?_
        refine k_cut2 C (lv' := [(0, _), (1, _), (2, _), (3, _)]) ⟨rfl, rfl, rfl, rfl, trivial⟩ ?_
        refine m_cutOf bl M hB r0 hr C (w + 1) _ (by omega) ?_
        rw [cutI_s _ _ _ _ _ hw.1]
        first
        | (rw [iteP_pos ⟨by rcases hp20 with z | z; exact z.2; omega, by omega⟩]; done)
        | (rw [iteP_neg (fun q => by have := q.2; omega)]; exact hn)
        | (rw [iteP_neg (fun q => by rcases hp20 with z | z; omega; exact z.2 q.1)]; exact hn)
termination_by (M 0 7 - w).toNat
decreasing_by all_goals omega
set_option maxRecDepth 100000 in
theorem c_M_cutOf (bl : Nat) (M : Mem) (hB : BkM M) (r0 : Int) (hr : 0 ≤ r0 ∧ r0 < M 0 7) : Ct (shM bl) nM yX11_cutOf cX11_cutOf 4 (some .int) (lvl 1) [.inr 0, .inl r0] M (fun r M' => M = M' ∧ r = cutI (M 3) (M 4) (M 5) (M 2) r0 (M 0 7)) := by
  refine Ct_of (by decide +kernel) (Nat.le_of_ble_eq_true rfl) (fun K C => ?_)
  have h1 := hB.1; have h2 := hB.2.1; have hbr := hB.2.2 r0 hr.1 hr.2
  refine k_aload_n C dX11_cutOf_0 rfl rfl ?_
  refine k_getR C (j := 4) okC11 rfl (by decide) (by decide) rfl flX11_16 dX11_cutOf_1 ?_
  refine k_iload_n C dX11_cutOf_4 rfl rfl ?_
  refine k_iaload C rfl (by decide) (by decide) ⟨by omega, by omega⟩ dX11_cutOf_5 (fun _ => ?_)
  refine k_istore_n C dX11_cutOf_6 rfl (by decide) ?_
  refine k_iconst C dX11_cutOf_7 ?_
  refine k_istore_n C dX11_cutOf_8 rfl (by decide) ?_
  refine k_cut2 C (lv' := [(0, _), (1, _), (2, _), (3, _)]) ⟨rfl, rfl, rfl, rfl, trivial⟩ ?_
  exact m_cutOf bl M hB r0 hr C 0 _ (by omega) rfl
set_option maxRecDepth 100000 in
theorem m_leftOut {K : Kt} (bl : Nat) (M : Mem) (hB : BkM M) (w : Int) (hw : 0 ≤ w ∧ w < M 0 7) (C : Ctx (shM bl) nM RX11 cX11_isLeftOut 4 (some .boolean) (lvl 1) (fun r M' => M = M' ∧ ((r = 1 ∧ lof (M 0 7) (M 3) (M 4) (M 5) (M 2) w) ∨ (r = 0 ∧ ¬ lof (M 0 7) (M 3) (M 4) (M 5) (M 2) w))) K) (b r0 : Int) (hr : 0 ≤ r0 ∧ r0 ≤ M 0 7) (hb : (b = 1 ∧ ∃ j, 0 ≤ j ∧ j < r0 ∧ qr (M 3) (M 4) (M 5) (M 2) w j) ∨ (b = 0 ∧ ∀ j, 0 ≤ j → j < r0 → ¬ qr (M 3) (M 4) (M 5) (M 2) w j)) : K 4 [(0, .inr 0), (1, .inl w), (2, .inl b), (3, .inl r0)] [] M := by
  have h1 := hB.1; have h2 := hB.2.1
  have hb01 : b = 0 ∨ b = 1 := by rcases hb with z | z; exact Or.inr z.1; exact Or.inl z.1
  refine k_iload_n C dX11_isLeftOut_4 rfl rfl ?_
  refine k_aload_n C dX11_isLeftOut_5 rfl rfl ?_
  refine k_getJ C 7 7 rfl okC11 rfl (by decide) (by decide) rfl flX11_147 dX11_isLeftOut_6 (fun _ => ?_)
  refine k_icmp_ge C (tgt := 37) dX11_isLeftOut_9 rfl (by omega) (by omega) (fun c9 => ?_) (fun c9 => ?_)
  · refine k_iload_n C dX11_isLeftOut_37 rfl rfl ?_
    exact k_zret C dX11_isLeftOut_38 (by omega) (fun _ => ⟨rfl, by rcases hb with z | z; exact Or.inl ⟨z.1, by obtain ⟨_, j, y1, y2, y3⟩ := z; exact ⟨j, y1, by omega, y3⟩⟩; exact Or.inr ⟨z.1, fun ⟨j, y1, y2, y3⟩ => z.2 j y1 (by omega) y3⟩⟩)
  · refine k_iload_n C dX11_isLeftOut_12 rfl rfl ?_
    refine k_if_ne C (tgt := 25) dX11_isLeftOut_13 rfl (by omega) (fun c13 => ?_) (fun c13 => ?_)
    · refine k_iconst C dX11_isLeftOut_25 ?_
      refine k_goto C (tgt := 30) dX11_isLeftOut_26 rfl ?_
      refine k_istore_n C dX11_isLeftOut_30 rfl (by decide) ?_
      refine k_iinc C dX11_isLeftOut_31 (by decide) rfl ?_
      refine k_goto C (tgt := 4) dX11_isLeftOut_34 rfl ?_
      refine k_cut2 C (lv' := [(0, _), (1, _), (2, _), (3, _)]) ⟨rfl, rfl, rfl, rfl, trivial⟩ ?_
      refine m_leftOut bl M hB w hw C _ (r0 + 1) (by omega) ?_
      first
      | (rcases hb with z | z
         · obtain ⟨z1, j, y1, y2, y3⟩ := z; exact Or.inl ⟨rfl, j, y1, by omega, y3⟩
         · exfalso; omega)
      | exact Or.inl ⟨rfl, r0, hr.1, by omega, by rcases hp19 with z | z; exact z.2; omega⟩
      | (rcases hb with z | z
         · exfalso; omega
         · exact Or.inr ⟨rfl, fun j y1 y2 q => by by_cases e : j = r0; (subst e; rcases hp19 with x | x; omega; exact x.2 q); exact z.2 j y1 (by omega) q⟩)
    · refine k_aload_n C dX11_isLeftOut_16 rfl rfl ?_
      refine k_iload_n C dX11_isLeftOut_17 rfl rfl ?_
      refine k_iload_n C dX11_isLeftOut_18 rfl rfl ?_
      refine k_callV C okX11_153 dX11_isLeftOut_19 (c_M_quarrels bl M hB w r0 hw (by omega)) rfl rfl (by decide) rfl (by decide) rfl (Nat.le_of_ble_eq_true rfl) (fun r19 M19 hr19 hp19 => ?_)
      obtain ⟨rfl, hp19⟩ := hp19
      refine k_if_eq C (tgt := 29) dX11_isLeftOut_22 rfl (by omega) (fun c22 => ?_) (fun c22 => ?_)
      · refine k_iconst C dX11_isLeftOut_29 ?_
        refine k_istore_n C dX11_isLeftOut_30 rfl (by decide) ?_
        refine k_iinc C dX11_isLeftOut_31 (by decide) rfl ?_
        refine k_goto C (tgt := 4) dX11_isLeftOut_34 rfl ?_
        refine k_cut2 C (lv' := [(0, _), (1, _), (2, _), (3, _)]) ⟨rfl, rfl, rfl, rfl, trivial⟩ ?_
        refine m_leftOut bl M hB w hw C _ (r0 + 1) (by omega) ?_
        first
        | (rcases hb with z | z
           · obtain ⟨z1, j, y1, y2, y3⟩ := z; exact Or.inl ⟨rfl, j, y1, by omega, y3⟩
           · exfalso; omega)
        | exact Or.inl ⟨rfl, r0, hr.1, by omega, by rcases hp19 with z | z; exact z.2; omega⟩
        | (rcases hb with z | z
           · exfalso; omega
           · exact Or.inr ⟨rfl, fun j y1 y2 q => by by_cases e : j = r0; (subst e; rcases hp19 with x | x; omega; exact x.2 q); exact z.2 j y1 (by omega) q⟩)
      · refine k_iconst C dX11_isLeftOut_25 ?_
        refine k_goto C (tgt := 30) dX11_isLeftOut_26 rfl ?_
        refine k_istore_n C dX11_isLeftOut_30 rfl (by decide) ?_
        refine k_iinc C dX11_isLeftOut_31 (by decide) rfl ?_
        refine k_goto C (tgt := 4) dX11_isLeftOut_34 rfl ?_
        refine k_cut2 C (lv' := [(0, _), (1, _), (2, _), (3, _)]) ⟨rfl, rfl, rfl, rfl, trivial⟩ ?_
        refine m_leftOut bl M hB w hw C _ (r0 + 1) (by omega) ?_
        first
        | (rcases hb with z | z
           · obtain ⟨z1, j, y1, y2, y3⟩ := z; exact Or.inl ⟨rfl, j, y1, by omega, y3⟩
           · exfalso; omega)
        | exact Or.inl ⟨rfl, r0, hr.1, by omega, by rcases hp19 with z | z; exact z.2; omega⟩
        | (rcases hb with z | z
           · exfalso; omega
           · exact Or.inr ⟨rfl, fun j y1 y2 q => by by_cases e : j = r0; (subst e; rcases hp19 with x | x; omega; exact x.2 q); exact z.2 j y1 (by omega) q⟩)
termination_by (M 0 7 - r0).toNat
decreasing_by all_goals omega
set_option maxRecDepth 100000 in
theorem c_M_isLeftOut (bl : Nat) (M : Mem) (hB : BkM M) (w : Int) (hw : 0 ≤ w ∧ w < M 0 7) : Ct (shM bl) nM yX11_isLeftOut cX11_isLeftOut 4 (some .boolean) (lvl 1) [.inr 0, .inl w] M (fun r M' => M = M' ∧ ((r = 1 ∧ lof (M 0 7) (M 3) (M 4) (M 5) (M 2) w) ∨ (r = 0 ∧ ¬ lof (M 0 7) (M 3) (M 4) (M 5) (M 2) w))) := by
  refine Ct_of (by decide +kernel) (Nat.le_of_ble_eq_true rfl) (fun K C => ?_)
  have h1 := hB.1
  refine k_iconst C dX11_isLeftOut_0 ?_
  refine k_istore_n C dX11_isLeftOut_1 rfl (by decide) ?_
  refine k_iconst C dX11_isLeftOut_2 ?_
  refine k_istore_n C dX11_isLeftOut_3 rfl (by decide) ?_
  refine k_cut2 C (lv' := [(0, _), (1, _), (2, _), (3, _)]) ⟨rfl, rfl, rfl, rfl, trivial⟩ ?_
  exact m_leftOut bl M hB w hw C 0 0 (by omega) (Or.inr ⟨rfl, fun j y1 y2 => by omega⟩)
