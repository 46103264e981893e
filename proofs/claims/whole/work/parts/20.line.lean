/-! UsageDesk$Line: k the line, c its cells, n their number -/
theorem ln_ne {k c n : Nat} (hs : shC k = .inr (5, [some c, none])) (hsc : shC c = .inl (.int, n)) : k ≠ c := by
  intro h; subst h; rw [hs] at hsc; cases hsc
set_option maxRecDepth 100000 in
theorem c_Line_at (k c n : Nat) (hs : shC k = .inr (5, [some c, none])) (hk : k < nC) (hsc : shC c = .inl (.int, n)) (hkc : c < nC) (hnc : n < 2147483648) (M : Mem) (i : Int) (hi : inR i) : Ct shC nC yX5_at cX5_at 2 (some .int) (lvl 0) [.inr k, .inl i] M (fun r M' => M = M' ∧ r = if 0 ≤ i ∧ i < M k 1 ∧ i < n then M c i else -1) := by
  refine Ct_of (by decide +kernel) (Nat.le_of_ble_eq_true rfl) (fun K C => ?_)
  refine k_iload_n C dX5_at_0 rfl rfl ?_
  refine k_if_lt C (tgt := 30) dX5_at_1 rfl (by omega) (fun c1 => ?_) (fun c1 => ?_)
  · refine k_iconst C dX5_at_30 ?_
    exact k_iret C dX5_at_31 (by omega) (fun _ => by refine ⟨rfl, ?_⟩; split <;> first | rfl | omega)
  · refine k_iload_n C dX5_at_4 rfl rfl ?_
    refine k_aload_n C dX5_at_5 rfl rfl ?_
    refine k_getJ C 1 1 rfl okC5 hs hk (by decide) rfl flX5_21 dX5_at_6 (fun _ => ?_)
    refine k_icmp_ge C (tgt := 30) dX5_at_9 rfl (by omega) (by omega) (fun c9 => ?_) (fun c9 => ?_)
    · refine k_iconst C dX5_at_30 ?_
      exact k_iret C dX5_at_31 (by omega) (fun _ => by refine ⟨rfl, ?_⟩; split <;> first | rfl | omega)
    · refine k_iload_n C dX5_at_12 rfl rfl ?_
      refine k_aload_n C dX5_at_13 rfl rfl ?_
      refine k_getR C (j := 0) okC5 hs hk (by decide) rfl flX5_15 dX5_at_14 ?_
      refine k_len C hsc hkc (by decide) dX5_at_17 (fun n17 hn17 => ?_)
      refine k_icmp_ge C (tgt := 30) dX5_at_18 rfl (by omega) (by omega) (fun c18 => ?_) (fun c18 => ?_)
      · refine k_iconst C dX5_at_30 ?_
        exact k_iret C dX5_at_31 (by omega) (fun _ => by refine ⟨rfl, ?_⟩; split <;> first | rfl | omega)
      · refine k_aload_n C dX5_at_21 rfl rfl ?_
        refine k_getR C (j := 0) okC5 hs hk (by decide) rfl flX5_15 dX5_at_22 ?_
        refine k_iload_n C dX5_at_25 rfl rfl ?_
        refine k_iaload C hsc hkc hnc ⟨by omega, by omega⟩ dX5_at_26 (fun _ => ?_)
        refine k_goto C (tgt := 31) dX5_at_27 rfl ?_
        exact k_iret C dX5_at_31 (by omega) (fun _ => by refine ⟨rfl, ?_⟩; split <;> first | rfl | omega)
set_option maxRecDepth 100000 in
theorem c_Line_append (k c n : Nat) (hs : shC k = .inr (5, [some c, none])) (hk : k < nC) (hsc : shC c = .inl (.int, n)) (hkc : c < nC) (hnc : n < 2147483648) (M : Mem) (v : Int) (hv : inR v) : Ct shC nC yX5_append cX5_append 2 (some .boolean) (lvl 0) [.inr k, .inl v] M (fun r M' => if 0 ≤ M k 1 ∧ M k 1 < n then r = 1 ∧ M' = up (up M c (M k 1) v) k 1 (M k 1 + 1) else r = 0 ∧ M = M') := by
  refine Ct_of (by decide +kernel) (Nat.le_of_ble_eq_true rfl) (fun K C => ?_)
  have e1 : up M c (M k 1) v k 1 = M k 1 := by rw [up_ne (ln_ne hs hsc)]
  refine k_aload_n C dX5_append_0 rfl rfl ?_
  refine k_getJ C 1 1 rfl okC5 hs hk (by decide) rfl flX5_21 dX5_append_1 (fun _ => ?_)
  refine k_if_lt C (tgt := 19) dX5_append_4 rfl (by omega) (fun c4 => ?_) (fun c4 => ?_)
  · refine k_iconst C dX5_append_19 ?_
    exact k_zret C dX5_append_20 (by omega) (fun _ => by rw [if_neg (by omega)]; exact ⟨rfl, rfl⟩)
  · refine k_aload_n C dX5_append_7 rfl rfl ?_
    refine k_getJ C 1 1 rfl okC5 hs hk (by decide) rfl flX5_21 dX5_append_8 (fun _ => ?_)
    refine k_aload_n C dX5_append_11 rfl rfl ?_
    refine k_getR C (j := 0) okC5 hs hk (by decide) rfl flX5_15 dX5_append_12 ?_
    refine k_len C hsc hkc (by decide) dX5_append_15 (fun n15 hn15 => ?_)
    refine k_icmp_lt C (tgt := 21) dX5_append_16 rfl (by omega) (by omega) (fun c16 => ?_) (fun c16 => ?_)
    · refine k_aload_n C dX5_append_21 rfl rfl ?_
      refine k_getR C (j := 0) okC5 hs hk (by decide) rfl flX5_15 dX5_append_22 ?_
      refine k_aload_n C dX5_append_25 rfl rfl ?_
      refine k_getJ C 1 1 rfl okC5 hs hk (by decide) rfl flX5_21 dX5_append_26 (fun _ => ?_)
      refine k_iload_n C dX5_append_29 rfl rfl ?_
      refine k_iastore C hsc hkc hnc ⟨by omega, by omega⟩ (by omega) dX5_append_30 ?_
      refine k_aload_n C dX5_append_31 rfl rfl ?_
      refine k_dup C dX5_append_32 ?_
      refine k_getJ C 1 1 rfl okC5 hs hk (by decide) rfl flX5_21 dX5_append_33 (fun _ => ?_)
      rw [e1]
      refine k_iconst C dX5_append_36 ?_
      refine k_iadd C dX5_append_37 ?_
      refine k_putJ C 1 1 rfl okC5 hs hk (by decide) rfl rfl rfl (by omega) flX5_21 dX5_append_38 ?_
      refine k_iconst C dX5_append_41 ?_
      exact k_zret C dX5_append_42 (by omega) (fun _ => by rw [if_pos (by omega)]; exact ⟨rfl, rfl⟩)
    · refine k_iconst C dX5_append_19 ?_
      exact k_zret C dX5_append_20 (by omega) (fun _ => by rw [if_neg (by omega)]; exact ⟨rfl, rfl⟩)
