/-! THE REFERENCE: hold, ahead of its rounds and behind them -/
set_option maxHeartbeats 4000000 in
set_option maxRecDepth 100000 in
theorem gh_f {K : Kt} (bl : Nat) (B : Mem) (hH : HkM B) {R : Room} (hR : 1 ≤ R.frames ∧ 200 ≤ R.locals) (C : CtxG (shM bl) 39 RX11 cX11_hold 5 (some .int) R K) (i : Int) (hi : 0 ≤ i ∧ i ≤ 30 * B 0 38) (N : Mem) (hI : (∀ j, j ≠ 31 → N j = B j) ∧ ∀ x, 0 ≤ x → x < i → N 31 x = 1000000) (kk : ∀ N2 b2 t2, FRd B N2 → (∀ x, 0 ≤ x → x < 30 * B 0 38 → ¬ NEN B N2 x) → K 131 [(0, .inr 0), (1, .inl b2), (2, .inl t2)] [] N2) : K 20 [(0, .inr 0), (1, .inl i)] [] N := by
  obtain ⟨f1, f2, f3⟩ := hH.1
  have m30 := hH.2.1
  have n0 := hI.1 0 (by decide)
  refine g_iload_n C dX11_hold_20 rfl rfl ?_
  refine g_aload_n C dX11_hold_21 rfl rfl ?_
  refine g_getJ C 38 38 rfl okC11 rfl (by decide) (by decide) rfl flX11_246 dX11_hold_22 (fun ld22 => ?_)
  rw [n0] at ld22 ⊢
  refine g_bipush C dX11_hold_25 (by decide) ?_
  refine g_imul C dX11_hold_27 ?_
  refine g_icmp_ge C (tgt := 45) dX11_hold_28 rfl (by omega) (by omega) (fun c28 => ?_) (fun c28 => ?_)
  · refine g_iconst C dX11_hold_45 ?_
    refine g_istore_n C dX11_hold_46 rfl (by decide) ?_
    refine g_iconst C dX11_hold_47 ?_
    refine g_istore_n C dX11_hold_48 rfl (by decide) ?_
    refine g_cut2 C (lv' := [(0, _), (1, _), (2, _)]) ⟨rfl, rfl, rfl, trivial⟩ ?_
    have far : ∀ x, 0 ≤ x → x < 30 * B 0 38 → N 31 x = 1000000 := fun x x0 x1 => hI.2 x x0 (by omega)
    have hF : FRd B N := ⟨hI.1, fun q s q0 q1 s0 s1 => by
      have z := far (30 * q + s) (by omega) (by omega)
      rw [z]
      exact ⟨by omega, fun y => by omega⟩, fun x x0 x1 => by
      have z := far x x0 x1
      rw [z]; omega⟩
    have nm := ne_most (far := N 31) hH.1 hH.2
    have pq : 0 ≤ B 0 38 * B 0 25 := Int.mul_nonneg f1.1 (by omega)
    exact gh_r bl B hH hR C 0 1 ⟨Int.le_refl _, by omega⟩ N hF (Or.inr (by rw [Int.add_zero]; exact nm)) (fun z => by omega) (Or.inr rfl) kk
  · refine g_aload_n C dX11_hold_31 rfl rfl ?_
    refine g_getR C (j := 46) okC11 rfl (by decide) (by decide) rfl flX11_102 dX11_hold_32 ?_
    refine g_iload_n C dX11_hold_35 rfl rfl ?_
    refine g_ldc C ldX11_255 dX11_hold_36 ?_
    refine g_iastore C rfl (by decide) (by decide) ⟨by omega, by omega⟩ (by omega) dX11_hold_38 ?_
    refine g_iinc C dX11_hold_39 (by decide) rfl ?_
    refine g_goto C (tgt := 20) dX11_hold_42 rfl ?_
    refine g_cut2 C (lv' := [(0, _), (1, _)]) ⟨rfl, rfl, trivial⟩ ?_
    have e31 : ∀ x, up N 31 i 1000000 31 x = if x = i then 1000000 else N 31 x := fun x => up_at
    refine gh_f bl B hH hR C (i + 1) (by omega) _ ⟨fun j hj => by rw [up_ne hj]; exact hI.1 j hj, fun x x0 x1 => ?_⟩ kk
    rw [e31]
    split
    · rfl
    · exact hI.2 x x0 (by omega)
termination_by (30 * B 0 38 - i).toNat
decreasing_by all_goals omega
set_option maxHeartbeats 4000000 in
set_option maxRecDepth 100000 in
theorem gh_i {K : Kt} (bl : Nat) (B : Mem) (hH : HkM B) {R : Room} (hR : 1 ≤ R.frames ∧ 200 ≤ R.locals) (C : CtxG (shM bl) 39 RX11 cX11_hold 5 (some .int) R K) (i : Int) (hi : 0 ≤ i ∧ i ≤ B 0 38) (N : Mem) (hI : (∀ j, j ≠ 32 → N j = B j) ∧ ∀ x, 0 ≤ x → x < i → ((N 32 x = 0 ∨ N 32 x = 1) ∧ (N 32 x = 1 ↔ x = 0))) (kk : ∀ N2 : Mem, (∀ j, j ≠ 32 → N2 j = B j) → (∀ x, 0 ≤ x → x < B 0 38 → ((N2 32 x = 0 ∨ N2 32 x = 1) ∧ (N2 32 x = 1 ↔ x = 0))) → K 184 [(0, .inr 0), (2, .inl 0), (3, .inl (B 31 0))] [] N2) : K 146 [(0, .inr 0), (2, .inl i)] [] N := by
  obtain ⟨f1, f2, f3⟩ := hH.1
  have m30 := hH.2.1
  have n0 := hI.1 0 (by decide)
  have n31 := hI.1 31 (by decide)
  refine g_iload_n C dX11_hold_146 rfl rfl ?_
  refine g_aload_n C dX11_hold_147 rfl rfl ?_
  refine g_getJ C 38 38 rfl okC11 rfl (by decide) (by decide) rfl flX11_246 dX11_hold_148 (fun ld148 => ?_)
  rw [n0] at ld148 ⊢
  refine g_icmp_ge C (tgt := 175) dX11_hold_151 rfl (by omega) (by omega) (fun c151 => ?_) (fun c151 => ?_)
  · refine g_iconst C dX11_hold_175 ?_
    refine g_istore_n C dX11_hold_176 rfl (by decide) ?_
    refine g_aload_n C dX11_hold_177 rfl rfl ?_
    refine g_getR C (j := 46) okC11 rfl (by decide) (by decide) rfl flX11_102 dX11_hold_178 ?_
    refine g_iconst C dX11_hold_181 ?_
    refine g_iaload C rfl (by decide) (by decide) ⟨by omega, by omega⟩ dX11_hold_182 (fun ld182 => ?_)
    rw [n31] at ld182 ⊢
    refine g_istore_n C dX11_hold_183 rfl (by decide) ?_
    refine g_cut2 C (lv' := [(0, _), (2, _), (3, _)]) ⟨rfl, rfl, rfl, trivial⟩ ?_
    exact kk N hI.1 (fun x x0 x1 => hI.2 x x0 (by omega))
  · refine g_aload_n C dX11_hold_154 rfl rfl ?_
    refine g_getR C (j := 47) okC11 rfl (by decide) (by decide) rfl flX11_105 dX11_hold_155 ?_
    refine g_iload_n C dX11_hold_158 rfl rfl ?_
    refine g_iload_n C dX11_hold_159 rfl rfl ?_
    refine g_if_ne C (tgt := 167) dX11_hold_160 rfl (by omega) (fun c160 => ?_) (fun c160 => ?_)
    · refine g_iconst C dX11_hold_167 ?_
      refine g_zastore C rfl (by decide) (by decide) ⟨by omega, by omega⟩ (by omega) dX11_hold_168 ?_
      refine g_iinc C dX11_hold_169 (by decide) rfl ?_
      refine g_goto C (tgt := 146) dX11_hold_172 rfl ?_
      refine g_cut2 C (lv' := [(0, _), (2, _)]) ⟨rfl, rfl, trivial⟩ ?_
      have e32 : ∀ x, up N 32 i 0 32 x = if x = i then 0 else N 32 x := fun x => up_at
      refine gh_i bl B hH hR C (i + 1) (by omega) _ ⟨fun j hj => by rw [up_ne hj]; exact hI.1 j hj, fun x x0 x1 => ?_⟩ kk
      rw [e32]
      by_cases y : x = i
      · rw [if_pos y]; omega
      · rw [if_neg y]; exact hI.2 x x0 (by omega)
    · refine g_iconst C dX11_hold_163 ?_
      refine g_goto C (tgt := 168) dX11_hold_164 rfl ?_
      refine g_zastore C rfl (by decide) (by decide) ⟨by omega, by omega⟩ (by omega) dX11_hold_168 ?_
      refine g_iinc C dX11_hold_169 (by decide) rfl ?_
      refine g_goto C (tgt := 146) dX11_hold_172 rfl ?_
      refine g_cut2 C (lv' := [(0, _), (2, _)]) ⟨rfl, rfl, trivial⟩ ?_
      have e32 : ∀ x, up N 32 i 1 32 x = if x = i then 1 else N 32 x := fun x => up_at
      refine gh_i bl B hH hR C (i + 1) (by omega) _ ⟨fun j hj => by rw [up_ne hj]; exact hI.1 j hj, fun x x0 x1 => ?_⟩ kk
      rw [e32]
      by_cases y : x = i
      · rw [if_pos y]; omega
      · rw [if_neg y]; exact hI.2 x x0 (by omega)
termination_by (B 0 38 - i).toNat
decreasing_by all_goals omega
set_option maxHeartbeats 4000000 in
set_option maxRecDepth 100000 in
theorem gh_m {K : Kt} (bl : Nat) (B : Mem) (hH : HkM B) {R : Room} (hR : 1 ≤ R.frames ∧ 200 ≤ R.locals) (C : CtxG (shM bl) 39 RX11 cX11_hold 5 (some .int) R K) (b t : Int) (hQ : 1 ≤ B 0 38) (k0 : B 31 0 = 1000000 → K 142 [(0, .inr 0)] [] B) (kk : B 31 0 ≠ 1000000 → ∀ N2 : Mem, (∀ j, j ≠ 32 → N2 j = B j) → (∀ x, 0 ≤ x → x < B 0 38 → ((N2 32 x = 0 ∨ N2 32 x = 1) ∧ (N2 32 x = 1 ↔ x = 0))) → K 184 [(0, .inr 0), (2, .inl 0), (3, .inl (B 31 0))] [] N2) : K 131 [(0, .inr 0), (1, .inl b), (2, .inl t)] [] B := by
  obtain ⟨f1, f2, f3⟩ := hH.1
  have m30 := hH.2.1
  refine g_aload_n C dX11_hold_131 rfl rfl ?_
  refine g_getR C (j := 46) okC11 rfl (by decide) (by decide) rfl flX11_102 dX11_hold_132 ?_
  refine g_iconst C dX11_hold_135 ?_
  refine g_iaload C rfl (by decide) (by decide) ⟨by omega, by omega⟩ dX11_hold_136 (fun ld136 => ?_)
  refine g_ldc C ldX11_255 dX11_hold_137 ?_
  refine g_icmp_ne C (tgt := 144) dX11_hold_139 rfl (by omega) (by omega) (fun c139 => ?_) (fun c139 => ?_)
  · refine g_iconst C dX11_hold_144 ?_
    refine g_istore_n C dX11_hold_145 rfl (by decide) ?_
    refine g_cut2 C (lv' := [(0, _), (2, _)]) ⟨rfl, rfl, trivial⟩ ?_
    exact gh_i bl B hH hR C 0 ⟨Int.le_refl _, f1.1⟩ B ⟨fun _ _ => rfl, fun x x0 x1 => by omega⟩ (kk c139)
  · refine g_cut2 C (lv' := [(0, _)]) ⟨rfl, trivial⟩ ?_
    exact k0 c139
