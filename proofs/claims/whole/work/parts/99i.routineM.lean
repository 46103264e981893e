/-! THE REFERENCE: routine -/
def RoF (B N : Mem) : Prop := (∀ j, 0 < j → j < 25 ∨ 30 < j → N j = B j) ∧ (∀ i, i < 30 ∨ 45 < i → N 0 i = B 0 i) ∧ N 0 30 = 0
def RoP (tx : Int → Int) (B N : Mem) (n r : Int) : Prop := (¬ (0 ≤ n ∧ n ≤ B 0 30) ∧ N = up B 0 0 1) ∨ ((0 ≤ n ∧ n ≤ B 0 30) ∧ RoF B N ∧ ((scf tx n 201 0 0 0 = -1 ∧ r = 0 ∧ N 0 37 = ee tx n ∧ N 0 38 = cnt tx n ∧ PZ tx n (N 25) (N 26) (N 27)) ∨ (0 ≤ scf tx n 201 0 0 0 ∧ r = -2 - scf tx n 201 0 0 0 ∧ N 0 37 = B 0 37 ∧ N 0 38 = B 0 38 ∧ N 25 = B 25 ∧ N 26 = B 26 ∧ N 27 = B 27)))
set_option maxHeartbeats 4000000 in
set_option maxRecDepth 100000 in
theorem m_roC {K : Kt} (bl : Nat) (B : Mem) (tx : Int → Int) (hB : 0 ≤ B 0 30 ∧ B 0 30 ≤ 200) (hx : ∀ i, 0 ≤ i → i < B 0 30 → tx i = B 24 i % 256 ∧ -128 ≤ B 24 i ∧ B 24 i ≤ 127) (n : Int) (hn : inR n) (C : Ctx (shM bl) nM RX11 cX11_routine 4 (some .int) (lvl 24) (fun r M' => RoP tx B M' n r) K) (n1 : 0 ≤ n ∧ n ≤ B 0 30) (hs : scf tx n 201 0 0 0 = -1) (L : Mem) (l37 : L 0 37 = ee tx n) (hZ : PZ tx n (L 28) (L 29) (L 30)) (hF : RoF B L) (l38 : L 0 38 = cnt tx n) (t : Int) (N : Mem) (k : Int) (hk : 0 ≤ k ∧ k ≤ L 0 37) (hN : ∀ j, j ≠ 25 → j ≠ 26 → j ≠ 27 → N j = L j) (hI : ∀ e, 0 ≤ e → e < k → N 25 e = L 28 e ∧ N 26 e = L 29 e ∧ N 27 e = L 30 e) : K 121 [(0, .inr 0), (1, .inl n), (2, .inl t), (3, .inl k)] [] N := by
  have eb := ee_b (tx := tx) n1.1
  have n0 := hN 0 (by decide) (by decide) (by decide)
  have n28 := hN 28 (by decide) (by decide) (by decide)
  have n29 := hN 29 (by decide) (by decide) (by decide)
  have n30 := hN 30 (by decide) (by decide) (by decide)
  refine k_iload_n C dX11_routine_121 rfl rfl ?_
  refine k_aload_n C dX11_routine_122 rfl rfl ?_
  refine k_getJ C 37 37 rfl okC11 rfl (by decide) (by decide) rfl flX11_243 dX11_routine_123 (fun ld123 => ?_)
  rw [n0] at ld123 ⊢
  refine k_icmp_ge C (tgt := 171) dX11_routine_126 rfl (by omega) (by omega) (fun c126 => ?_) (fun c126 => ?_)
  · refine k_iconst C dX11_routine_171 ?_
    exact k_iret C dX11_routine_172 (by omega) (fun _ => by
      refine Or.inr ⟨n1, ⟨fun j a b => by rw [hN j (by omega) (by omega) (by omega)]; exact hF.1 j a b, fun i hi => by rw [n0]; exact hF.2.1 i hi, by rw [n0]; exact hF.2.2⟩, Or.inl ⟨hs, rfl, by rw [n0]; exact l37, by rw [n0]; exact l38, ?_⟩⟩
      exact PZ_ext hZ (fun e a b => hI e a (by omega)))
  · refine k_aload_n C dX11_routine_129 rfl rfl ?_
    refine k_getR C (j := 34) okC11 rfl (by decide) (by decide) rfl flX11_84 dX11_routine_130 ?_
    refine k_iload_n C dX11_routine_133 rfl rfl ?_
    refine k_aload_n C dX11_routine_134 rfl rfl ?_
    refine k_getR C (j := 40) okC11 rfl (by decide) (by decide) rfl flX11_93 dX11_routine_135 ?_
    refine k_iload_n C dX11_routine_138 rfl rfl ?_
    refine k_iaload C rfl (by decide) (by decide) ⟨by omega, by omega⟩ dX11_routine_139 (fun ld139 => ?_)
    rw [n28] at ld139 ⊢
    refine k_iastore C rfl (by decide) (by decide) ⟨by omega, by omega⟩ (by omega) dX11_routine_140 ?_
    refine k_aload_n C dX11_routine_141 rfl rfl ?_
    refine k_getR C (j := 35) okC11 rfl (by decide) (by decide) rfl flX11_87 dX11_routine_142 ?_
    refine k_iload_n C dX11_routine_145 rfl rfl ?_
    refine k_aload_n C dX11_routine_146 rfl rfl ?_
    refine k_getR C (j := 41) okC11 rfl (by decide) (by decide) rfl flX11_96 dX11_routine_147 ?_
    refine k_iload_n C dX11_routine_150 rfl rfl ?_
    refine k_iaload C rfl (by decide) (by decide) ⟨by omega, by omega⟩ dX11_routine_151 (fun ld151 => ?_)
    rw [up_ne (show (29 : Nat) ≠ 25 by decide), n29] at ld151 ⊢
    refine k_iastore C rfl (by decide) (by decide) ⟨by omega, by omega⟩ (by omega) dX11_routine_152 ?_
    refine k_aload_n C dX11_routine_153 rfl rfl ?_
    refine k_getR C (j := 36) okC11 rfl (by decide) (by decide) rfl flX11_90 dX11_routine_154 ?_
    refine k_iload_n C dX11_routine_157 rfl rfl ?_
    refine k_aload_n C dX11_routine_158 rfl rfl ?_
    refine k_getR C (j := 42) okC11 rfl (by decide) (by decide) rfl flX11_99 dX11_routine_159 ?_
    refine k_iload_n C dX11_routine_162 rfl rfl ?_
    refine k_iaload C rfl (by decide) (by decide) ⟨by omega, by omega⟩ dX11_routine_163 (fun ld163 => ?_)
    rw [up_ne (show (30 : Nat) ≠ 26 by decide), up_ne (show (30 : Nat) ≠ 25 by decide), n30] at ld163 ⊢
    refine k_iastore C rfl (by decide) (by decide) ⟨by omega, by omega⟩ (by omega) dX11_routine_164 ?_
    refine k_iinc C dX11_routine_165 (by decide) rfl ?_
    refine k_goto C (tgt := 121) dX11_routine_168 rfl ?_
    refine k_cut2 C (lv' := [(0, _), (1, _), (2, _), (3, _)]) ⟨rfl, rfl, rfl, rfl, trivial⟩ ?_
    refine m_roC bl B tx hB hx n hn C n1 hs L l37 hZ hF l38 t _ (k + 1) (by omega) (fun j a b c => by rw [up_ne c, up_ne b, up_ne a]; exact hN j a b c) (fun e a b => ?_)
    rw [up_ne (show (25 : Nat) ≠ 27 by decide), up_ne (show (25 : Nat) ≠ 26 by decide), up_at, up_ne (show (26 : Nat) ≠ 27 by decide), up_at, up_ne (show (26 : Nat) ≠ 25 by decide), up_at, up_ne (show (27 : Nat) ≠ 26 by decide), up_ne (show (27 : Nat) ≠ 25 by decide)]
    by_cases z : e = k
    · rw [if_pos z, if_pos z, if_pos z, z]; exact ⟨rfl, rfl, rfl⟩
    · rw [if_neg z, if_neg z, if_neg z]; exact hI e a (by omega)
termination_by (L 0 37 - k).toNat
decreasing_by all_goals omega
set_option maxHeartbeats 4000000 in
set_option maxRecDepth 100000 in
theorem m_routine {K : Kt} (bl : Nat) (B : Mem) (tx : Int → Int) (hB : 0 ≤ B 0 30 ∧ B 0 30 ≤ 200) (hx : ∀ i, 0 ≤ i → i < B 0 30 → tx i = B 24 i % 256 ∧ -128 ≤ B 24 i ∧ B 24 i ≤ 127) (n : Int) (hn : inR n) (C : Ctx (shM bl) nM RX11 cX11_routine 4 (some .int) (lvl 24) (fun r M' => RoP tx B M' n r) K) : K 5 [(0, .inr 0), (1, .inl n)] [] B := by
  refine k_aload_n C dX11_routine_5 rfl rfl ?_
  refine k_iload_n C dX11_routine_6 rfl rfl ?_
  refine k_if_lt C (tgt := 18) dX11_routine_7 rfl (by omega) (fun c7 => ?_) (fun c7 => ?_)
  · refine k_iconst C dX11_routine_18 ?_
    refine k_goto C (tgt := 23) dX11_routine_19 rfl ?_
    refine k_iconst C dX11_routine_23 ?_
    refine k_callV C okX11_140 dX11_routine_24 (c_M_bad bl B _ 1 (by omega) (by decide)) rfl rfl (by decide) rfl (by decide) rfl (Nat.le_of_ble_eq_true rfl) (fun r24 M24 hr24 hp24 => ?_)
    rcases hp24 with ⟨z, rfl, rfl⟩ | ⟨z, rfl, rfl⟩ <;> first | (exfalso; omega) | skip
    refine k_if_eq C (tgt := 32) dX11_routine_27 rfl (by omega) (fun c27 => ?_) (fun c27 => ?_)
    · exfalso; omega
    · refine k_iconst C dX11_routine_30 ?_
      exact k_iret C dX11_routine_31 (by omega) (fun _ => by first | (exfalso; omega) | exact Or.inl ⟨by omega, rfl⟩)
  · refine k_iload_n C dX11_routine_10 rfl rfl ?_
    refine k_aload_n C dX11_routine_11 rfl rfl ?_
    refine k_getJ C 30 30 rfl okC11 rfl (by decide) (by decide) rfl flX11_204 dX11_routine_12 (fun ld12 => ?_)
    refine k_icmp_le C (tgt := 22) dX11_routine_15 rfl (by omega) (by omega) (fun c15 => ?_) (fun c15 => ?_)
    · refine k_iconst C dX11_routine_22 ?_
      refine k_iconst C dX11_routine_23 ?_
      refine k_callV C okX11_140 dX11_routine_24 (c_M_bad bl B _ 1 (by omega) (by decide)) rfl rfl (by decide) rfl (by decide) rfl (Nat.le_of_ble_eq_true rfl) (fun r24 M24 hr24 hp24 => ?_)
      rcases hp24 with ⟨z, rfl, rfl⟩ | ⟨z, rfl, rfl⟩ <;> first | (exfalso; omega) | skip
      refine k_if_eq C (tgt := 32) dX11_routine_27 rfl (by omega) (fun c27 => ?_) (fun c27 => ?_)
      · refine k_aload_n C dX11_routine_32 rfl rfl ?_
        refine k_iload_n C dX11_routine_33 rfl rfl ?_
        refine k_putJ C 31 31 rfl okC11 rfl (by decide) (by decide) rfl rfl rfl (by omega) flX11_210 dX11_routine_34 ?_
        refine k_aload_n C dX11_routine_37 rfl rfl ?_
        refine k_iconst C dX11_routine_38 ?_
        refine k_putJ C 30 30 rfl okC11 rfl (by decide) (by decide) rfl rfl rfl (by omega) flX11_204 dX11_routine_39 ?_
        refine k_aload_n C dX11_routine_42 rfl rfl ?_
        refine k_iconst C dX11_routine_43 ?_
        refine k_putJ C 32 32 rfl okC11 rfl (by decide) (by decide) rfl rfl rfl (by omega) flX11_207 dX11_routine_44 ?_
        refine k_aload_n C dX11_routine_47 rfl rfl ?_
        refine k_iconst C dX11_routine_48 ?_
        refine k_putJ C 33 33 rfl okC11 rfl (by decide) (by decide) rfl rfl rfl (by omega) flX11_237 dX11_routine_49 ?_
        refine k_aload_n C dX11_routine_52 rfl rfl ?_
        refine k_iconst C dX11_routine_53 ?_
        refine k_putJ C 43 43 rfl okC11 rfl (by decide) (by decide) rfl rfl rfl (by omega) flX11_213 dX11_routine_54 ?_
        refine k_aload_n C dX11_routine_57 rfl rfl ?_
        refine k_iconst C dX11_routine_58 ?_
        refine k_putJ C 44 44 rfl okC11 rfl (by decide) (by decide) rfl rfl rfl (by omega) flX11_216 dX11_routine_59 ?_
        refine k_aload_n C dX11_routine_62 rfl rfl ?_
        refine k_iconst C dX11_routine_63 ?_
        refine k_putB C 45 45 rfl okC11 rfl (by decide) (by decide) rfl rfl rfl (by omega) flX11_219 dX11_routine_64 ?_
        have o : ∀ j, j ≠ 0 → up (up (up (up (up (up (up B 0 31 n) 0 30 0) 0 32 0) 0 33 0) 0 43 0) 0 44 1) 0 45 0 j = B j := fun j a => by rw [up_ne a, up_ne a, up_ne a, up_ne a, up_ne a, up_ne a, up_ne a]
        have f : ∀ i, up (up (up (up (up (up (up B 0 31 n) 0 30 0) 0 32 0) 0 33 0) 0 43 0) 0 44 1) 0 45 0 0 i = if i = 45 then 0 else if i = 44 then 1 else if i = 43 then 0 else if i = 33 then 0 else if i = 32 then 0 else if i = 30 then 0 else if i = 31 then n else B 0 i := fun i => by rw [up_at, up_at, up_at, up_at, up_at, up_at, up_at]
        generalize up (up (up (up (up (up (up B 0 31 n) 0 30 0) 0 32 0) 0 33 0) 0 43 0) 0 44 1) 0 45 0 = L at *
        have n1 : 0 ≤ n ∧ n ≤ B 0 30 := by omega
        have l31 : L 0 31 = n := by rw [f]; rfl
        have hT : TxM L tx := ⟨by rw [l31]; omega, fun i a b => by rw [l31] at b; rw [o 24 (by decide)]; exact hx i a (by omega)⟩
        have ps0 : PS tx L L 0 := ⟨⟨fun _ _ _ _ _ => rfl, fun _ _ _ _ _ _ => rfl⟩, by rw [f]; rfl, by rw [l31]; omega, by rw [f]; rfl, by show (0 : Int) ≤ 0 ∧ (0 : Int) ≤ 10; omega, by rw [f]; rfl, by rw [f]; rfl, by rw [f]; rfl, fun k a b => by omega, ⟨201, by rw [l31]; omega, rfl⟩⟩
        have rf : ∀ N, RdW L N → RoF B N := fun N z => ⟨fun j a b => by rw [z.1 j (by omega) (by omega) (by omega) (by omega)]; exact o j (by omega), fun i hi => by rw [z.2 i (by omega) (by omega) (by omega) (by omega) (by omega), f, if_neg (by omega), if_neg (by omega), if_neg (by omega), if_neg (by omega), if_neg (by omega), if_neg (by omega), if_neg (by omega)], by rw [z.2 30 (by decide) (by decide) (by decide) (by decide) (by decide), f]; rfl⟩
        have rq : ∀ N, RdW L N → N 0 37 = B 0 37 ∧ N 0 38 = B 0 38 ∧ N 25 = B 25 ∧ N 26 = B 26 ∧ N 27 = B 27 := fun N z => ⟨by rw [z.2 37 (by decide) (by decide) (by decide) (by decide) (by decide), f]; rfl, by rw [z.2 38 (by decide) (by decide) (by decide) (by decide) (by decide), f]; rfl, by rw [z.1 25 (by decide) (by decide) (by decide) (by decide)]; exact o 25 (by decide), by rw [z.1 26 (by decide) (by decide) (by decide) (by decide)]; exact o 26 (by decide), by rw [z.1 27 (by decide) (by decide) (by decide) (by decide)]; exact o 27 (by decide)⟩
        refine k_aload_n C dX11_routine_67 rfl rfl ?_
        refine k_iconst C dX11_routine_68 ?_
        refine k_callV C okX11_240 dX11_routine_69 ((by have z := c_reads bl tx L hT 10 (by omega) L 0 ps0 rfl (fun _ _ _ _ _ => rfl); exact z)) rfl rfl (by decide) rfl (by decide) rfl (Nat.le_of_ble_eq_true rfl) (fun r69 M69 hr69 hp69 => ?_)
        rcases hp69 with ⟨j, j1, j2, j3, j4, j5, j6⟩ | w
        · obtain ⟨b1, b2, b3, b4, b5, b6, b7, b8, b9, b10⟩ := id j2
          rw [l31] at b3 b10 j6
          have eb := ee_b (tx := tx) b3.1
          have cb := cnt_b (tx := tx) b3.1
          have fb := fi_b (tx := tx) (i := j) (by omega)
          have tb := fun z => hx j b3.1 z
          have skj : skp (M69 24) (M69 0 31) 201 (M69 0 32) = j := by rw [b1.e.1, b1.e.2, b2, o 24 (by decide), l31]; exact skp_self b3 (by omega) (fun z => by have := tb (by omega); have := (j6 z).1; omega)
          have self : up M69 0 32 j = M69 := by rw [← b2]; exact up_self _ _ _
          have val : (if skp (M69 24) (M69 0 31) 201 (M69 0 32) < M69 0 31 then M69 24 (skp (M69 24) (M69 0 31) 201 (M69 0 32)) % 256 else 0) = (if j < n then tx j else 0) := by rw [skj, b1.e.1, b1.e.2, o 24 (by decide), l31]; by_cases z : j < n; (rw [if_pos z, if_pos z]; exact (tb (by omega)).1.symm); (rw [if_neg z, if_neg z])
          have dj0 : dep tx j = 0 := by omega
          have bad : j < n → scf tx n 201 0 0 0 = j := fun z => by
            have u := j6 z
            refine SC_bad b10 ⟨b3.1, z⟩ u.1 (fun mp => ?_)
            unfold isL at u
            rcases mp with v | v | v | v
            · omega
            · omega
            · have := u.2.2.2 v.1; omega
            · exact u.2.2.1 v
          refine k_istore_n C dX11_routine_72 rfl (by decide) ?_
          refine k_aload_n C dX11_routine_73 rfl rfl ?_
          refine k_getJ C 45 45 rfl okC11 rfl (by decide) (by decide) rfl flX11_219 dX11_routine_74 (fun ld74 => ?_)
          rw [b8] at ld74 ⊢
          refine k_if_ne C (tgt := 173) dX11_routine_77 rfl (by omega) (fun c77 => ?_) (fun c77 => ?_)
          · exfalso; omega
          · refine k_aload_n C dX11_routine_80 rfl rfl ?_
            refine k_callV C okX11_223 dX11_routine_81 (c_M_now bl M69 (by rw [b2, b1.e.2, l31]; omega)) rfl rfl (by decide) rfl (by decide) rfl (Nat.le_of_ble_eq_true rfl) (fun r81 M81 hr81 hp81 => ?_)
            obtain ⟨z81, hq81⟩ := hp81
            rw [skj, self] at z81
            rw [val] at hq81
            rw [z81]
            subst hq81
            refine k_if_ne C (tgt := 173) dX11_routine_84 rfl (by omega) (fun c84 => ?_) (fun c84 => ?_)
            · have jlt : j < n := by by_cases z : j < n; exact z; (rw [if_neg z] at c84; omega)
              refine k_bipush C dX11_routine_173 (by decide) ?_
              refine k_aload_n C dX11_routine_175 rfl rfl ?_
              refine k_getJ C 32 32 rfl okC11 rfl (by decide) (by decide) rfl flX11_207 dX11_routine_176 (fun ld176 => ?_)
              rw [b2] at ld176 ⊢
              refine k_isub C dX11_routine_179 ?_
              exact k_iret C dX11_routine_180 (by omega) (fun _ => Or.inr ⟨n1, rf M69 b1, Or.inr ⟨by rw [bad jlt]; omega, by rw [bad jlt], rq M69 b1⟩⟩)
            · refine k_aload_n C dX11_routine_87 rfl rfl ?_
              refine k_getJ C 32 32 rfl okC11 rfl (by decide) (by decide) rfl flX11_207 dX11_routine_88 (fun ld88 => ?_)
              rw [b2] at ld88 ⊢
              refine k_aload_n C dX11_routine_91 rfl rfl ?_
              refine k_getJ C 31 31 rfl okC11 rfl (by decide) (by decide) rfl flX11_210 dX11_routine_92 (fun ld92 => ?_)
              rw [b1.e.2, l31] at ld92 ⊢
              refine k_icmp_lt C (tgt := 173) dX11_routine_95 rfl (by omega) (by omega) (fun c95 => ?_) (fun c95 => ?_)
              · have jlt : j < n := by omega
                refine k_bipush C dX11_routine_173 (by decide) ?_
                refine k_aload_n C dX11_routine_175 rfl rfl ?_
                refine k_getJ C 32 32 rfl okC11 rfl (by decide) (by decide) rfl flX11_207 dX11_routine_176 (fun ld176 => ?_)
                rw [b2] at ld176 ⊢
                refine k_isub C dX11_routine_179 ?_
                exact k_iret C dX11_routine_180 (by omega) (fun _ => Or.inr ⟨n1, rf M69 b1, Or.inr ⟨by rw [bad jlt]; omega, by rw [bad jlt], rq M69 b1⟩⟩)
              · refine k_aload_n C dX11_routine_98 rfl rfl ?_
                refine k_aload_n C dX11_routine_99 rfl rfl ?_
                refine k_getJ C 43 43 rfl okC11 rfl (by decide) (by decide) rfl flX11_213 dX11_routine_100 (fun ld100 => ?_)
                rw [b6] at ld100 ⊢
                refine k_putJ C 37 37 rfl okC11 rfl (by decide) (by decide) rfl rfl rfl (by omega) flX11_243 dX11_routine_103 ?_
                refine k_aload_n C dX11_routine_106 rfl rfl ?_
                refine k_aload_n C dX11_routine_107 rfl rfl ?_
                refine k_getJ C 44 44 rfl okC11 rfl (by decide) (by decide) rfl flX11_216 dX11_routine_108 (fun ld108 => ?_)
                rw [up_at, if_neg (by decide), b7] at ld108 ⊢
                refine k_putJ C 38 38 rfl okC11 rfl (by decide) (by decide) rfl rfl rfl (by omega) flX11_246 dX11_routine_111 ?_
                refine k_aload_n C dX11_routine_114 rfl rfl ?_
                refine k_iload_n C dX11_routine_115 rfl rfl ?_
                refine k_putJ C 39 39 rfl okC11 rfl (by decide) (by decide) rfl rfl rfl (by omega) flX11_249 dX11_routine_116 ?_
                refine k_iconst C dX11_routine_119 ?_
                refine k_istore_n C dX11_routine_120 rfl (by decide) ?_
                refine k_cut2 C (lv' := [(0, _), (1, _), (2, _), (3, _)]) ⟨rfl, rfl, rfl, rfl, trivial⟩ ?_
                have ej : j = n := by omega
                subst ej
                have sc : scf tx j 201 0 0 0 = -1 := by rw [SC_end b10, if_pos dj0]
                have fr : RoF B (up (up (up M69 0 37 (ee tx j)) 0 38 (cnt tx j)) 0 39 r69) := ⟨fun x a b => by rw [up_ne (by omega), up_ne (by omega), up_ne (by omega)]; exact (rf M69 b1).1 x a b, fun i hi => by rw [up_at, if_neg (by omega), up_at, if_neg (by omega), up_at, if_neg (by omega)]; exact (rf M69 b1).2.1 i hi, by rw [up_at, if_neg (by decide), up_at, if_neg (by decide), up_at, if_neg (by decide)]; exact (rf M69 b1).2.2⟩
                refine m_roC bl B tx hB hx j hn C n1 sc _ (by rw [up_at, if_neg (by decide), up_at, if_neg (by decide)]; exact up_same) (by rw [up_ne (by decide), up_ne (by decide), up_ne (by decide), up_ne (by decide), up_ne (by decide), up_ne (by decide), up_ne (by decide), up_ne (by decide), up_ne (by decide)]; exact b9) fr (by rw [up_at, if_neg (by decide)]; exact up_same) r69 _ 0 ⟨Int.le_refl 0, by rw [up_at, if_neg (by decide), up_at, if_neg (by decide), up_same]; omega⟩ (fun _ _ _ _ => rfl) (fun e a b => by omega)
        · refine k_istore_n C dX11_routine_72 rfl (by decide) ?_
          refine k_aload_n C dX11_routine_73 rfl rfl ?_
          refine k_getJ C 45 45 rfl okC11 rfl (by decide) (by decide) rfl flX11_219 dX11_routine_74 (fun ld74 => ?_)
          rw [w.2.1] at ld74 ⊢
          refine k_if_ne C (tgt := 173) dX11_routine_77 rfl (by omega) (fun c77 => ?_) (fun c77 => ?_)
          · refine k_bipush C dX11_routine_173 (by decide) ?_
            refine k_aload_n C dX11_routine_175 rfl rfl ?_
            refine k_getJ C 32 32 rfl okC11 rfl (by decide) (by decide) rfl flX11_207 dX11_routine_176 (fun ld176 => ?_)
            have w4 := w.2.2.2.1
            refine k_isub C dX11_routine_179 ?_
            exact k_iret C dX11_routine_180 (by omega) (fun _ => Or.inr ⟨n1, rf M69 w.1, Or.inr (by have w3 := w.2.2.1; rw [l31] at w3; exact ⟨by rw [w3]; exact w.2.2.2.1.1, by rw [w3], rq M69 w.1⟩)⟩)
          · exfalso; omega
      · refine k_iconst C dX11_routine_30 ?_
        exact k_iret C dX11_routine_31 (by omega) (fun _ => by first | (exfalso; omega) | exact Or.inl ⟨by omega, rfl⟩)
    · refine k_iconst C dX11_routine_18 ?_
      refine k_goto C (tgt := 23) dX11_routine_19 rfl ?_
      refine k_iconst C dX11_routine_23 ?_
      refine k_callV C okX11_140 dX11_routine_24 (c_M_bad bl B _ 1 (by omega) (by decide)) rfl rfl (by decide) rfl (by decide) rfl (Nat.le_of_ble_eq_true rfl) (fun r24 M24 hr24 hp24 => ?_)
      rcases hp24 with ⟨z, rfl, rfl⟩ | ⟨z, rfl, rfl⟩ <;> first | (exfalso; omega) | skip
      refine k_if_eq C (tgt := 32) dX11_routine_27 rfl (by omega) (fun c27 => ?_) (fun c27 => ?_)
      · exfalso; omega
      · refine k_iconst C dX11_routine_30 ?_
        exact k_iret C dX11_routine_31 (by omega) (fun _ => by first | (exfalso; omega) | exact Or.inl ⟨by omega, rfl⟩)
set_option maxHeartbeats 4000000 in
set_option maxRecDepth 100000 in
theorem c_M_routine (bl : Nat) (M : Mem) (tx : Int → Int) (hB : 0 ≤ M 0 30 ∧ M 0 30 ≤ 200) (hx : ∀ i, 0 ≤ i → i < M 0 30 → tx i = M 24 i % 256 ∧ -128 ≤ M 24 i ∧ M 24 i ≤ 127) (n : Int) (hn : inR n) : Ct (shM bl) nM yX11_routine cX11_routine 4 (some .int) (lvl 24) [.inr 0, .inl n] M (fun r M' => RoP tx (th0 M) M' n r) := by
  refine Ct_of (by decide +kernel) (Nat.le_of_ble_eq_true rfl) (fun K C => ?_)
  refine k_aload_n C dX11_routine_0 rfl rfl ?_
  refine k_iconst C dX11_routine_1 ?_
  refine k_putJ C 0 0 rfl okC11 rfl (by decide) (by decide) rfl rfl rfl (by omega) flX11_133 dX11_routine_2 ?_
  exact m_routine bl (th0 M) tx (by rw [th0_f (by decide)]; exact hB) (by rw [th0_f (by decide), th0_c (by decide)]; exact hx) n hn C
