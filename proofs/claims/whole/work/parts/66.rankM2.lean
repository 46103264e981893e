/-! THE REFERENCE: habit and rank -/
noncomputable def hvF (n : Int) (sz rt th ca : Int → Int) : Int → Int := fun x => cnI (hvP sz rt th ca x) n
noncomputable def hoF (n : Int) (sz rt th ca : Int → Int) : Int → Int := fun h => cnI (hoP sz rt th ca (h / 8) (h % 8)) n
noncomputable abbrev hvM (M : Mem) : Int → Int := hvF (M 0 7) (M 3) (M 4) (M 5) (M 2)
noncomputable abbrev hoM (M : Mem) : Int → Int := hoF (M 0 7) (M 3) (M 4) (M 5) (M 2)
def SvM (M N : Mem) : Prop := (∀ k, k ≠ 37 → k ≠ 38 → N k = M k) ∧ ∀ g, 0 ≤ g → g < 64 → N 37 g = hvM M (g / 8) ∧ N 38 g = hoM M g
theorem hvM_rg {M : Mem} (hB : BkM M) (x : Int) : 0 ≤ hvM M x ∧ hvM M x ≤ 60 := by
  have h1 := hB.1; have h2 := hB.2.1
  have := cnI_rg (hvP (M 3) (M 4) (M 5) (M 2) x) h1
  unfold hvM hvF; omega
theorem hoM_rg {M : Mem} (hB : BkM M) (x : Int) : 0 ≤ hoM M x ∧ hoM M x ≤ 60 := by
  have h1 := hB.1; have h2 := hB.2.1
  have := cnI_rg (hoP (M 3) (M 4) (M 5) (M 2) (x / 8) (x % 8)) h1
  unfold hoM hoF; omega
theorem SvM_ok {M N : Mem} (hB : BkM M) (h : SvM M N) : okHm N := fun i a b => by
  rw [(h.2 i a b).1, (h.2 i a b).2]; exact ⟨hvM_rg hB _, hoM_rg hB _⟩
theorem SvM_ah {M N : Mem} (h : SvM M N) {a b : Int} (ha : 0 ≤ a ∧ a < 64) (hb : 0 ≤ b ∧ b < 64) : ahM (N 37) (N 38) a b ↔ ahd (hvM M) (hoM M) a b := by
  unfold ahM ahd
  rw [(h.2 a ha.1 ha.2).1, (h.2 a ha.1 ha.2).2, (h.2 b hb.1 hb.2).1, (h.2 b hb.1 hb.2).2]
set_option maxHeartbeats 4000000 in
set_option maxRecDepth 100000 in
theorem m_habit {K : Kt} (bl : Nat) (B : Mem) (hB : BkM B) (x y wh : Int) (hx : inR x) (hy : inR y) (hw : inR wh) (C : Ctx (shM bl) nM RX11 cX11_habit 4 (some .int) (lvl 1) (fun r M' => (((0 ≤ x ∧ x < 8) ∧ (0 ≤ y ∧ y < 8) ∧ (wh = 0 ∨ wh = 1)) ∧ (∀ k, k ≠ 37 → k ≠ 38 → M' k = B k) ∧ ((wh = 0 ∧ r = hvM B x) ∨ (wh = 1 ∧ r = hoM B (8 * x + y)))) ∨ (¬ ((0 ≤ x ∧ x < 8) ∧ (0 ≤ y ∧ y < 8) ∧ (wh = 0 ∨ wh = 1)) ∧ M' = up B 0 0 1)) K) : K 5 [(0, .inr 0), (1, .inl x), (2, .inl y), (3, .inl wh)] [] B := by
  refine k_aload_n C dX11_habit_5 rfl rfl ?_
  refine k_iload_n C dX11_habit_6 rfl rfl ?_
  refine k_callS C okX11_136 dX11_habit_7 (c_M_isCall bl B x (by omega)) rfl (by decide) rfl (Nat.le_of_ble_eq_true rfl) (fun r7 M7 hr7 hp7 => ?_)
  obtain ⟨rfl, hp7⟩ := hp7
  refine k_if_eq C (tgt := 29) dX11_habit_10 rfl (by omega) (fun c10 => ?_) (fun c10 => ?_)
  · refine k_iconst C dX11_habit_29 ?_
    refine k_goto C (tgt := 34) dX11_habit_30 rfl ?_
    refine k_iconst C dX11_habit_34 ?_
    refine k_callV C okX11_140 dX11_habit_35 (c_M_bad bl B _ 1 (by omega) (by decide)) rfl rfl (by decide) rfl (by decide) rfl (Nat.le_of_ble_eq_true rfl) (fun r35 M35 hr35 hp35 => ?_)
    refine k_if_eq C (tgt := 43) dX11_habit_38 rfl (by omega) (fun c38 => ?_) (fun c38 => ?_)
    · have ev : ((0 ≤ x ∧ x < 8) ∧ (0 ≤ y ∧ y < 8) ∧ (wh = 0 ∨ wh = 1)) ∧ B = M35 := by
        rcases hp35 with z | z
        · exact ⟨by omega, z.2.2⟩
        · exfalso; omega
      obtain ⟨ev, rfl⟩ := ev
      refine k_aload_n C dX11_habit_43 rfl rfl ?_
      refine k_callV C okX11_272 dX11_habit_44 (c_M_habits bl B hB) rfl rfl (by decide) rfl (by decide) rfl (Nat.le_of_ble_eq_true rfl) (fun r44 M44 hr44 hp44 => ?_)
      have hg := hp44.2 (8 * x + y) (by omega) (by omega)
      refine k_iload_n C dX11_habit_47 rfl rfl ?_
      refine k_if_ne C (tgt := 65) dX11_habit_48 rfl (by omega) (fun c48 => ?_) (fun c48 => ?_)
      · refine k_aload_n C dX11_habit_65 rfl rfl ?_
        refine k_getR C (j := 54) okC11 rfl (by decide) (by decide) rfl flX11_123 dX11_habit_66 ?_
        refine k_bipush C dX11_habit_69 (by decide) ?_
        refine k_iload_n C dX11_habit_71 rfl rfl ?_
        refine k_imul C dX11_habit_72 ?_
        refine k_iload_n C dX11_habit_73 rfl rfl ?_
        refine k_iadd C dX11_habit_74 ?_
        refine k_iaload C rfl (by decide) (by decide) ⟨by omega, by omega⟩ dX11_habit_75 (fun ld75 => ?_)
        exact k_iret C dX11_habit_76 (by omega) (fun _ => by
        refine Or.inl ⟨ev, hp44.1, ?_⟩
        first | exact Or.inl ⟨by omega, by rw [hg.1, show (8 * x + y) / 8 = x by omega]; rfl⟩ | exact Or.inr ⟨by omega, by rw [hg.2]; rfl⟩)
      · refine k_aload_n C dX11_habit_51 rfl rfl ?_
        refine k_getR C (j := 53) okC11 rfl (by decide) (by decide) rfl flX11_120 dX11_habit_52 ?_
        refine k_bipush C dX11_habit_55 (by decide) ?_
        refine k_iload_n C dX11_habit_57 rfl rfl ?_
        refine k_imul C dX11_habit_58 ?_
        refine k_iload_n C dX11_habit_59 rfl rfl ?_
        refine k_iadd C dX11_habit_60 ?_
        refine k_iaload C rfl (by decide) (by decide) ⟨by omega, by omega⟩ dX11_habit_61 (fun ld61 => ?_)
        refine k_goto C (tgt := 76) dX11_habit_62 rfl ?_
        exact k_iret C dX11_habit_76 (by omega) (fun _ => by
        refine Or.inl ⟨ev, hp44.1, ?_⟩
        first | exact Or.inl ⟨by omega, by rw [hg.1, show (8 * x + y) / 8 = x by omega]; rfl⟩ | exact Or.inr ⟨by omega, by rw [hg.2]; rfl⟩)
    · refine k_iconst C dX11_habit_41 ?_
      exact k_iret C dX11_habit_42 (by omega) (fun _ => Or.inr (by rcases hp35 with z | z; (exfalso; omega); exact ⟨by omega, z.2.2⟩))
  · refine k_iload_n C dX11_habit_13 rfl rfl ?_
    refine k_callS C okX11_136 dX11_habit_14 (c_M_isCall bl B y (by omega)) rfl (by decide) rfl (Nat.le_of_ble_eq_true rfl) (fun r14 M14 hr14 hp14 => ?_)
    obtain ⟨rfl, hp14⟩ := hp14
    refine k_if_eq C (tgt := 29) dX11_habit_17 rfl (by omega) (fun c17 => ?_) (fun c17 => ?_)
    · refine k_iconst C dX11_habit_29 ?_
      refine k_goto C (tgt := 34) dX11_habit_30 rfl ?_
      refine k_iconst C dX11_habit_34 ?_
      refine k_callV C okX11_140 dX11_habit_35 (c_M_bad bl B _ 1 (by omega) (by decide)) rfl rfl (by decide) rfl (by decide) rfl (Nat.le_of_ble_eq_true rfl) (fun r35 M35 hr35 hp35 => ?_)
      refine k_if_eq C (tgt := 43) dX11_habit_38 rfl (by omega) (fun c38 => ?_) (fun c38 => ?_)
      · have ev : ((0 ≤ x ∧ x < 8) ∧ (0 ≤ y ∧ y < 8) ∧ (wh = 0 ∨ wh = 1)) ∧ B = M35 := by
          rcases hp35 with z | z
          · exact ⟨by omega, z.2.2⟩
          · exfalso; omega
        obtain ⟨ev, rfl⟩ := ev
        refine k_aload_n C dX11_habit_43 rfl rfl ?_
        refine k_callV C okX11_272 dX11_habit_44 (c_M_habits bl B hB) rfl rfl (by decide) rfl (by decide) rfl (Nat.le_of_ble_eq_true rfl) (fun r44 M44 hr44 hp44 => ?_)
        have hg := hp44.2 (8 * x + y) (by omega) (by omega)
        refine k_iload_n C dX11_habit_47 rfl rfl ?_
        refine k_if_ne C (tgt := 65) dX11_habit_48 rfl (by omega) (fun c48 => ?_) (fun c48 => ?_)
        · refine k_aload_n C dX11_habit_65 rfl rfl ?_
          refine k_getR C (j := 54) okC11 rfl (by decide) (by decide) rfl flX11_123 dX11_habit_66 ?_
          refine k_bipush C dX11_habit_69 (by decide) ?_
          refine k_iload_n C dX11_habit_71 rfl rfl ?_
          refine k_imul C dX11_habit_72 ?_
          refine k_iload_n C dX11_habit_73 rfl rfl ?_
          refine k_iadd C dX11_habit_74 ?_
          refine k_iaload C rfl (by decide) (by decide) ⟨by omega, by omega⟩ dX11_habit_75 (fun ld75 => ?_)
          exact k_iret C dX11_habit_76 (by omega) (fun _ => by
        refine Or.inl ⟨ev, hp44.1, ?_⟩
        first | exact Or.inl ⟨by omega, by rw [hg.1, show (8 * x + y) / 8 = x by omega]; rfl⟩ | exact Or.inr ⟨by omega, by rw [hg.2]; rfl⟩)
        · refine k_aload_n C dX11_habit_51 rfl rfl ?_
          refine k_getR C (j := 53) okC11 rfl (by decide) (by decide) rfl flX11_120 dX11_habit_52 ?_
          refine k_bipush C dX11_habit_55 (by decide) ?_
          refine k_iload_n C dX11_habit_57 rfl rfl ?_
          refine k_imul C dX11_habit_58 ?_
          refine k_iload_n C dX11_habit_59 rfl rfl ?_
          refine k_iadd C dX11_habit_60 ?_
          refine k_iaload C rfl (by decide) (by decide) ⟨by omega, by omega⟩ dX11_habit_61 (fun ld61 => ?_)
          refine k_goto C (tgt := 76) dX11_habit_62 rfl ?_
          exact k_iret C dX11_habit_76 (by omega) (fun _ => by
        refine Or.inl ⟨ev, hp44.1, ?_⟩
        first | exact Or.inl ⟨by omega, by rw [hg.1, show (8 * x + y) / 8 = x by omega]; rfl⟩ | exact Or.inr ⟨by omega, by rw [hg.2]; rfl⟩)
      · refine k_iconst C dX11_habit_41 ?_
        exact k_iret C dX11_habit_42 (by omega) (fun _ => Or.inr (by rcases hp35 with z | z; (exfalso; omega); exact ⟨by omega, z.2.2⟩))
    · refine k_iload_n C dX11_habit_20 rfl rfl ?_
      refine k_if_lt C (tgt := 29) dX11_habit_21 rfl (by omega) (fun c21 => ?_) (fun c21 => ?_)
      · refine k_iconst C dX11_habit_29 ?_
        refine k_goto C (tgt := 34) dX11_habit_30 rfl ?_
        refine k_iconst C dX11_habit_34 ?_
        refine k_callV C okX11_140 dX11_habit_35 (c_M_bad bl B _ 1 (by omega) (by decide)) rfl rfl (by decide) rfl (by decide) rfl (Nat.le_of_ble_eq_true rfl) (fun r35 M35 hr35 hp35 => ?_)
        refine k_if_eq C (tgt := 43) dX11_habit_38 rfl (by omega) (fun c38 => ?_) (fun c38 => ?_)
        · have ev : ((0 ≤ x ∧ x < 8) ∧ (0 ≤ y ∧ y < 8) ∧ (wh = 0 ∨ wh = 1)) ∧ B = M35 := by
            rcases hp35 with z | z
            · exact ⟨by omega, z.2.2⟩
            · exfalso; omega
          obtain ⟨ev, rfl⟩ := ev
          refine k_aload_n C dX11_habit_43 rfl rfl ?_
          refine k_callV C okX11_272 dX11_habit_44 (c_M_habits bl B hB) rfl rfl (by decide) rfl (by decide) rfl (Nat.le_of_ble_eq_true rfl) (fun r44 M44 hr44 hp44 => ?_)
          have hg := hp44.2 (8 * x + y) (by omega) (by omega)
          refine k_iload_n C dX11_habit_47 rfl rfl ?_
          refine k_if_ne C (tgt := 65) dX11_habit_48 rfl (by omega) (fun c48 => ?_) (fun c48 => ?_)
          · refine k_aload_n C dX11_habit_65 rfl rfl ?_
            refine k_getR C (j := 54) okC11 rfl (by decide) (by decide) rfl flX11_123 dX11_habit_66 ?_
            refine k_bipush C dX11_habit_69 (by decide) ?_
            refine k_iload_n C dX11_habit_71 rfl rfl ?_
            refine k_imul C dX11_habit_72 ?_
            refine k_iload_n C dX11_habit_73 rfl rfl ?_
            refine k_iadd C dX11_habit_74 ?_
            refine k_iaload C rfl (by decide) (by decide) ⟨by omega, by omega⟩ dX11_habit_75 (fun ld75 => ?_)
            exact k_iret C dX11_habit_76 (by omega) (fun _ => by
        refine Or.inl ⟨ev, hp44.1, ?_⟩
        first | exact Or.inl ⟨by omega, by rw [hg.1, show (8 * x + y) / 8 = x by omega]; rfl⟩ | exact Or.inr ⟨by omega, by rw [hg.2]; rfl⟩)
          · refine k_aload_n C dX11_habit_51 rfl rfl ?_
            refine k_getR C (j := 53) okC11 rfl (by decide) (by decide) rfl flX11_120 dX11_habit_52 ?_
            refine k_bipush C dX11_habit_55 (by decide) ?_
            refine k_iload_n C dX11_habit_57 rfl rfl ?_
            refine k_imul C dX11_habit_58 ?_
            refine k_iload_n C dX11_habit_59 rfl rfl ?_
            refine k_iadd C dX11_habit_60 ?_
            refine k_iaload C rfl (by decide) (by decide) ⟨by omega, by omega⟩ dX11_habit_61 (fun ld61 => ?_)
            refine k_goto C (tgt := 76) dX11_habit_62 rfl ?_
            exact k_iret C dX11_habit_76 (by omega) (fun _ => by
        refine Or.inl ⟨ev, hp44.1, ?_⟩
        first | exact Or.inl ⟨by omega, by rw [hg.1, show (8 * x + y) / 8 = x by omega]; rfl⟩ | exact Or.inr ⟨by omega, by rw [hg.2]; rfl⟩)
        · refine k_iconst C dX11_habit_41 ?_
          exact k_iret C dX11_habit_42 (by omega) (fun _ => Or.inr (by rcases hp35 with z | z; (exfalso; omega); exact ⟨by omega, z.2.2⟩))
      · refine k_iload_n C dX11_habit_24 rfl rfl ?_
        refine k_iconst C dX11_habit_25 ?_
        refine k_icmp_le C (tgt := 33) dX11_habit_26 rfl (by omega) (by omega) (fun c26 => ?_) (fun c26 => ?_)
        · refine k_iconst C dX11_habit_33 ?_
          refine k_iconst C dX11_habit_34 ?_
          refine k_callV C okX11_140 dX11_habit_35 (c_M_bad bl B _ 1 (by omega) (by decide)) rfl rfl (by decide) rfl (by decide) rfl (Nat.le_of_ble_eq_true rfl) (fun r35 M35 hr35 hp35 => ?_)
          refine k_if_eq C (tgt := 43) dX11_habit_38 rfl (by omega) (fun c38 => ?_) (fun c38 => ?_)
          · have ev : ((0 ≤ x ∧ x < 8) ∧ (0 ≤ y ∧ y < 8) ∧ (wh = 0 ∨ wh = 1)) ∧ B = M35 := by
              rcases hp35 with z | z
              · exact ⟨by omega, z.2.2⟩
              · exfalso; omega
            obtain ⟨ev, rfl⟩ := ev
            refine k_aload_n C dX11_habit_43 rfl rfl ?_
            refine k_callV C okX11_272 dX11_habit_44 (c_M_habits bl B hB) rfl rfl (by decide) rfl (by decide) rfl (Nat.le_of_ble_eq_true rfl) (fun r44 M44 hr44 hp44 => ?_)
            have hg := hp44.2 (8 * x + y) (by omega) (by omega)
            refine k_iload_n C dX11_habit_47 rfl rfl ?_
            refine k_if_ne C (tgt := 65) dX11_habit_48 rfl (by omega) (fun c48 => ?_) (fun c48 => ?_)
            · refine k_aload_n C dX11_habit_65 rfl rfl ?_
              refine k_getR C (j := 54) okC11 rfl (by decide) (by decide) rfl flX11_123 dX11_habit_66 ?_
              refine k_bipush C dX11_habit_69 (by decide) ?_
              refine k_iload_n C dX11_habit_71 rfl rfl ?_
              refine k_imul C dX11_habit_72 ?_
              refine k_iload_n C dX11_habit_73 rfl rfl ?_
              refine k_iadd C dX11_habit_74 ?_
              refine k_iaload C rfl (by decide) (by decide) ⟨by omega, by omega⟩ dX11_habit_75 (fun ld75 => ?_)
              exact k_iret C dX11_habit_76 (by omega) (fun _ => by
        refine Or.inl ⟨ev, hp44.1, ?_⟩
        first | exact Or.inl ⟨by omega, by rw [hg.1, show (8 * x + y) / 8 = x by omega]; rfl⟩ | exact Or.inr ⟨by omega, by rw [hg.2]; rfl⟩)
            · refine k_aload_n C dX11_habit_51 rfl rfl ?_
              refine k_getR C (j := 53) okC11 rfl (by decide) (by decide) rfl flX11_120 dX11_habit_52 ?_
              refine k_bipush C dX11_habit_55 (by decide) ?_
              refine k_iload_n C dX11_habit_57 rfl rfl ?_
              refine k_imul C dX11_habit_58 ?_
              refine k_iload_n C dX11_habit_59 rfl rfl ?_
              refine k_iadd C dX11_habit_60 ?_
              refine k_iaload C rfl (by decide) (by decide) ⟨by omega, by omega⟩ dX11_habit_61 (fun ld61 => ?_)
              refine k_goto C (tgt := 76) dX11_habit_62 rfl ?_
              exact k_iret C dX11_habit_76 (by omega) (fun _ => by
        refine Or.inl ⟨ev, hp44.1, ?_⟩
        first | exact Or.inl ⟨by omega, by rw [hg.1, show (8 * x + y) / 8 = x by omega]; rfl⟩ | exact Or.inr ⟨by omega, by rw [hg.2]; rfl⟩)
          · refine k_iconst C dX11_habit_41 ?_
            exact k_iret C dX11_habit_42 (by omega) (fun _ => Or.inr (by rcases hp35 with z | z; (exfalso; omega); exact ⟨by omega, z.2.2⟩))
        · refine k_iconst C dX11_habit_29 ?_
          refine k_goto C (tgt := 34) dX11_habit_30 rfl ?_
          refine k_iconst C dX11_habit_34 ?_
          refine k_callV C okX11_140 dX11_habit_35 (c_M_bad bl B _ 1 (by omega) (by decide)) rfl rfl (by decide) rfl (by decide) rfl (Nat.le_of_ble_eq_true rfl) (fun r35 M35 hr35 hp35 => ?_)
          refine k_if_eq C (tgt := 43) dX11_habit_38 rfl (by omega) (fun c38 => ?_) (fun c38 => ?_)
          · have ev : ((0 ≤ x ∧ x < 8) ∧ (0 ≤ y ∧ y < 8) ∧ (wh = 0 ∨ wh = 1)) ∧ B = M35 := by
              rcases hp35 with z | z
              · exact ⟨by omega, z.2.2⟩
              · exfalso; omega
            obtain ⟨ev, rfl⟩ := ev
            refine k_aload_n C dX11_habit_43 rfl rfl ?_
            refine k_callV C okX11_272 dX11_habit_44 (c_M_habits bl B hB) rfl rfl (by decide) rfl (by decide) rfl (Nat.le_of_ble_eq_true rfl) (fun r44 M44 hr44 hp44 => ?_)
            have hg := hp44.2 (8 * x + y) (by omega) (by omega)
            refine k_iload_n C dX11_habit_47 rfl rfl ?_
            refine k_if_ne C (tgt := 65) dX11_habit_48 rfl (by omega) (fun c48 => ?_) (fun c48 => ?_)
            · refine k_aload_n C dX11_habit_65 rfl rfl ?_
              refine k_getR C (j := 54) okC11 rfl (by decide) (by decide) rfl flX11_123 dX11_habit_66 ?_
              refine k_bipush C dX11_habit_69 (by decide) ?_
              refine k_iload_n C dX11_habit_71 rfl rfl ?_
              refine k_imul C dX11_habit_72 ?_
              refine k_iload_n C dX11_habit_73 rfl rfl ?_
              refine k_iadd C dX11_habit_74 ?_
              refine k_iaload C rfl (by decide) (by decide) ⟨by omega, by omega⟩ dX11_habit_75 (fun ld75 => ?_)
              exact k_iret C dX11_habit_76 (by omega) (fun _ => by
        refine Or.inl ⟨ev, hp44.1, ?_⟩
        first | exact Or.inl ⟨by omega, by rw [hg.1, show (8 * x + y) / 8 = x by omega]; rfl⟩ | exact Or.inr ⟨by omega, by rw [hg.2]; rfl⟩)
            · refine k_aload_n C dX11_habit_51 rfl rfl ?_
              refine k_getR C (j := 53) okC11 rfl (by decide) (by decide) rfl flX11_120 dX11_habit_52 ?_
              refine k_bipush C dX11_habit_55 (by decide) ?_
              refine k_iload_n C dX11_habit_57 rfl rfl ?_
              refine k_imul C dX11_habit_58 ?_
              refine k_iload_n C dX11_habit_59 rfl rfl ?_
              refine k_iadd C dX11_habit_60 ?_
              refine k_iaload C rfl (by decide) (by decide) ⟨by omega, by omega⟩ dX11_habit_61 (fun ld61 => ?_)
              refine k_goto C (tgt := 76) dX11_habit_62 rfl ?_
              exact k_iret C dX11_habit_76 (by omega) (fun _ => by
        refine Or.inl ⟨ev, hp44.1, ?_⟩
        first | exact Or.inl ⟨by omega, by rw [hg.1, show (8 * x + y) / 8 = x by omega]; rfl⟩ | exact Or.inr ⟨by omega, by rw [hg.2]; rfl⟩)
          · refine k_iconst C dX11_habit_41 ?_
            exact k_iret C dX11_habit_42 (by omega) (fun _ => Or.inr (by rcases hp35 with z | z; (exfalso; omega); exact ⟨by omega, z.2.2⟩))
set_option maxHeartbeats 4000000 in
set_option maxRecDepth 100000 in
theorem c_M_habit (bl : Nat) (M : Mem) (hB : BkM M) (x y wh : Int) (hx : inR x) (hy : inR y) (hw : inR wh) : Ct (shM bl) nM yX11_habit cX11_habit 4 (some .int) (lvl 1) [.inr 0, .inl x, .inl y, .inl wh] M (fun r M' => (((0 ≤ x ∧ x < 8) ∧ (0 ≤ y ∧ y < 8) ∧ (wh = 0 ∨ wh = 1)) ∧ (∀ k, k ≠ 37 → k ≠ 38 → M' k = (th0 M) k) ∧ ((wh = 0 ∧ r = hvM (th0 M) x) ∨ (wh = 1 ∧ r = hoM (th0 M) (8 * x + y)))) ∨ (¬ ((0 ≤ x ∧ x < 8) ∧ (0 ≤ y ∧ y < 8) ∧ (wh = 0 ∨ wh = 1)) ∧ M' = up (th0 M) 0 0 1)) := by
  refine Ct_of (by decide +kernel) (Nat.le_of_ble_eq_true rfl) (fun K C => ?_)
  refine k_aload_n C dX11_habit_0 rfl rfl ?_
  refine k_iconst C dX11_habit_1 ?_
  refine k_putJ C 0 0 rfl okC11 rfl (by decide) (by decide) rfl rfl rfl (by omega) flX11_133 dX11_habit_2 ?_
  exact m_habit bl (th0 M) (th0_B hB) x y wh hx hy hw C
set_option maxHeartbeats 4000000 in
set_option maxRecDepth 100000 in
theorem m_rank2 {K : Kt} (bl : Nat) (B : Mem) (hB : BkM B) (k wh : Int) (hk : inR k) (hw : inR wh) (C : Ctx (shM bl) nM RX11 cX11_rank 6 (some .int) (lvl 2) (fun r M' => ((wh = 0 ∨ wh = 1) ∧ (∀ k, k ≠ 37 → k ≠ 38 → M' k = B k) ∧ ∃ q, RkP (hvM B) (hoM B) k q ∧ ((q = -1 ∧ r = -1) ∨ (0 ≤ q ∧ ((wh = 0 ∧ r = q / 8) ∨ (wh = 1 ∧ r = q % 8))))) ∨ (¬ (wh = 0 ∨ wh = 1) ∧ M' = up B 0 0 1)) K) (hwh : wh = 0 ∨ wh = 1) (N : Mem) (hS : SvM B N) (h : Int) (hh : 0 ≤ h ∧ h < 64) (kk : K 136 [(0, .inr 0), (1, .inl k), (2, .inl wh), (3, .inl h), (4, .inl (ahN (hvM B) (hoM B) h))] [] N) (m g : Int) (hg : 0 ≤ g ∧ g ≤ 64) (hm : m = cnI (fun g => rkd (hvM B) g ∧ ahd (hvM B) (hoM B) g h) g) : K 74 [(0, .inr 0), (1, .inl k), (2, .inl wh), (3, .inl h), (4, .inl m), (5, .inl g)] [] N := by
  have hq := cnI_rg (fun g => rkd (hvM B) g ∧ ahd (hvM B) (hoM B) g h) hg.1
  have hok := SvM_ok hB hS
  refine k_iload C dX11_rank_74 rfl ?_
  refine k_bipush C dX11_rank_76 (by decide) ?_
  refine k_icmp_ge C (tgt := 136) dX11_rank_78 rfl (by omega) (by omega) (fun c78 => ?_) (fun c78 => ?_)
  · refine k_cut2 C (lv' := [(0, _), (1, _), (2, _), (3, _), (4, _)]) ⟨rfl, rfl, rfl, rfl, rfl, trivial⟩ ?_
    have e : m = ahN (hvM B) (hoM B) h := by rw [hm, show g = 64 by omega]; rfl
    rw [e]
    exact kk
  · have sg := hS.2 g hg.1 c78
    refine k_iload C dX11_rank_81 rfl ?_
    refine k_iload C dX11_rank_83 rfl ?_
    refine k_iload_n C dX11_rank_85 rfl rfl ?_
    refine k_icmp_eq C (tgt := 126) dX11_rank_86 rfl (by omega) (by omega) (fun c86 => ?_) (fun c86 => ?_)
    · refine k_iconst C dX11_rank_126 ?_
      refine k_iadd C dX11_rank_127 ?_
      refine k_istore C dX11_rank_128 (by decide) ?_
      refine k_iinc C dX11_rank_130 (by decide) rfl ?_
      refine k_goto C (tgt := 74) dX11_rank_133 rfl ?_
      refine k_cut2 C (lv' := [(0, _), (1, _), (2, _), (3, _), (4, _), (5, _)]) ⟨rfl, rfl, rfl, rfl, rfl, rfl, trivial⟩ ?_
      refine m_rank2 bl B hB k wh hk hw C hwh N hS h hh kk _ (g + 1) (by omega) ?_
      rw [cnI_s _ hg.1]
      first
      | (rw [iteP_pos ⟨⟨c99, c109⟩, by rcases hp116 with z | z; exact z.2; omega⟩, hm]; done)
      | (rw [iteP_neg (fun q => by rcases hp116 with z | z; omega; exact z.2 q.2), hm]; done)
      | (rw [iteP_neg (fun q => by have := q.1.2; omega), hm]; done)
      | (rw [iteP_neg (fun q => q.1.1 c99), hm]; done)
      | (rw [iteP_neg (fun q => ahd_self _ _ h (by rw [c86] at q; exact q.2)), hm]; done)
    · refine k_iload C dX11_rank_89 rfl ?_
      refine k_bipush C dX11_rank_91 (by decide) ?_
      refine k_idiv C dX11_rank_93 ⟨by omega, by omega⟩ (by decide) ?_
      refine k_iload C dX11_rank_94 rfl ?_
      refine k_bipush C dX11_rank_96 (by decide) ?_
      refine k_irem C dX11_rank_98 ⟨by omega, by omega⟩ (by decide) ?_
      refine k_icmp_eq C (tgt := 126) dX11_rank_99 rfl (by omega) (by omega) (fun c99 => ?_) (fun c99 => ?_)
      · refine k_iconst C dX11_rank_126 ?_
        refine k_iadd C dX11_rank_127 ?_
        refine k_istore C dX11_rank_128 (by decide) ?_
        refine k_iinc C dX11_rank_130 (by decide) rfl ?_
        refine k_goto C (tgt := 74) dX11_rank_133 rfl ?_
        refine k_cut2 C (lv' := [(0, _), (1, _), (2, _), (3, _), (4, _), (5, _)]) ⟨rfl, rfl, rfl, rfl, rfl, rfl, trivial⟩ ?_
        refine m_rank2 bl B hB k wh hk hw C hwh N hS h hh kk _ (g + 1) (by omega) ?_
        rw [cnI_s _ hg.1]
        first
        | (rw [iteP_pos ⟨⟨c99, c109⟩, by rcases hp116 with z | z; exact z.2; omega⟩, hm]; done)
        | (rw [iteP_neg (fun q => by rcases hp116 with z | z; omega; exact z.2 q.2), hm]; done)
        | (rw [iteP_neg (fun q => by have := q.1.2; omega), hm]; done)
        | (rw [iteP_neg (fun q => q.1.1 c99), hm]; done)
        | (rw [iteP_neg (fun q => ahd_self _ _ h (by rw [c86] at q; exact q.2)), hm]; done)
      · refine k_aload_n C dX11_rank_102 rfl rfl ?_
        refine k_getR C (j := 53) okC11 rfl (by decide) (by decide) rfl flX11_120 dX11_rank_103 ?_
        refine k_iload C dX11_rank_106 rfl ?_
        refine k_iaload C rfl (by decide) (by decide) ⟨by omega, by omega⟩ dX11_rank_108 (fun ld108 => ?_)
        rw [sg.1] at ld108 ⊢
        refine k_if_le C (tgt := 126) dX11_rank_109 rfl (by omega) (fun c109 => ?_) (fun c109 => ?_)
        · refine k_iconst C dX11_rank_126 ?_
          refine k_iadd C dX11_rank_127 ?_
          refine k_istore C dX11_rank_128 (by decide) ?_
          refine k_iinc C dX11_rank_130 (by decide) rfl ?_
          refine k_goto C (tgt := 74) dX11_rank_133 rfl ?_
          refine k_cut2 C (lv' := [(0, _), (1, _), (2, _), (3, _), (4, _), (5, _)]) ⟨rfl, rfl, rfl, rfl, rfl, rfl, trivial⟩ ?_
          refine m_rank2 bl B hB k wh hk hw C hwh N hS h hh kk _ (g + 1) (by omega) ?_
          rw [cnI_s _ hg.1]
          first
          | (rw [iteP_pos ⟨⟨c99, c109⟩, by rcases hp116 with z | z; exact z.2; omega⟩, hm]; done)
          | (rw [iteP_neg (fun q => by rcases hp116 with z | z; omega; exact z.2 q.2), hm]; done)
          | (rw [iteP_neg (fun q => by have := q.1.2; omega), hm]; done)
          | (rw [iteP_neg (fun q => q.1.1 c99), hm]; done)
          | (rw [iteP_neg (fun q => ahd_self _ _ h (by rw [c86] at q; exact q.2)), hm]; done)
        · refine k_aload_n C dX11_rank_112 rfl rfl ?_
          refine k_iload C dX11_rank_113 rfl ?_
          refine k_iload_n C dX11_rank_115 rfl rfl ?_
          refine k_callV C okX11_275 dX11_rank_116 (c_M_isAhead bl N hok g h (by omega) hh) rfl rfl (by decide) rfl (by decide) rfl (Nat.le_of_ble_eq_true rfl) (fun r116 M116 hr116 hp116 => ?_)
          obtain ⟨rfl, hp116⟩ := hp116
          rw [SvM_ah hS (by omega) hh] at hp116
          refine k_if_eq C (tgt := 126) dX11_rank_119 rfl (by omega) (fun c119 => ?_) (fun c119 => ?_)
          · refine k_iconst C dX11_rank_126 ?_
            refine k_iadd C dX11_rank_127 ?_
            refine k_istore C dX11_rank_128 (by decide) ?_
            refine k_iinc C dX11_rank_130 (by decide) rfl ?_
            refine k_goto C (tgt := 74) dX11_rank_133 rfl ?_
            refine k_cut2 C (lv' := [(0, _), (1, _), (2, _), (3, _), (4, _), (5, _)]) ⟨rfl, rfl, rfl, rfl, rfl, rfl, trivial⟩ ?_
            refine m_rank2 bl B hB k wh hk hw C hwh N hS h hh kk _ (g + 1) (by omega) ?_
            rw [cnI_s _ hg.1]
            first
            | (rw [iteP_pos ⟨⟨c99, c109⟩, by rcases hp116 with z | z; exact z.2; omega⟩, hm]; done)
            | (rw [iteP_neg (fun q => by rcases hp116 with z | z; omega; exact z.2 q.2), hm]; done)
            | (rw [iteP_neg (fun q => by have := q.1.2; omega), hm]; done)
            | (rw [iteP_neg (fun q => q.1.1 c99), hm]; done)
            | (rw [iteP_neg (fun q => ahd_self _ _ h (by rw [c86] at q; exact q.2)), hm]; done)
          · refine k_iconst C dX11_rank_122 ?_
            refine k_goto C (tgt := 127) dX11_rank_123 rfl ?_
            refine k_iadd C dX11_rank_127 ?_
            refine k_istore C dX11_rank_128 (by decide) ?_
            refine k_iinc C dX11_rank_130 (by decide) rfl ?_
            refine k_goto C (tgt := 74) dX11_rank_133 rfl ?_
            refine k_cut2 C (lv' := [(0, _), (1, _), (2, _), (3, _), (4, _), (5, _)]) ⟨rfl, rfl, rfl, rfl, rfl, rfl, trivial⟩ ?_
            refine m_rank2 bl B hB k wh hk hw C hwh N hS h hh kk _ (g + 1) (by omega) ?_
            rw [cnI_s _ hg.1]
            first
            | (rw [iteP_pos ⟨⟨c99, c109⟩, by rcases hp116 with z | z; exact z.2; omega⟩, hm]; done)
            | (rw [iteP_neg (fun q => by rcases hp116 with z | z; omega; exact z.2 q.2), hm]; done)
            | (rw [iteP_neg (fun q => by have := q.1.2; omega), hm]; done)
            | (rw [iteP_neg (fun q => q.1.1 c99), hm]; done)
            | (rw [iteP_neg (fun q => ahd_self _ _ h (by rw [c86] at q; exact q.2)), hm]; done)
termination_by (64 - g).toNat
decreasing_by all_goals omega
set_option maxHeartbeats 4000000 in
set_option maxRecDepth 100000 in
theorem m_rank1 {K : Kt} (bl : Nat) (B : Mem) (hB : BkM B) (k wh : Int) (hk : inR k) (hw : inR wh) (C : Ctx (shM bl) nM RX11 cX11_rank 6 (some .int) (lvl 2) (fun r M' => ((wh = 0 ∨ wh = 1) ∧ (∀ k, k ≠ 37 → k ≠ 38 → M' k = B k) ∧ ∃ q, RkP (hvM B) (hoM B) k q ∧ ((q = -1 ∧ r = -1) ∨ (0 ≤ q ∧ ((wh = 0 ∧ r = q / 8) ∨ (wh = 1 ∧ r = q % 8))))) ∨ (¬ (wh = 0 ∨ wh = 1) ∧ M' = up B 0 0 1)) K) (hwh : wh = 0 ∨ wh = 1) (N : Mem) (hS : SvM B N) (h : Int) (hh : 0 ≤ h ∧ h ≤ 64) (hn : ∀ g, 0 ≤ g → g < h → ¬ (rkd (hvM B) g ∧ ahN (hvM B) (hoM B) g = k)) : K 35 [(0, .inr 0), (1, .inl k), (2, .inl wh), (3, .inl h)] [] N := by
  refine k_iload_n C dX11_rank_35 rfl rfl ?_
  refine k_bipush C dX11_rank_36 (by decide) ?_
  refine k_icmp_ge C (tgt := 164) dX11_rank_38 rfl (by omega) (by omega) (fun c38 => ?_) (fun c38 => ?_)
  · refine k_iconst C dX11_rank_164 ?_
    exact k_iret C dX11_rank_165 (by omega) (fun _ => Or.inl ⟨hwh, hS.1, -1, Or.inr ⟨rfl, fun g z1 z2 q => by first | exact hn g z1 (by omega) q | (have := ahN_rg (hvM B) (hoM B) g; omega)⟩, Or.inl ⟨rfl, rfl⟩⟩)
  · refine k_iload_n C dX11_rank_41 rfl rfl ?_
    refine k_if_lt C (tgt := 164) dX11_rank_42 rfl (by omega) (fun c42 => ?_) (fun c42 => ?_)
    · refine k_iconst C dX11_rank_164 ?_
      exact k_iret C dX11_rank_165 (by omega) (fun _ => Or.inl ⟨hwh, hS.1, -1, Or.inr ⟨rfl, fun g z1 z2 q => by first | exact hn g z1 (by omega) q | (have := ahN_rg (hvM B) (hoM B) g; omega)⟩, Or.inl ⟨rfl, rfl⟩⟩)
    · have sh := hS.2 h hh.1 c38
      refine k_iload_n C dX11_rank_45 rfl rfl ?_
      refine k_bipush C dX11_rank_46 (by decide) ?_
      refine k_idiv C dX11_rank_48 ⟨by omega, by omega⟩ (by decide) ?_
      refine k_iload_n C dX11_rank_49 rfl rfl ?_
      refine k_bipush C dX11_rank_50 (by decide) ?_
      refine k_irem C dX11_rank_52 ⟨by omega, by omega⟩ (by decide) ?_
      refine k_icmp_eq C (tgt := 158) dX11_rank_53 rfl (by omega) (by omega) (fun c53 => ?_) (fun c53 => ?_)
      · refine k_iinc C dX11_rank_158 (by decide) rfl ?_
        refine k_goto C (tgt := 35) dX11_rank_161 rfl ?_
        refine k_cut2 C (lv' := [(0, _), (1, _), (2, _), (3, _)]) ⟨rfl, rfl, rfl, rfl, trivial⟩ ?_
        refine m_rank1 bl B hB k wh hk hw C hwh N hS (h + 1) (by omega) (fun g z1 z2 q => ?_)
        by_cases e : g = h
        · subst e; first | exact q.1.1 c53 | (have := q.1.2; omega)
        · exact hn g z1 (by omega) q
      · refine k_aload_n C dX11_rank_56 rfl rfl ?_
        refine k_getR C (j := 53) okC11 rfl (by decide) (by decide) rfl flX11_120 dX11_rank_57 ?_
        refine k_iload_n C dX11_rank_60 rfl rfl ?_
        refine k_iaload C rfl (by decide) (by decide) ⟨by omega, by omega⟩ dX11_rank_61 (fun ld61 => ?_)
        rw [sh.1] at ld61 ⊢
        have rh := hvM_rg hB (h / 8)
        refine k_if_ne C (tgt := 68) dX11_rank_62 rfl (by omega) (fun c62 => ?_) (fun c62 => ?_)
        · refine k_iconst C dX11_rank_68 ?_
          refine k_istore C dX11_rank_69 (by decide) ?_
          refine k_iconst C dX11_rank_71 ?_
          refine k_istore C dX11_rank_72 (by decide) ?_
          refine k_cut2 C (lv' := [(0, _), (1, _), (2, _), (3, _), (4, _), (5, _)]) ⟨rfl, rfl, rfl, rfl, rfl, rfl, trivial⟩ ?_
          refine m_rank2 bl B hB k wh hk hw C hwh N hS h (by omega) ?_ 0 0 (by omega) rfl
          have ar := ahN_rg (hvM B) (hoM B) h
          refine k_iload C dX11_rank_136 rfl ?_
          refine k_iload_n C dX11_rank_138 rfl rfl ?_
          refine k_icmp_ne C (tgt := 158) dX11_rank_139 rfl (by omega) (by omega) (fun c139 => ?_) (fun c139 => ?_)
          · refine k_iinc C dX11_rank_158 (by decide) rfl ?_
            refine k_goto C (tgt := 35) dX11_rank_161 rfl ?_
            refine k_cut2 C (lv' := [(0, _), (1, _), (2, _), (3, _)]) ⟨rfl, rfl, rfl, rfl, trivial⟩ ?_
            refine m_rank1 bl B hB k wh hk hw C hwh N hS (h + 1) (by omega) (fun g z1 z2 q => ?_)
            by_cases e : g = h
            · subst e; exact c139 q.2
            · exact hn g z1 (by omega) q
          · refine k_iload_n C dX11_rank_142 rfl rfl ?_
            refine k_if_ne C (tgt := 153) dX11_rank_143 rfl (by omega) (fun c143 => ?_) (fun c143 => ?_)
            · refine k_iload_n C dX11_rank_153 rfl rfl ?_
              refine k_bipush C dX11_rank_154 (by decide) ?_
              refine k_irem C dX11_rank_156 ⟨by omega, by omega⟩ (by decide) ?_
              exact k_iret C dX11_rank_157 (by omega) (fun _ => Or.inl ⟨hwh, hS.1, h, Or.inl ⟨hh.1, c38, ⟨c53, by omega⟩, c139, hn⟩, Or.inr ⟨hh.1, by first | exact Or.inl ⟨by omega, rfl⟩ | exact Or.inr ⟨by omega, rfl⟩⟩⟩)
            · refine k_iload_n C dX11_rank_146 rfl rfl ?_
              refine k_bipush C dX11_rank_147 (by decide) ?_
              refine k_idiv C dX11_rank_149 ⟨by omega, by omega⟩ (by decide) ?_
              refine k_goto C (tgt := 157) dX11_rank_150 rfl ?_
              exact k_iret C dX11_rank_157 (by omega) (fun _ => Or.inl ⟨hwh, hS.1, h, Or.inl ⟨hh.1, c38, ⟨c53, by omega⟩, c139, hn⟩, Or.inr ⟨hh.1, by first | exact Or.inl ⟨by omega, rfl⟩ | exact Or.inr ⟨by omega, rfl⟩⟩⟩)
        · refine k_goto C (tgt := 158) dX11_rank_65 rfl ?_
          refine k_iinc C dX11_rank_158 (by decide) rfl ?_
          refine k_goto C (tgt := 35) dX11_rank_161 rfl ?_
          refine k_cut2 C (lv' := [(0, _), (1, _), (2, _), (3, _)]) ⟨rfl, rfl, rfl, rfl, trivial⟩ ?_
          refine m_rank1 bl B hB k wh hk hw C hwh N hS (h + 1) (by omega) (fun g z1 z2 q => ?_)
          by_cases e : g = h
          · subst e; first | exact q.1.1 c53 | (have := q.1.2; omega)
          · exact hn g z1 (by omega) q
termination_by (64 - h).toNat
decreasing_by all_goals omega
set_option maxHeartbeats 4000000 in
set_option maxRecDepth 100000 in
theorem m_rank {K : Kt} (bl : Nat) (B : Mem) (hB : BkM B) (k wh : Int) (hk : inR k) (hw : inR wh) (C : Ctx (shM bl) nM RX11 cX11_rank 6 (some .int) (lvl 2) (fun r M' => ((wh = 0 ∨ wh = 1) ∧ (∀ k, k ≠ 37 → k ≠ 38 → M' k = B k) ∧ ∃ q, RkP (hvM B) (hoM B) k q ∧ ((q = -1 ∧ r = -1) ∨ (0 ≤ q ∧ ((wh = 0 ∧ r = q / 8) ∨ (wh = 1 ∧ r = q % 8))))) ∨ (¬ (wh = 0 ∨ wh = 1) ∧ M' = up B 0 0 1)) K) : K 5 [(0, .inr 0), (1, .inl k), (2, .inl wh)] [] B := by
  refine k_aload_n C dX11_rank_5 rfl rfl ?_
  refine k_iload_n C dX11_rank_6 rfl rfl ?_
  refine k_if_lt C (tgt := 15) dX11_rank_7 rfl (by omega) (fun c7 => ?_) (fun c7 => ?_)
  · refine k_iconst C dX11_rank_15 ?_
    refine k_goto C (tgt := 20) dX11_rank_16 rfl ?_
    refine k_iconst C dX11_rank_20 ?_
    refine k_callV C okX11_140 dX11_rank_21 (c_M_bad bl B _ 1 (by omega) (by decide)) rfl rfl (by decide) rfl (by decide) rfl (Nat.le_of_ble_eq_true rfl) (fun r21 M21 hr21 hp21 => ?_)
    refine k_if_eq C (tgt := 29) dX11_rank_24 rfl (by omega) (fun c24 => ?_) (fun c24 => ?_)
    · have ev : (wh = 0 ∨ wh = 1) ∧ B = M21 := by
        rcases hp21 with z | z
        · exact ⟨by omega, z.2.2⟩
        · exfalso; omega
      obtain ⟨ev, rfl⟩ := ev
      refine k_aload_n C dX11_rank_29 rfl rfl ?_
      refine k_callV C okX11_272 dX11_rank_30 (c_M_habits bl B hB) rfl rfl (by decide) rfl (by decide) rfl (Nat.le_of_ble_eq_true rfl) (fun r30 M30 hr30 hp30 => ?_)
      refine k_iconst C dX11_rank_33 ?_
      refine k_istore_n C dX11_rank_34 rfl (by decide) ?_
      refine k_cut2 C (lv' := [(0, _), (1, _), (2, _), (3, _)]) ⟨rfl, rfl, rfl, rfl, trivial⟩ ?_
      exact m_rank1 bl B hB k wh hk hw C ev M30 ⟨hp30.1, hp30.2⟩ 0 (by omega) (fun g z1 z2 => by omega)
    · refine k_iconst C dX11_rank_27 ?_
      exact k_iret C dX11_rank_28 (by omega) (fun _ => Or.inr (by rcases hp21 with z | z; (exfalso; omega); exact ⟨by omega, z.2.2⟩))
  · refine k_iload_n C dX11_rank_10 rfl rfl ?_
    refine k_iconst C dX11_rank_11 ?_
    refine k_icmp_le C (tgt := 19) dX11_rank_12 rfl (by omega) (by omega) (fun c12 => ?_) (fun c12 => ?_)
    · refine k_iconst C dX11_rank_19 ?_
      refine k_iconst C dX11_rank_20 ?_
      refine k_callV C okX11_140 dX11_rank_21 (c_M_bad bl B _ 1 (by omega) (by decide)) rfl rfl (by decide) rfl (by decide) rfl (Nat.le_of_ble_eq_true rfl) (fun r21 M21 hr21 hp21 => ?_)
      refine k_if_eq C (tgt := 29) dX11_rank_24 rfl (by omega) (fun c24 => ?_) (fun c24 => ?_)
      · have ev : (wh = 0 ∨ wh = 1) ∧ B = M21 := by
          rcases hp21 with z | z
          · exact ⟨by omega, z.2.2⟩
          · exfalso; omega
        obtain ⟨ev, rfl⟩ := ev
        refine k_aload_n C dX11_rank_29 rfl rfl ?_
        refine k_callV C okX11_272 dX11_rank_30 (c_M_habits bl B hB) rfl rfl (by decide) rfl (by decide) rfl (Nat.le_of_ble_eq_true rfl) (fun r30 M30 hr30 hp30 => ?_)
        refine k_iconst C dX11_rank_33 ?_
        refine k_istore_n C dX11_rank_34 rfl (by decide) ?_
        refine k_cut2 C (lv' := [(0, _), (1, _), (2, _), (3, _)]) ⟨rfl, rfl, rfl, rfl, trivial⟩ ?_
        exact m_rank1 bl B hB k wh hk hw C ev M30 ⟨hp30.1, hp30.2⟩ 0 (by omega) (fun g z1 z2 => by omega)
      · refine k_iconst C dX11_rank_27 ?_
        exact k_iret C dX11_rank_28 (by omega) (fun _ => Or.inr (by rcases hp21 with z | z; (exfalso; omega); exact ⟨by omega, z.2.2⟩))
    · refine k_iconst C dX11_rank_15 ?_
      refine k_goto C (tgt := 20) dX11_rank_16 rfl ?_
      refine k_iconst C dX11_rank_20 ?_
      refine k_callV C okX11_140 dX11_rank_21 (c_M_bad bl B _ 1 (by omega) (by decide)) rfl rfl (by decide) rfl (by decide) rfl (Nat.le_of_ble_eq_true rfl) (fun r21 M21 hr21 hp21 => ?_)
      refine k_if_eq C (tgt := 29) dX11_rank_24 rfl (by omega) (fun c24 => ?_) (fun c24 => ?_)
      · have ev : (wh = 0 ∨ wh = 1) ∧ B = M21 := by
          rcases hp21 with z | z
          · exact ⟨by omega, z.2.2⟩
          · exfalso; omega
        obtain ⟨ev, rfl⟩ := ev
        refine k_aload_n C dX11_rank_29 rfl rfl ?_
        refine k_callV C okX11_272 dX11_rank_30 (c_M_habits bl B hB) rfl rfl (by decide) rfl (by decide) rfl (Nat.le_of_ble_eq_true rfl) (fun r30 M30 hr30 hp30 => ?_)
        refine k_iconst C dX11_rank_33 ?_
        refine k_istore_n C dX11_rank_34 rfl (by decide) ?_
        refine k_cut2 C (lv' := [(0, _), (1, _), (2, _), (3, _)]) ⟨rfl, rfl, rfl, rfl, trivial⟩ ?_
        exact m_rank1 bl B hB k wh hk hw C ev M30 ⟨hp30.1, hp30.2⟩ 0 (by omega) (fun g z1 z2 => by omega)
      · refine k_iconst C dX11_rank_27 ?_
        exact k_iret C dX11_rank_28 (by omega) (fun _ => Or.inr (by rcases hp21 with z | z; (exfalso; omega); exact ⟨by omega, z.2.2⟩))
set_option maxHeartbeats 4000000 in
set_option maxRecDepth 100000 in
theorem c_M_rank (bl : Nat) (M : Mem) (hB : BkM M) (k wh : Int) (hk : inR k) (hw : inR wh) : Ct (shM bl) nM yX11_rank cX11_rank 6 (some .int) (lvl 2) [.inr 0, .inl k, .inl wh] M (fun r M' => ((wh = 0 ∨ wh = 1) ∧ (∀ k, k ≠ 37 → k ≠ 38 → M' k = (th0 M) k) ∧ ∃ q, RkP (hvM (th0 M)) (hoM (th0 M)) k q ∧ ((q = -1 ∧ r = -1) ∨ (0 ≤ q ∧ ((wh = 0 ∧ r = q / 8) ∨ (wh = 1 ∧ r = q % 8))))) ∨ (¬ (wh = 0 ∨ wh = 1) ∧ M' = up (th0 M) 0 0 1)) := by
  refine Ct_of (by decide +kernel) (Nat.le_of_ble_eq_true rfl) (fun K C => ?_)
  refine k_aload_n C dX11_rank_0 rfl rfl ?_
  refine k_iconst C dX11_rank_1 ?_
  refine k_putJ C 0 0 rfl okC11 rfl (by decide) (by decide) rfl rfl rfl (by omega) flX11_133 dX11_rank_2 ?_
  exact m_rank bl (th0 M) (th0_B hB) k wh hk hw C
