/-! UsageDesk$Fewest -/
abbrev GWc (M : Mem) : Prop := TWc M (fun x => x) (M 27)
theorem Fo_id {m : Int} : Fo m (fun x => x) := fun x a _ => ⟨a, Int.le_refl x⟩
set_option maxHeartbeats 4000000 in
set_option maxRecDepth 100000 in
theorem l_lacked {K : Kt} (M : Mem) (hB : BkC M) (hC : ChOk 3 (M 27)) (row : Int) (hr : 0 ≤ row ∧ row < M 3 6) (h1 : 1 ≤ M 5 row) (C : Ctx shC nC RX1 cX1_slotLackedBy 6 (some .int) (lvl 2) (fun r M' => M = M' ∧ ((r = -1 ∧ tkn (fun x => x) (M 27) (M 4) (M 5) row) ∨ (0 ≤ r ∧ r < 24 ∧ ¬ tkn (fun x => x) (M 27) (M 4) (M 5) row ∧ lkd (M 27) (M 4) (M 5) row r) ∨ (r = -2 ∧ ¬ tkn (fun x => x) (M 27) (M 4) (M 5) row ∧ ∀ s, ¬ lkd (M 27) (M 4) (M 5) row s))) K) (i a : Int) (hi : 0 ≤ i ∧ i ≤ M 5 row) (ha : a = wkf (fun x => x) (M 27) (M 4) row i.toNat) (hn : ¬ a = -1) : K 14 [(0, .inr 26), (1, .inl row), (2, .inl a), (3, .inl (M 5 row)), (4, .inl i)] [] M := by
  have b1 := hB.1; have b2 := hB.2.1; have hb := hB.2.2 row hr.1 hr.2
  have g := wkf_in (m := 3) Fo_id hC (by omega) hb.2.2.2.2.2 i.toNat (by omega)
  rw [← ha] at g
  refine k_iload C dX1_slotLackedBy_14 rfl ?_
  refine k_iload_n C dX1_slotLackedBy_16 rfl rfl ?_
  refine k_icmp_ge C (tgt := 86) dX1_slotLackedBy_17 rfl (by omega) (by omega) (fun c17 => ?_) (fun c17 => ?_)
  · refine k_iconst C dX1_slotLackedBy_86 ?_
    exact k_iret C dX1_slotLackedBy_87 (by omega) (fun _ => ⟨rfl, Or.inl ⟨rfl, by unfold tkn; rw [show M 5 row = i by omega, ← ha]; exact hn⟩⟩)
  · have q := hb.2.2.2.2.2 i hi.1 c17
    have o := hC (8 * a + M 4 (12 * row + i)) (by omega) (by omega)
    have ws := wkf_s (it := fun x => x) (ch := M 27) (ca := M 4) (r := row) hi.1 (by rw [← ha]; exact hn)
    have wx := wkf_x (it := fun x => x) (ch := M 27) (ca := M 4) (r := row) hi.1
    rw [← ha] at ws wx
    rw [rt_id] at ws
    refine k_iload_n C dX1_slotLackedBy_20 rfl rfl ?_
    refine k_aload_n C dX1_slotLackedBy_21 rfl rfl ?_
    refine k_getR C (j := 0) okC1 rfl (by decide) (by decide) rfl flX1_18 dX1_slotLackedBy_22 ?_
    refine k_iload_n C dX1_slotLackedBy_25 rfl rfl ?_
    refine k_iload C dX1_slotLackedBy_26 rfl ?_
    refine k_callV C okX1_99 dX1_slotLackedBy_28 (c_Book_callAt M row i (by omega) (by omega)) rfl rfl (by decide) rfl (by decide) rfl (Nat.le_of_ble_eq_true rfl) (fun r28 M28 hr28 hp28 => ?_)
    obtain ⟨rfl, rfl⟩ := hp28
    refine k_callS C okX1_80 dX1_slotLackedBy_31 (c_slotOf M a (M 4 (12 * row + i)) (by omega) (by omega)) rfl (by decide) rfl (Nat.le_of_ble_eq_true rfl) (fun r31 M31 hr31 hp31 => ?_)
    obtain ⟨rfl, hp31⟩ := hp31
    have e31 : r31 = 8 * a + M 4 (12 * row + i) := by omega
    subst e31
    refine k_istore C dX1_slotLackedBy_34 (by decide) ?_
    refine k_iload C dX1_slotLackedBy_36 rfl ?_
    refine k_iconst C dX1_slotLackedBy_38 ?_
    refine k_icmp_ne C (tgt := 45) dX1_slotLackedBy_39 rfl (by omega) (by omega) (fun c39 => ?_) (fun c39 => ?_)
    · refine k_aload_n C dX1_slotLackedBy_45 rfl rfl ?_
      refine k_getR C (j := 2) okC1 rfl (by decide) (by decide) rfl flX1_9 dX1_slotLackedBy_46 ?_
      refine k_iload C dX1_slotLackedBy_49 rfl ?_
      refine k_iaload C rfl (by decide) (by decide) ⟨by omega, by omega⟩ dX1_slotLackedBy_51 (fun ld51 => ?_)
      refine k_iconst C dX1_slotLackedBy_52 ?_
      refine k_icmp_ne C (tgt := 72) dX1_slotLackedBy_53 rfl (by omega) (by omega) (fun c53 => ?_) (fun c53 => ?_)
      · refine k_aload_n C dX1_slotLackedBy_72 rfl rfl ?_
        refine k_getR C (j := 2) okC1 rfl (by decide) (by decide) rfl flX1_9 dX1_slotLackedBy_73 ?_
        refine k_iload C dX1_slotLackedBy_76 rfl ?_
        refine k_iaload C rfl (by decide) (by decide) ⟨by omega, by omega⟩ dX1_slotLackedBy_78 (fun ld78 => ?_)
        refine k_istore_n C dX1_slotLackedBy_79 rfl (by decide) ?_
        refine k_iinc C dX1_slotLackedBy_80 (by decide) rfl ?_
        refine k_goto C (tgt := 14) dX1_slotLackedBy_83 rfl ?_
        refine k_cut2 C (lv' := [(0, _), (1, _), (2, _), (3, _), (4, _)]) ⟨rfl, rfl, rfl, rfl, rfl, trivial⟩ ?_
        exact l_lacked M hB hC row hr h1 C (i + 1) _ (by omega) (by rw [ws c53]) c53
      · refine k_iload C dX1_slotLackedBy_56 rfl ?_
        refine k_iload_n C dX1_slotLackedBy_58 rfl rfl ?_
        refine k_iconst C dX1_slotLackedBy_59 ?_
        refine k_isub C dX1_slotLackedBy_60 ?_
        refine k_icmp_ne C (tgt := 69) dX1_slotLackedBy_61 rfl (by omega) (by omega) (fun c61 => ?_) (fun c61 => ?_)
        · refine k_bipush C dX1_slotLackedBy_69 (by decide) ?_
          exact k_iret C dX1_slotLackedBy_71 (by omega) (fun _ => by
        have nt : ¬ tkn (fun x => x) (M 27) (M 4) (M 5) row := fun t => t (wkf_m _ (i + 1).toNat (by omega) (wx c53))
        first
        | (have ei : M 5 row - 1 = i := by omega
           exact ⟨rfl, Or.inr (Or.inl ⟨by omega, by omega, nt, h1, by rw [ei, ← ha]; exact hn, by rw [ei, ← ha], c53⟩)⟩)
        | (refine ⟨rfl, Or.inr (Or.inr ⟨rfl, nt, fun s l => l.2.1 (wkf_m _ (i + 1).toNat (by omega) (wx c53))⟩)⟩))
        · refine k_iload C dX1_slotLackedBy_64 rfl ?_
          refine k_goto C (tgt := 71) dX1_slotLackedBy_66 rfl ?_
          exact k_iret C dX1_slotLackedBy_71 (by omega) (fun _ => by
        have nt : ¬ tkn (fun x => x) (M 27) (M 4) (M 5) row := fun t => t (wkf_m _ (i + 1).toNat (by omega) (wx c53))
        first
        | (have ei : M 5 row - 1 = i := by omega
           exact ⟨rfl, Or.inr (Or.inl ⟨by omega, by omega, nt, h1, by rw [ei, ← ha]; exact hn, by rw [ei, ← ha], c53⟩)⟩)
        | (refine ⟨rfl, Or.inr (Or.inr ⟨rfl, nt, fun s l => l.2.1 (wkf_m _ (i + 1).toNat (by omega) (wx c53))⟩)⟩))
    · refine k_bipush C dX1_slotLackedBy_42 (by decide) ?_
      exact k_iret C dX1_slotLackedBy_44 (by omega) (fun _ => by exfalso; omega)
termination_by (M 5 row - i).toNat
decreasing_by all_goals omega
set_option maxHeartbeats 4000000 in
set_option maxRecDepth 100000 in
theorem c_lacked (M : Mem) (hB : BkC M) (hC : ChOk 3 (M 27)) (row : Int) (hr : 0 ≤ row ∧ row < M 3 6) (h1 : 1 ≤ M 5 row) : Ct shC nC yX1_slotLackedBy cX1_slotLackedBy 6 (some .int) (lvl 2) [.inr 26, .inl row] M (fun r M' => M = M' ∧ ((r = -1 ∧ tkn (fun x => x) (M 27) (M 4) (M 5) row) ∨ (0 ≤ r ∧ r < 24 ∧ ¬ tkn (fun x => x) (M 27) (M 4) (M 5) row ∧ lkd (M 27) (M 4) (M 5) row r) ∨ (r = -2 ∧ ¬ tkn (fun x => x) (M 27) (M 4) (M 5) row ∧ ∀ s, ¬ lkd (M 27) (M 4) (M 5) row s))) := by
  refine Ct_of (by decide +kernel) (Nat.le_of_ble_eq_true rfl) (fun K C => ?_)
  have b1 := hB.1; have b2 := hB.2.1; have hb := hB.2.2 row hr.1 hr.2
  refine k_iconst C dX1_slotLackedBy_0 ?_
  refine k_istore_n C dX1_slotLackedBy_1 rfl (by decide) ?_
  refine k_aload_n C dX1_slotLackedBy_2 rfl rfl ?_
  refine k_getR C (j := 0) okC1 rfl (by decide) (by decide) rfl flX1_18 dX1_slotLackedBy_3 ?_
  refine k_iload_n C dX1_slotLackedBy_6 rfl rfl ?_
  refine k_callV C okX1_96 dX1_slotLackedBy_7 (c_Book_sizeOf M row (by omega)) rfl rfl (by decide) rfl (by decide) rfl (Nat.le_of_ble_eq_true rfl) (fun r7 M7 hr7 hp7 => ?_)
  obtain ⟨rfl, rfl⟩ := hp7
  refine k_istore_n C dX1_slotLackedBy_10 rfl (by decide) ?_
  refine k_iconst C dX1_slotLackedBy_11 ?_
  refine k_istore C dX1_slotLackedBy_12 (by decide) ?_
  refine k_cut2 C (lv' := [(0, _), (1, _), (2, _), (3, _), (4, _)]) ⟨rfl, rfl, rfl, rfl, rfl, trivial⟩ ?_
  exact l_lacked M hB hC row hr h1 C 0 0 (by omega) rfl (by omega)
set_option maxHeartbeats 4000000 in
set_option maxRecDepth 100000 in
theorem l_barred {K : Kt} (M : Mem) (hB : BkC M) (hC : ChOk 3 (M 27)) (hb : BndI M M (M 3 6)) (C : Ctx shC nC RX1 cX1_barredSlots 4 (some .int) (lvl 3) (fun r M' => M = M' ∧ ((r = -1 ∧ GWc M) ∨ (¬ GWc M ∧ ∃ b : Nat, r = (b : Int) ∧ b < 16777216 ∧ ∀ s : Nat, s < 24 → (b.testBit s = true ↔ ∃ w, askC M w ∧ lkd (M 27) (M 4) (M 5) w s)))) K) (i : Int) (b : Nat) (hi : 0 ≤ i ∧ i ≤ M 3 5) (hI : ∀ j, 0 ≤ j → j < i → ¬ tkn (fun x => x) (M 27) (M 4) (M 5) (M 8 j)) (hlt : b < 16777216) (hbit : ∀ s : Nat, s < 24 → (b.testBit s = true ↔ ∃ j, 0 ≤ j ∧ j < i ∧ lkd (M 27) (M 4) (M 5) (M 8 j) s)) : K 4 [(0, .inr 26), (1, .inl (b : Int)), (2, .inl i)] [] M := by
  have b1 := hB.1; have b2 := hB.2.1
  obtain ⟨p1, p2, p3, p4⟩ := id hb
  refine k_iload_n C dX1_barredSlots_4 rfl rfl ?_
  refine k_aload_n C dX1_barredSlots_5 rfl rfl ?_
  refine k_getR C (j := 0) okC1 rfl (by decide) (by decide) rfl flX1_18 dX1_barredSlots_6 ?_
  refine k_getJ C 5 5 rfl okC0 rfl (by decide) (by decide) rfl flX1_87 dX1_barredSlots_9 (fun ld9 => ?_)
  refine k_icmp_ge C (tgt := 64) dX1_barredSlots_12 rfl (by omega) (by omega) (fun c12 => ?_) (fun c12 => ?_)
  · refine k_iload_n C dX1_barredSlots_64 rfl rfl ?_
    exact k_iret C dX1_barredSlots_65 (by omega) (fun _ => by
        first
        | (exfalso; omega)
        | (refine ⟨rfl, Or.inr ⟨fun ⟨w, x, y⟩ => ?_, b, rfl, hlt, fun s hs => ?_⟩⟩
           · obtain ⟨j, z1, z2, z3⟩ := p4 w x.2.1 x
             exact hI j z1 (by omega) (by rw [z3]; exact y)
           · rw [hbit s hs]
             refine ⟨fun ⟨j, z1, z2, z3⟩ => ⟨M 8 j, p3 j z1 (by omega), z3⟩, fun ⟨w, x, y⟩ => ?_⟩
             obtain ⟨j, z1, z2, z3⟩ := p4 w x.2.1 x
             exact ⟨j, z1, by omega, by rw [z3]; exact y⟩))
  · refine k_iload_n C dX1_barredSlots_15 rfl rfl ?_
    refine k_bipush C dX1_barredSlots_16 (by decide) ?_
    refine k_icmp_ge C (tgt := 64) dX1_barredSlots_18 rfl (by omega) (by omega) (fun c18 => ?_) (fun c18 => ?_)
    · refine k_iload_n C dX1_barredSlots_64 rfl rfl ?_
      exact k_iret C dX1_barredSlots_65 (by omega) (fun _ => by
        first
        | (exfalso; omega)
        | (refine ⟨rfl, Or.inr ⟨fun ⟨w, x, y⟩ => ?_, b, rfl, hlt, fun s hs => ?_⟩⟩
           · obtain ⟨j, z1, z2, z3⟩ := p4 w x.2.1 x
             exact hI j z1 (by omega) (by rw [z3]; exact y)
           · rw [hbit s hs]
             refine ⟨fun ⟨j, z1, z2, z3⟩ => ⟨M 8 j, p3 j z1 (by omega), z3⟩, fun ⟨w, x, y⟩ => ?_⟩
             obtain ⟨j, z1, z2, z3⟩ := p4 w x.2.1 x
             exact ⟨j, z1, by omega, by rw [z3]; exact y⟩))
    · have ak := p3 i hi.1 c12
      have ak1 := ak.1; have ak2 := ak.2.1
      have ak3 := (hB.2.2 _ ak1 ak2).2.2.2.2.1 ak.2.2.2.1
      refine k_aload_n C dX1_barredSlots_21 rfl rfl ?_
      refine k_aload_n C dX1_barredSlots_22 rfl rfl ?_
      refine k_getR C (j := 0) okC1 rfl (by decide) (by decide) rfl flX1_18 dX1_barredSlots_23 ?_
      refine k_getR C (j := 4) okC0 rfl (by decide) (by decide) rfl flX1_90 dX1_barredSlots_26 ?_
      refine k_iload_n C dX1_barredSlots_29 rfl rfl ?_
      refine k_iaload C rfl (by decide) (by decide) ⟨by omega, by omega⟩ dX1_barredSlots_30 (fun ld30 => ?_)
      refine k_callV C okX1_93 dX1_barredSlots_31 (c_lacked M hB hC (M 8 i) ⟨ak1, ak2⟩ ak3) rfl rfl (by decide) rfl (by decide) rfl (Nat.le_of_ble_eq_true rfl) (fun r31 M31 hr31 hp31 => ?_)
      obtain ⟨rfl, hp31⟩ := hp31
      refine k_istore_n C dX1_barredSlots_34 rfl (by decide) ?_
      refine k_iload_n C dX1_barredSlots_35 rfl rfl ?_
      refine k_iconst C dX1_barredSlots_36 ?_
      refine k_icmp_ne C (tgt := 42) dX1_barredSlots_37 rfl (by omega) (by omega) (fun c37 => ?_) (fun c37 => ?_)
      · refine k_iload_n C dX1_barredSlots_42 rfl rfl ?_
        refine k_iload_n C dX1_barredSlots_43 rfl rfl ?_
        refine k_bipush C dX1_barredSlots_44 (by decide) ?_
        refine k_icmp_ne C (tgt := 53) dX1_barredSlots_46 rfl (by omega) (by omega) (fun c46 => ?_) (fun c46 => ?_)
        · have lk31 : lkd (M 27) (M 4) (M 5) (M 8 i) r31 := by
            rcases hp31 with z | z | z
            · exfalso; omega
            · exact z.2.2.2
            · exfalso; omega
          have nt31 : ¬ tkn (fun x => x) (M 27) (M 4) (M 5) (M 8 i) := by
            rcases hp31 with z | z | z
            · exfalso; omega
            · exact z.2.2.1
            · exfalso; omega
          have r31b : 0 ≤ r31 ∧ r31 < 24 := by omega
          refine k_iconst C dX1_barredSlots_53 ?_
          refine k_iload_n C dX1_barredSlots_54 rfl rfl ?_
          obtain ⟨k, rfl⟩ : ∃ k : Nat, r31 = (k : Int) := ⟨r31.toNat, by omega⟩
          have hk24 : k < 24 := by omega
          refine k_ishl1 C hk24 dX1_barredSlots_55 ?_
          refine k_ior C (by omega) (Nat.lt_of_le_of_lt (Nat.pow_le_pow_right (by omega) (show k ≤ 23 by omega)) (by decide)) dX1_barredSlots_56 ?_
          refine k_istore_n C dX1_barredSlots_57 rfl (by decide) ?_
          refine k_iinc C dX1_barredSlots_58 (by decide) rfl ?_
          refine k_goto C (tgt := 4) dX1_barredSlots_61 rfl ?_
          refine k_cut2 C (lv' := [(0, _), (1, _), (2, _)]) ⟨rfl, rfl, rfl, trivial⟩ ?_
          have h23 : (2 : Nat) ^ k < 16777216 := Nat.lt_of_le_of_lt (Nat.pow_le_pow_right (by omega) (show k ≤ 23 by omega)) (by decide)
          refine l_barred M hB hC hb C (i + 1) (b ||| 2 ^ k) (by omega) (fun j x y => ?_) (Nat.or_lt_two_pow (n := 24) hlt h23) (fun s hs => ?_)
          · by_cases e : j = i
            · rw [e]; exact nt31
            · exact hI j x (by omega)
          · rw [fb_bit_set, Bool.or_eq_true, decide_eq_true_iff, hbit s hs]
            constructor
            · rintro (⟨j, z1, z2, z3⟩ | z)
              · exact ⟨j, z1, by omega, z3⟩
              · exact ⟨i, hi.1, by omega, by rw [z]; exact lk31⟩
            · rintro ⟨j, z1, z2, z3⟩
              by_cases e : j = i
              · right; rw [e] at z3; have a1 := z3.2.2.1; have a2 := lk31.2.2.1; omega
              · exact Or.inl ⟨j, z1, by omega, z3⟩
        · have nl31 : ∀ s, ¬ lkd (M 27) (M 4) (M 5) (M 8 i) s := by
            rcases hp31 with z | z | z
            · exfalso; omega
            · exfalso; omega
            · exact z.2.2
          have nt31 : ¬ tkn (fun x => x) (M 27) (M 4) (M 5) (M 8 i) := by
            rcases hp31 with z | z | z
            · exfalso; omega
            · exfalso; omega
            · exact z.2.1
          refine k_iconst C dX1_barredSlots_49 ?_
          refine k_goto C (tgt := 56) dX1_barredSlots_50 rfl ?_
          refine k_ior C (b := 0) (by omega) (by omega) dX1_barredSlots_56 ?_
          refine k_istore_n C dX1_barredSlots_57 rfl (by decide) ?_
          refine k_iinc C dX1_barredSlots_58 (by decide) rfl ?_
          refine k_goto C (tgt := 4) dX1_barredSlots_61 rfl ?_
          refine k_cut2 C (lv' := [(0, _), (1, _), (2, _)]) ⟨rfl, rfl, rfl, trivial⟩ ?_
          rw [Nat.or_zero]
          refine l_barred M hB hC hb C (i + 1) b (by omega) (fun j x y => ?_) hlt (fun s hs => ?_)
          · by_cases e : j = i
            · rw [e]; exact nt31
            · exact hI j x (by omega)
          · rw [hbit s hs]
            constructor
            · rintro ⟨j, z1, z2, z3⟩
              exact ⟨j, z1, by omega, z3⟩
            · rintro ⟨j, z1, z2, z3⟩
              by_cases e : j = i
              · rw [e] at z3; exact absurd z3 (nl31 s)
              · exact ⟨j, z1, by omega, z3⟩
      · refine k_iconst C dX1_barredSlots_40 ?_
        exact k_iret C dX1_barredSlots_41 (by omega) (fun _ => ⟨rfl, Or.inl ⟨rfl, M 8 i, ak, by rcases hp31 with z | z | z; exact z.2; (exfalso; omega); (exfalso; omega)⟩⟩)
termination_by (M 3 5 - i).toNat
decreasing_by all_goals omega
set_option maxHeartbeats 4000000 in
set_option maxRecDepth 100000 in
theorem c_barred (M : Mem) (hB : BkC M) (hC : ChOk 3 (M 27)) (hb : BndI M M (M 3 6)) : Ct shC nC yX1_barredSlots cX1_barredSlots 4 (some .int) (lvl 3) [.inr 26] M (fun r M' => M = M' ∧ ((r = -1 ∧ GWc M) ∨ (¬ GWc M ∧ ∃ b : Nat, r = (b : Int) ∧ b < 16777216 ∧ ∀ s : Nat, s < 24 → (b.testBit s = true ↔ ∃ w, askC M w ∧ lkd (M 27) (M 4) (M 5) w s)))) := by
  refine Ct_of (by decide +kernel) (Nat.le_of_ble_eq_true rfl) (fun K C => ?_)
  have p1 := hb.1
  refine k_iconst C dX1_barredSlots_0 ?_
  refine k_istore_n C dX1_barredSlots_1 rfl (by decide) ?_
  refine k_iconst C dX1_barredSlots_2 ?_
  refine k_istore_n C dX1_barredSlots_3 rfl (by decide) ?_
  refine k_cut2 C (lv' := [(0, _), (1, _), (2, _)]) ⟨rfl, rfl, rfl, trivial⟩ ?_
  exact l_barred M hB hC hb C 0 0 (by omega) (fun j x y => by omega) (by omega) (fun s hs => ⟨fun z => by (rw [Nat.zero_testBit] at z; cases z), fun ⟨j, z1, z2, z3⟩ => by omega⟩)
def LostP (M : Mem) (nd : Int) : Prop := GWc M ∨ ∃ k w, nd < k ∧ k < M 9 6 ∧ M 11 k ≤ nd ∧ askC M w ∧ lkd (M 27) (M 4) (M 5) w (8 * M 28 (M 11 k) + M 12 k)
/-- what a search needs of the tree -/
def FwT (M : Mem) : Prop := (1 ≤ M 9 6 ∧ M 9 6 ≤ 16) ∧ ∀ k, 1 ≤ k → k < M 9 6 → (0 ≤ M 11 k ∧ M 11 k < k) ∧ (0 ≤ M 12 k ∧ M 12 k < 8)
theorem tb_div {b s : Nat} : b.testBit s = true ↔ b / 2 ^ s % 2 = 1 := by
  rw [Nat.testBit_eq_decide_div_mod_eq, decide_eq_true_iff]
set_option maxHeartbeats 4000000 in
set_option maxRecDepth 100000 in
theorem l_isLost {K : Kt} (M : Mem) (hT : FwT M) (nd bd : Int) (hnd : 0 ≤ nd ∧ nd < M 9 6) (hso : ∀ k, 0 ≤ k → k ≤ nd → 0 ≤ M 28 k ∧ M 28 k < 3) (b : Nat) (hbd : (¬ GWc M ∧ bd = (b : Int) ∧ b < 16777216 ∧ ∀ s : Nat, s < 24 → (b.testBit s = true ↔ ∃ w, askC M w ∧ lkd (M 27) (M 4) (M 5) w s))) (C : Ctx shC nC RX1 cX1_isLost 5 (some .boolean) (lvl 3) (fun r M' => M = M' ∧ ((r = 1 ∧ LostP M nd) ∨ (r = 0 ∧ ¬ LostP M nd))) K) (i : Int) (hi : nd < i ∧ i ≤ M 9 6) (hI : ∀ k w, nd < k → k < i → M 11 k ≤ nd → askC M w → ¬ lkd (M 27) (M 4) (M 5) w (8 * M 28 (M 11 k) + M 12 k)) : K 11 [(0, .inr 26), (1, .inl nd), (2, .inl bd), (3, .inl i)] [] M := by
  have t1 := hT.1
  obtain ⟨q1, rfl, q3, q4⟩ := hbd
  refine k_iload_n C dX1_isLost_11 rfl rfl ?_
  refine k_aload_n C dX1_isLost_12 rfl rfl ?_
  refine k_getR C (j := 1) okC1 rfl (by decide) (by decide) rfl flX1_22 dX1_isLost_13 ?_
  refine k_getJ C 6 6 rfl okC9 rfl (by decide) (by decide) rfl flX1_45 dX1_isLost_16 (fun ld16 => ?_)
  refine k_icmp_ge C (tgt := 76) dX1_isLost_19 rfl (by omega) (by omega) (fun c19 => ?_) (fun c19 => ?_)
  · refine k_iconst C dX1_isLost_76 ?_
    exact k_zret C dX1_isLost_77 (by omega) (fun _ => by
        first
        | (exfalso; omega)
        | (refine ⟨rfl, Or.inr ⟨rfl, fun z => ?_⟩⟩
           rcases z with z | ⟨k, w, z1, z2, z3, z4, z5⟩
           · exact q1 z
           · exact hI k w z1 (by omega) z3 z4 z5))
  · refine k_iload_n C dX1_isLost_22 rfl rfl ?_
    refine k_bipush C dX1_isLost_23 (by decide) ?_
    refine k_icmp_ge C (tgt := 76) dX1_isLost_25 rfl (by omega) (by omega) (fun c25 => ?_) (fun c25 => ?_)
    · refine k_iconst C dX1_isLost_76 ?_
      exact k_zret C dX1_isLost_77 (by omega) (fun _ => by
        first
        | (exfalso; omega)
        | (refine ⟨rfl, Or.inr ⟨rfl, fun z => ?_⟩⟩
           rcases z with z | ⟨k, w, z1, z2, z3, z4, z5⟩
           · exact q1 z
           · exact hI k w z1 (by omega) z3 z4 z5))
    · obtain ⟨w1, w2⟩ := hT.2 i (by omega) c19
      refine k_aload_n C dX1_isLost_28 rfl rfl ?_
      refine k_getR C (j := 1) okC1 rfl (by decide) (by decide) rfl flX1_22 dX1_isLost_29 ?_
      refine k_getR C (j := 2) okC9 rfl (by decide) (by decide) rfl flX1_71 dX1_isLost_32 ?_
      refine k_iload_n C dX1_isLost_35 rfl rfl ?_
      refine k_iaload C rfl (by decide) (by decide) ⟨by omega, by omega⟩ dX1_isLost_36 (fun ld36 => ?_)
      refine k_iload_n C dX1_isLost_37 rfl rfl ?_
      refine k_icmp_gt C (tgt := 49) dX1_isLost_38 rfl (by omega) (by omega) (fun c38 => ?_) (fun c38 => ?_)
      · refine k_iconst C dX1_isLost_49 ?_
        refine k_istore C dX1_isLost_50 (by decide) ?_
        refine k_iload C dX1_isLost_52 rfl ?_
        refine k_iconst C dX1_isLost_54 ?_
        refine k_icmp_eq C (tgt := 70) dX1_isLost_55 rfl (by omega) (by omega) (fun c55 => ?_) (fun c55 => ?_)
        · refine k_iinc C dX1_isLost_70 (by decide) rfl ?_
          refine k_goto C (tgt := 11) dX1_isLost_73 rfl ?_
          refine k_cut2 C (lv' := [(0, _), (1, _), (2, _), (3, _)]) ⟨rfl, rfl, rfl, rfl, trivial⟩ ?_
          refine l_isLost M hT nd (b : Int) hnd hso b ⟨q1, rfl, q3, q4⟩ C (i + 1) (by omega) (fun k w a1 a2 a3 a4 a5 => ?_)
          by_cases e : k = i
          · subst e
            exfalso; omega
          · exact hI k w a1 (by omega) a3 a4 a5
        · exfalso; omega
      · have so1 := hso (M 11 i) w1.1 c38
        refine k_aload_n C dX1_isLost_41 rfl rfl ?_
        refine k_iload_n C dX1_isLost_42 rfl rfl ?_
        refine k_callV C okX1_50 dX1_isLost_43 (c_slotInto M i (by omega) (by omega) w2 so1) rfl rfl (by decide) rfl (by decide) rfl (Nat.le_of_ble_eq_true rfl) (fun r43 M43 hr43 hp43 => ?_)
        obtain ⟨rfl, rfl⟩ := hp43
        refine k_goto C (tgt := 50) dX1_isLost_46 rfl ?_
        refine k_istore C dX1_isLost_50 (by decide) ?_
        refine k_iload C dX1_isLost_52 rfl ?_
        refine k_iconst C dX1_isLost_54 ?_
        refine k_icmp_eq C (tgt := 70) dX1_isLost_55 rfl (by omega) (by omega) (fun c55 => ?_) (fun c55 => ?_)
        · refine k_iinc C dX1_isLost_70 (by decide) rfl ?_
          refine k_goto C (tgt := 11) dX1_isLost_73 rfl ?_
          refine k_cut2 C (lv' := [(0, _), (1, _), (2, _), (3, _)]) ⟨rfl, rfl, rfl, rfl, trivial⟩ ?_
          refine l_isLost M hT nd (b : Int) hnd hso b ⟨q1, rfl, q3, q4⟩ C (i + 1) (by omega) (fun k w a1 a2 a3 a4 a5 => ?_)
          by_cases e : k = i
          · subst e
            first
            | (exfalso; omega)
            | (rw [← hs] at a5; have := tb_div.1 ((q4 s hs24).2 ⟨w, a4, a5⟩); omega)
          · exact hI k w a1 (by omega) a3 a4 a5
        · obtain ⟨s, hs⟩ : ∃ s : Nat, (s : Int) = 8 * M 28 (M 11 i) + M 12 i := ⟨(8 * M 28 (M 11 i) + M 12 i).toNat, by omega⟩
          have hs24 : s < 24 := by omega
          rw [← hs]
          have bl : b / 2 ^ s ≤ b := Nat.div_le_self _ _
          refine k_iload_n C dX1_isLost_58 rfl rfl ?_
          refine k_iload C dX1_isLost_59 rfl ?_
          refine k_iushrN C (by omega) hs24 dX1_isLost_61 ?_
          refine k_iconst C dX1_isLost_62 ?_
          refine k_iand1 C (by omega) dX1_isLost_63 ?_
          refine k_iconst C dX1_isLost_64 ?_
          refine k_icmp_ne C (tgt := 70) dX1_isLost_65 rfl (by omega) (by omega) (fun c65 => ?_) (fun c65 => ?_)
          · refine k_iinc C dX1_isLost_70 (by decide) rfl ?_
            refine k_goto C (tgt := 11) dX1_isLost_73 rfl ?_
            refine k_cut2 C (lv' := [(0, _), (1, _), (2, _), (3, _)]) ⟨rfl, rfl, rfl, rfl, trivial⟩ ?_
            refine l_isLost M hT nd (b : Int) hnd hso b ⟨q1, rfl, q3, q4⟩ C (i + 1) (by omega) (fun k w a1 a2 a3 a4 a5 => ?_)
            by_cases e : k = i
            · subst e
              first
              | (exfalso; omega)
              | (rw [← hs] at a5; have := tb_div.1 ((q4 s hs24).2 ⟨w, a4, a5⟩); omega)
            · exact hI k w a1 (by omega) a3 a4 a5
          · refine k_iconst C dX1_isLost_68 ?_
            exact k_zret C dX1_isLost_69 (by omega) (fun _ => by
        refine ⟨rfl, Or.inl ⟨rfl, Or.inr ?_⟩⟩
        obtain ⟨w, z1, z2⟩ := (q4 s hs24).1 (tb_div.2 (by omega))
        exact ⟨i, w, hi.1, c19, by omega, z1, by rw [← hs]; exact z2⟩)
termination_by (M 9 6 - i).toNat
decreasing_by all_goals omega
set_option maxHeartbeats 4000000 in
set_option maxRecDepth 100000 in
theorem c_isLost (M : Mem) (hT : FwT M) (nd bd : Int) (hnd : 0 ≤ nd ∧ nd < M 9 6) (hso : ∀ k, 0 ≤ k → k ≤ nd → 0 ≤ M 28 k ∧ M 28 k < 3) (hbd : (bd = -1 ∧ GWc M) ∨ (¬ GWc M ∧ ∃ b : Nat, bd = (b : Int) ∧ b < 16777216 ∧ ∀ s : Nat, s < 24 → (b.testBit s = true ↔ ∃ w, askC M w ∧ lkd (M 27) (M 4) (M 5) w s))) : Ct shC nC yX1_isLost cX1_isLost 5 (some .boolean) (lvl 3) [.inr 26, .inl nd, .inl bd] M (fun r M' => M = M' ∧ ((r = 1 ∧ LostP M nd) ∨ (r = 0 ∧ ¬ LostP M nd))) := by
  refine Ct_of (by decide +kernel) (Nat.le_of_ble_eq_true rfl) (fun K C => ?_)
  have t1 := hT.1
  rcases hbd with ⟨rfl, hw⟩ | ⟨hw, b, hb, hlt, hbit⟩
  · refine k_iload_n C dX1_isLost_0 rfl rfl ?_
    refine k_iconst C dX1_isLost_1 ?_
    refine k_icmp_ne C (tgt := 7) dX1_isLost_2 rfl (by omega) (by omega) (fun c2 => ?_) (fun c2 => ?_)
    · exfalso; omega
    · refine k_iconst C dX1_isLost_5 ?_
      exact k_zret C dX1_isLost_6 (by omega) (fun _ => ⟨rfl, Or.inl ⟨rfl, Or.inl hw⟩⟩)
  · refine k_iload_n C dX1_isLost_0 rfl rfl ?_
    refine k_iconst C dX1_isLost_1 ?_
    refine k_icmp_ne C (tgt := 7) dX1_isLost_2 rfl (by omega) (by omega) (fun c2 => ?_) (fun c2 => ?_)
    · refine k_iload_n C dX1_isLost_7 rfl rfl ?_
      refine k_iconst C dX1_isLost_8 ?_
      refine k_iadd C dX1_isLost_9 ?_
      refine k_istore_n C dX1_isLost_10 rfl (by decide) ?_
      refine k_cut2 C (lv' := [(0, _), (1, _), (2, _), (3, _)]) ⟨rfl, rfl, rfl, rfl, trivial⟩ ?_
      exact l_isLost M hT nd bd hnd hso b ⟨hw, hb, hlt, hbit⟩ C (nd + 1) (by omega) (fun k w a1 a2 a3 a4 a5 => by omega)
    · exfalso; omega
def FW (M N : Mem) : Prop := ∀ j, j ≠ 27 → j ≠ 28 → N j = M j
/-- what stands while it searches -/
def FwI (M N : Mem) (nd u : Int) : Prop := FW M N ∧ ChOk 3 (N 27) ∧ (∀ k, 0 ≤ k → k < nd → 0 ≤ N 28 k ∧ N 28 k < 3) ∧ (0 ≤ u ∧ u ≤ 16)
abbrev cnc (M N : Mem) (f : Nat) (nd u : Int) : Prop := canP (TWc M (fun x => x)) (M 11) (M 12) (M 26 4) f nd (N 27) (N 28) u
def FwR (M N N' : Mem) (f : Nat) (nd u r : Int) : Prop := FW M N' ∧ ((r = 1 ∧ cnc M N f nd u) ∨ (r = 0 ∧ ¬ cnc M N f nd u ∧ N' 27 = N 27 ∧ ∀ k, 0 ≤ k → k < nd → N' 28 k = N 28 k))
theorem FW.e {M N : Mem} (h : FW M N) : N 3 = M 3 ∧ N 4 = M 4 ∧ N 5 = M 5 ∧ N 6 = M 6 ∧ N 7 = M 7 ∧ N 8 = M 8 ∧ N 9 = M 9 ∧ N 11 = M 11 ∧ N 12 = M 12 ∧ N 26 = M 26 :=
  ⟨h 3 (by decide) (by decide), h 4 (by decide) (by decide), h 5 (by decide) (by decide), h 6 (by decide) (by decide), h 7 (by decide) (by decide), h 8 (by decide) (by decide), h 9 (by decide) (by decide), h 11 (by decide) (by decide), h 12 (by decide) (by decide), h 26 (by decide) (by decide)⟩
theorem FW.bk {M N : Mem} (h : FW M N) (hB : BkC M) : BkC N := by
  obtain ⟨a, b, c, d, e, -⟩ := h.e
  unfold BkC; rw [a, b, c, d, e]; exact hB
theorem FW.bn {M N : Mem} (h : FW M N) (hB : BndI M M (M 3 6)) : BndI N N (N 3 6) := by
  obtain ⟨a, b, c, d, e, f, -⟩ := h.e
  unfold BndI askC; rw [a, b, c, d, e, f]; exact hB
theorem FW.ft {M N : Mem} (h : FW M N) (hT : FwT M) : FwT N := by
  obtain ⟨-, -, -, -, -, -, a, b, c, -⟩ := h.e
  unfold FwT; rw [a, b, c]; exact hT
theorem FW.uu {M N : Mem} (h : FW M N) {a b : Int} {v w : Int} : FW M (up (up N 27 a v) 28 b w) := fun j p q => by rw [up_ne q, up_ne p]; exact h j p q
theorem FW.u7 {M N : Mem} (h : FW M N) {a : Int} {v : Int} : FW M (up N 27 a v) := fun j p q => by rw [up_ne p]; exact h j p q
theorem FW.u8 {M N : Mem} (h : FW M N) {a : Int} {v : Int} : FW M (up N 28 a v) := fun j p q => by rw [up_ne q]; exact h j p q
set_option maxHeartbeats 4000000 in
set_option maxRecDepth 100000 in
theorem l_free {K : Kt} (M : Mem) (hB : BkC M) (hb : BndI M M (M 3 6)) (hT : FwT M) (ha : 1 ≤ M 26 4 ∧ M 26 4 ≤ 3) (f : Nat) (ih : ∀ (N : Mem) (nd u : Int), FwI M N nd u → 1 ≤ nd → nd + f = M 9 6 → Ct shC nC yX1_placeFrom cX1_placeFrom 4 (some .boolean) (lvl (6 + 2 * f)) [.inr 26, .inl nd, .inl u] N (fun r M' => FwR M N M' f nd u r)) (B : Mem) (nd u : Int) (hI : FwI M B nd u) (hnd : 1 ≤ nd ∧ nd + (f + 1 : Nat) = M 9 6) (e : Int) (he : e = 8 * B 28 (M 11 nd) + M 12 nd) (hg : B 27 e = -1) (C : Ctx shC nC RX1 cX1_placeFree 5 (some .boolean) (lvl (7 + 2 * f)) (fun r M' => FwR M B M' (f + 1) nd u r) K) (N : Mem) (hF : FW M N) (s : Int) (hs : 0 ≤ s ∧ s ≤ M 26 4 ∧ s ≤ u + 1) (h27 : ∀ i, i ≠ e → N 27 i = B 27 i) (h28 : ∀ k, 0 ≤ k → k < nd → N 28 k = B 28 k) (hno : ∀ t, 0 ≤ t → t < s → TWc M (fun x => x) (updI (B 27) e t) ∨ ¬ canP (TWc M (fun x => x)) (M 11) (M 12) (M 26 4) f (nd + 1) (updI (B 27) e t) (updI (B 28) nd t) (if t = u then u + 1 else u)) : K 25 [(0, .inr 26), (1, .inl nd), (2, .inl u), (3, .inl e), (4, .inl s)] [] N := by
  have t1 := hT.1
  obtain ⟨w1, w2⟩ := hT.2 nd hnd.1 (by omega)
  obtain ⟨f0, fC, fS, fU⟩ := id hI
  have so1 := fS (M 11 nd) w1.1 w1.2
  obtain ⟨n3, n4, n5, n6, n7, n8, n9, n11, n12, n26⟩ := hF.e
  refine k_iload C dX1_placeFree_25 rfl ?_
  refine k_iload_n C dX1_placeFree_27 rfl rfl ?_
  refine k_icmp_gt C (tgt := 94) dX1_placeFree_28 rfl (by omega) (by omega) (fun c28 => ?_) (fun c28 => ?_)
  · refine k_aload_n C dX1_placeFree_94 rfl rfl ?_
    refine k_getR C (j := 2) okC1 rfl (by decide) (by decide) rfl flX1_9 dX1_placeFree_95 ?_
    refine k_iload_n C dX1_placeFree_98 rfl rfl ?_
    refine k_iconst C dX1_placeFree_99 ?_
    refine k_iastore C rfl (by decide) (by decide) ⟨by omega, by omega⟩ (by omega) dX1_placeFree_100 ?_
    refine k_iconst C dX1_placeFree_101 ?_
    exact k_zret C dX1_placeFree_102 (by omega) (fun _ => by
        refine ⟨hF.u7, Or.inr ⟨rfl, fun z => ?_, ?_, fun k a b => by rw [up_ne (by decide)]; exact h28 k a b⟩⟩
        · rcases z with ⟨z1, z2⟩ | ⟨z1, t, z2, z3, z4, z5, z6⟩
          · rw [← he] at z1; exact z1 hg
          · rw [← he] at z5 z6
            rcases hno t z2 (by omega) with y | y
            · exact z5 y
            · exact y z6
        · funext i
          rw [up_at]
          by_cases z : i = e
          · rw [if_pos z, z, hg]
          · rw [if_neg z]; exact h27 i z)
  · refine k_iload C dX1_placeFree_31 rfl ?_
    refine k_aload_n C dX1_placeFree_33 rfl rfl ?_
    refine k_getJ C 4 4 rfl okC1 rfl (by decide) (by decide) rfl flX1_31 dX1_placeFree_34 (fun ld34 => ?_)
    rw [n26]
    refine k_icmp_ge C (tgt := 94) dX1_placeFree_37 rfl (by omega) (by omega) (fun c37 => ?_) (fun c37 => ?_)
    · refine k_aload_n C dX1_placeFree_94 rfl rfl ?_
      refine k_getR C (j := 2) okC1 rfl (by decide) (by decide) rfl flX1_9 dX1_placeFree_95 ?_
      refine k_iload_n C dX1_placeFree_98 rfl rfl ?_
      refine k_iconst C dX1_placeFree_99 ?_
      refine k_iastore C rfl (by decide) (by decide) ⟨by omega, by omega⟩ (by omega) dX1_placeFree_100 ?_
      refine k_iconst C dX1_placeFree_101 ?_
      exact k_zret C dX1_placeFree_102 (by omega) (fun _ => by
        refine ⟨hF.u7, Or.inr ⟨rfl, fun z => ?_, ?_, fun k a b => by rw [up_ne (by decide)]; exact h28 k a b⟩⟩
        · rcases z with ⟨z1, z2⟩ | ⟨z1, t, z2, z3, z4, z5, z6⟩
          · rw [← he] at z1; exact z1 hg
          · rw [← he] at z5 z6
            rcases hno t z2 (by omega) with y | y
            · exact z5 y
            · exact y z6
        · funext i
          rw [up_at]
          by_cases z : i = e
          · rw [if_pos z, z, hg]
          · rw [if_neg z]; exact h27 i z)
    · refine k_aload_n C dX1_placeFree_40 rfl rfl ?_
      refine k_getR C (j := 2) okC1 rfl (by decide) (by decide) rfl flX1_9 dX1_placeFree_41 ?_
      refine k_iload_n C dX1_placeFree_44 rfl rfl ?_
      refine k_iload C dX1_placeFree_45 rfl ?_
      refine k_iastore C rfl (by decide) (by decide) ⟨by omega, by omega⟩ (by omega) dX1_placeFree_47 ?_
      refine k_aload_n C dX1_placeFree_48 rfl rfl ?_
      refine k_getR C (j := 3) okC1 rfl (by decide) (by decide) rfl flX1_15 dX1_placeFree_49 ?_
      refine k_iload_n C dX1_placeFree_52 rfl rfl ?_
      refine k_iload C dX1_placeFree_53 rfl ?_
      refine k_iastore C rfl (by decide) (by decide) ⟨by omega, by omega⟩ (by omega) dX1_placeFree_55 ?_
      have F2 : FW M (up (up N 27 e s) 28 nd s) := hF.uu
      have g27 : up (up N 27 e s) 28 nd s 27 = updI (B 27) e s := by
        funext i
        rw [up_ne (by decide), up_at]; unfold updI
        by_cases z : i = e
        · rw [if_pos z, if_pos z]
        · rw [if_neg z, if_neg z]; exact h27 i z
      have g28 : ∀ k, 0 ≤ k → k ≤ nd → up (up N 27 e s) 28 nd s 28 k = updI (B 28) nd s k := fun k a b => by
        rw [up_at, up_ne (by decide)]; unfold updI
        by_cases z : k = nd
        · rw [if_pos z, if_pos z]
        · rw [if_neg z, if_neg z]; exact h28 k a (by omega)
      have r28 : ∀ k, 0 ≤ k → k ≤ nd → 0 ≤ updI (B 28) nd s k ∧ updI (B 28) nd s k < 3 := fun k a b => by
        unfold updI
        by_cases z : k = nd
        · rw [if_pos z]; omega
        · rw [if_neg z]; exact fS k a (by omega)
      have C2 : ChOk 3 (updI (B 27) e s) := updI_chok fC (by omega)
      generalize up (up N 27 e s) 28 nd s = L at *
      obtain ⟨m3, m4, m5, m6, m7, m8, m9, m11, m12, m26⟩ := F2.e
      have ltq : LostP L nd ↔ (TWc M (fun x => x) (updI (B 27) e s) ∨ ∃ k w, nd < k ∧ k < M 9 6 ∧ M 11 k ≤ nd ∧ askC M w ∧ lkd (updI (B 27) e s) (M 4) (M 5) w (8 * updI (B 28) nd s (M 11 k) + M 12 k)) := by
        unfold LostP GWc TWc askC
        rw [m3, m4, m5, m6, m7, m9, m11, m12, g27]
        constructor
        · rintro (z | ⟨k, w, z1, z2, z3, z4, z5⟩)
          · exact Or.inl z
          · refine Or.inr ⟨k, w, z1, z2, z3, z4, ?_⟩
            rw [← g28 (M 11 k) (by have := (hT.2 k (by omega) z2).1; omega) z3]; exact z5
        · rintro (z | ⟨k, w, z1, z2, z3, z4, z5⟩)
          · exact Or.inl z
          · refine Or.inr ⟨k, w, z1, z2, z3, z4, ?_⟩
            rw [g28 (M 11 k) (by have := (hT.2 k (by omega) z2).1; omega) z3]; exact z5
      have cq : ∀ u2, cnc M L f (nd + 1) u2 ↔ canP (TWc M (fun x => x)) (M 11) (M 12) (M 26 4) f (nd + 1) (updI (B 27) e s) (updI (B 28) nd s) u2 := fun u2 => by
        have hpl : ∀ k, nd + 1 ≤ k → k < nd + 1 + f → (0 ≤ M 11 k ∧ M 11 k < k) ∧ (0 ≤ M 12 k ∧ M 12 k < 8) ∧ M 11 k = M 11 k ∧ M 12 k = M 12 k := fun k a b => by
          have := hT.2 k (by omega) (by omega)
          exact ⟨this.1, this.2, rfl, rfl⟩
        unfold cnc
        rw [g27]
        exact ⟨canP_cg hB ha.2 f (nd + 1) _ _ _ _ u2 hpl C2 (fun _ _ _ => rfl) (fun k a b => ⟨by rw [g28 k a (by omega)]; exact r28 k a (by omega), (g28 k a (by omega)).symm⟩), canP_cg hB ha.2 f (nd + 1) _ _ _ _ u2 hpl C2 (fun _ _ _ => rfl) (fun k a b => ⟨r28 k a (by omega), g28 k a (by omega)⟩)⟩
      refine k_aload_n C dX1_placeFree_56 rfl rfl ?_
      refine k_iload_n C dX1_placeFree_57 rfl rfl ?_
      refine k_aload_n C dX1_placeFree_58 rfl rfl ?_
      refine k_callV C okX1_58 dX1_placeFree_59 (c_barred L (F2.bk hB) (by rw [g27]; exact C2) (F2.bn hb)) rfl rfl (by decide) rfl ⟨rfl, rfl, by show 3 + 1 ≤ 7 + 2 * f; omega, by show 8 + (4 + 11) + 64 * (3) ≤ 64 * (7 + 2 * f); omega⟩ rfl (Nat.le_of_ble_eq_true rfl) (fun r59 M59 hr59 hp59 => ?_)
      obtain ⟨rfl, hp59⟩ := hp59
      refine k_callV C okX1_62 dX1_placeFree_62 (c_isLost L (F2.ft hT) nd r59 (by rw [m9]; omega) (fun k a b => by rw [g28 k a b]; exact r28 k a b) hp59) rfl rfl (by decide) rfl ⟨rfl, rfl, by show 3 + 1 ≤ 7 + 2 * f; omega, by show 8 + (5 + 11) + 64 * (3) ≤ 64 * (7 + 2 * f); omega⟩ rfl (Nat.le_of_ble_eq_true rfl) (fun r62 M62 hr62 hp62 => ?_)
      obtain ⟨rfl, hp62⟩ := hp62
      rw [ltq] at hp62
      refine k_if_ne C (tgt := 88) dX1_placeFree_65 rfl (by omega) (fun c65 => ?_) (fun c65 => ?_)
      · refine k_iinc C dX1_placeFree_88 (by decide) rfl ?_
        refine k_goto C (tgt := 25) dX1_placeFree_91 rfl ?_
        refine k_cut2 C (lv' := [(0, _), (1, _), (2, _), (3, _), (4, _)]) ⟨rfl, rfl, rfl, rfl, rfl, trivial⟩ ?_
        first
        | (rcases hp80 with z | ⟨z0, z1, z2, z3⟩
           · exfalso; omega
           · refine l_free M hB hb hT ha f ih B nd u hI hnd e he hg C M80 F80 (s + 1) (by omega) (fun i hi => by rw [z2, g27, updI_ne hi]) (fun k a b => by rw [z3 k a (by omega), g28 k a (by omega), updI_ne (by omega)]) (fun t a b => ?_)
             by_cases q : t = s
             · rw [q]; exact Or.inr z1
             · exact hno t a (by omega))
        | (refine l_free M hB hb hT ha f ih B nd u hI hnd e he hg C L F2 (s + 1) (by omega) (fun i hi => by rw [g27, updI_ne hi]) (fun k a b => by rw [g28 k a (by omega), updI_ne (by omega)]) (fun t a b => ?_)
           by_cases q : t = s
           · rw [q]
             rcases hp62 with ⟨z0, z | ⟨k, w, z1, z2, z3, z4, z5⟩⟩ | z
             · exact Or.inl z
             · exact Or.inr (fun y => canP_nb f (nd + 1) _ _ _ y k w (by omega) (by omega) (by omega) z4 z5)
             · exfalso; omega
           · exact hno t a (by omega))
      · refine k_aload_n C dX1_placeFree_68 rfl rfl ?_
        refine k_iload_n C dX1_placeFree_69 rfl rfl ?_
        refine k_iconst C dX1_placeFree_70 ?_
        refine k_iadd C dX1_placeFree_71 ?_
        refine k_iload_n C dX1_placeFree_72 rfl rfl ?_
        refine k_iload C dX1_placeFree_73 rfl ?_
        refine k_iconst C dX1_placeFree_75 ?_
        refine k_iadd C dX1_placeFree_76 ?_
        refine k_max C (by omega) (by omega) okX1_65 dX1_placeFree_77 ⟨by show 1 ≤ 7 + 2 * f; omega, by show 2 + 13 ≤ 64 * (7 + 2 * f); omega⟩ (fun r77 hp77 => ?_)
        have eu : r77 = if s = u then u + 1 else u := by split <;> omega
        refine k_callV C okX1_41 dX1_placeFree_80 (ih L (nd + 1) r77 ⟨F2, by rw [g27]; exact C2, fun k a b => by rw [g28 k a (by omega)]; exact r28 k a (by omega), by omega⟩ (by omega) (by omega)) rfl rfl (by decide) rfl ⟨rfl, rfl, by show 6 + 2 * f + 1 ≤ 7 + 2 * f; omega, by show 8 + (4 + 11) + 64 * (6 + 2 * f) ≤ 64 * (7 + 2 * f); omega⟩ rfl (Nat.le_of_ble_eq_true rfl) (fun r80 M80 hr80 hp80 => ?_)
        rw [eu] at hp80
        obtain ⟨F80, hp80⟩ := hp80
        rw [cq] at hp80
        refine k_if_eq C (tgt := 88) dX1_placeFree_83 rfl (by omega) (fun c83 => ?_) (fun c83 => ?_)
        · refine k_iinc C dX1_placeFree_88 (by decide) rfl ?_
          refine k_goto C (tgt := 25) dX1_placeFree_91 rfl ?_
          refine k_cut2 C (lv' := [(0, _), (1, _), (2, _), (3, _), (4, _)]) ⟨rfl, rfl, rfl, rfl, rfl, trivial⟩ ?_
          first
          | (rcases hp80 with z | ⟨z0, z1, z2, z3⟩
             · exfalso; omega
             · refine l_free M hB hb hT ha f ih B nd u hI hnd e he hg C M80 F80 (s + 1) (by omega) (fun i hi => by rw [z2, g27, updI_ne hi]) (fun k a b => by rw [z3 k a (by omega), g28 k a (by omega), updI_ne (by omega)]) (fun t a b => ?_)
               by_cases q : t = s
               · rw [q]; exact Or.inr z1
               · exact hno t a (by omega))
          | (refine l_free M hB hb hT ha f ih B nd u hI hnd e he hg C L F2 (s + 1) (by omega) (fun i hi => by rw [g27, updI_ne hi]) (fun k a b => by rw [g28 k a (by omega), updI_ne (by omega)]) (fun t a b => ?_)
             by_cases q : t = s
             · rw [q]
               rcases hp62 with ⟨z0, z | ⟨k, w, z1, z2, z3, z4, z5⟩⟩ | z
               · exact Or.inl z
               · exact Or.inr (fun y => canP_nb f (nd + 1) _ _ _ y k w (by omega) (by omega) (by omega) z4 z5)
               · exfalso; omega
             · exact hno t a (by omega))
        · refine k_iconst C dX1_placeFree_86 ?_
          exact k_zret C dX1_placeFree_87 (by omega) (fun _ => by
          rcases hp80 with z | z
          · refine ⟨F80, Or.inl ⟨rfl, Or.inr ⟨by rw [← he]; exact hg, s, hs.1, by omega, by omega, ?_, by rw [← he]; exact z.2⟩⟩⟩
            rw [← he]
            rcases hp62 with y | y
            · exfalso; omega
            · exact fun q => y.2 (Or.inl q)
          · exfalso; omega)
termination_by (M 26 4 - s).toNat
decreasing_by all_goals omega
set_option maxHeartbeats 4000000 in
set_option maxRecDepth 100000 in
theorem c_free (M : Mem) (hB : BkC M) (hb : BndI M M (M 3 6)) (hT : FwT M) (ha : 1 ≤ M 26 4 ∧ M 26 4 ≤ 3) (f : Nat) (ih : ∀ (N : Mem) (nd u : Int), FwI M N nd u → 1 ≤ nd → nd + f = M 9 6 → Ct shC nC yX1_placeFrom cX1_placeFrom 4 (some .boolean) (lvl (6 + 2 * f)) [.inr 26, .inl nd, .inl u] N (fun r M' => FwR M N M' f nd u r)) (B : Mem) (nd u : Int) (hI : FwI M B nd u) (hnd : 1 ≤ nd ∧ nd + (f + 1 : Nat) = M 9 6) (e : Int) (he : e = 8 * B 28 (M 11 nd) + M 12 nd) (hg : B 27 e = -1) : Ct shC nC yX1_placeFree cX1_placeFree 5 (some .boolean) (lvl (7 + 2 * f)) [.inr 26, .inl nd, .inl u, .inl e] B (fun r M' => FwR M B M' (f + 1) nd u r) := by
  refine Ct_of (by decide +kernel) (Nat.le_of_ble_eq_true rfl) (fun K C => ?_)
  have t1 := hT.1
  obtain ⟨w1, w2⟩ := hT.2 nd hnd.1 (by omega)
  have so1 := hI.2.2.1 (M 11 nd) w1.1 w1.2
  have u1 := hI.2.2.2
  refine k_iload_n C dX1_placeFree_0 rfl rfl ?_
  refine k_if_lt C (tgt := 20) dX1_placeFree_1 rfl (by omega) (fun c1 => ?_) (fun c1 => ?_)
  · exfalso; omega
  · refine k_iload_n C dX1_placeFree_4 rfl rfl ?_
    refine k_bipush C dX1_placeFree_5 (by decide) ?_
    refine k_icmp_ge C (tgt := 20) dX1_placeFree_7 rfl (by omega) (by omega) (fun c7 => ?_) (fun c7 => ?_)
    · exfalso; omega
    · refine k_iload_n C dX1_placeFree_10 rfl rfl ?_
      refine k_if_lt C (tgt := 20) dX1_placeFree_11 rfl (by omega) (fun c11 => ?_) (fun c11 => ?_)
      · exfalso; omega
      · refine k_iload_n C dX1_placeFree_14 rfl rfl ?_
        refine k_bipush C dX1_placeFree_15 (by decide) ?_
        refine k_icmp_lt C (tgt := 22) dX1_placeFree_17 rfl (by omega) (by omega) (fun c17 => ?_) (fun c17 => ?_)
        · refine k_iconst C dX1_placeFree_22 ?_
          refine k_istore C dX1_placeFree_23 (by decide) ?_
          refine k_cut2 C (lv' := [(0, _), (1, _), (2, _), (3, _), (4, _)]) ⟨rfl, rfl, rfl, rfl, rfl, trivial⟩ ?_
          exact l_free M hB hb hT ha f ih B nd u hI hnd e he hg C B hI.1 0 (by omega) (fun _ _ => rfl) (fun _ _ _ => rfl) (fun t a b => by omega)
        · exfalso; omega
set_option maxHeartbeats 4000000 in
set_option maxRecDepth 100000 in
theorem c_from (M : Mem) (hB : BkC M) (hb : BndI M M (M 3 6)) (hT : FwT M) (ha : 1 ≤ M 26 4 ∧ M 26 4 ≤ 3) : ∀ (f : Nat) (N : Mem) (nd u : Int), FwI M N nd u → 1 ≤ nd → nd + f = M 9 6 → Ct shC nC yX1_placeFrom cX1_placeFrom 4 (some .boolean) (lvl (6 + 2 * f)) [.inr 26, .inl nd, .inl u] N (fun r M' => FwR M N M' f nd u r)
  | 0, N, nd, u, hI, h1, h2 => by
    have t1 := hT.1
    have n9 := hI.1.e.2.2.2.2.2.2.1
    have u1 := hI.2.2.2
    refine Ct_of (by decide +kernel) (Nat.le_of_ble_eq_true rfl) (fun K C => ?_)
    refine k_iload_n C dX1_placeFrom_0 rfl rfl ?_
    refine k_aload_n C dX1_placeFrom_1 rfl rfl ?_
    refine k_getR C (j := 1) okC1 rfl (by decide) (by decide) rfl flX1_22 dX1_placeFrom_2 ?_
    refine k_getJ C 6 6 rfl okC9 rfl (by decide) (by decide) rfl flX1_45 dX1_placeFrom_5 (fun ld5 => ?_)
    rw [n9]
    refine k_icmp_ge C (tgt := 17) dX1_placeFrom_8 rfl (by omega) (by omega) (fun c8 => ?_) (fun c8 => ?_)
    · refine k_iconst C dX1_placeFrom_17 ?_
      exact k_zret C dX1_placeFrom_18 (by omega) (fun _ => ⟨hI.1, Or.inl ⟨rfl, trivial⟩⟩)
    · refine k_iload_n C dX1_placeFrom_11 rfl rfl ?_
      refine k_bipush C dX1_placeFrom_12 (by decide) ?_
      refine k_icmp_lt C (tgt := 19) dX1_placeFrom_14 rfl (by omega) (by omega) (fun c14 => ?_) (fun c14 => ?_)
      · exfalso; omega
      · refine k_iconst C dX1_placeFrom_17 ?_
        exact k_zret C dX1_placeFrom_18 (by omega) (fun _ => ⟨hI.1, Or.inl ⟨rfl, trivial⟩⟩)
  | f + 1, N, nd, u, hI, h1, h2 => by
    have t1 := hT.1
    obtain ⟨n3, n4, n5, n6, n7, n8, n9, n11, n12, n26⟩ := hI.1.e
    obtain ⟨w1, w2⟩ := hT.2 nd h1 (by omega)
    have so1 := hI.2.2.1 (M 11 nd) w1.1 w1.2
    have ch1 := hI.2.1 (8 * N 28 (M 11 nd) + M 12 nd) (by omega) (by omega)
    have u1 := hI.2.2.2
    refine Ct_of (by decide +kernel) (Nat.le_of_ble_eq_true rfl) (fun K C => ?_)
    refine k_iload_n C dX1_placeFrom_0 rfl rfl ?_
    refine k_aload_n C dX1_placeFrom_1 rfl rfl ?_
    refine k_getR C (j := 1) okC1 rfl (by decide) (by decide) rfl flX1_22 dX1_placeFrom_2 ?_
    refine k_getJ C 6 6 rfl okC9 rfl (by decide) (by decide) rfl flX1_45 dX1_placeFrom_5 (fun ld5 => ?_)
    rw [n9]
    refine k_icmp_ge C (tgt := 17) dX1_placeFrom_8 rfl (by omega) (by omega) (fun c8 => ?_) (fun c8 => ?_)
    · exfalso; omega
    · refine k_iload_n C dX1_placeFrom_11 rfl rfl ?_
      refine k_bipush C dX1_placeFrom_12 (by decide) ?_
      refine k_icmp_lt C (tgt := 19) dX1_placeFrom_14 rfl (by omega) (by omega) (fun c14 => ?_) (fun c14 => ?_)
      · refine k_aload_n C dX1_placeFrom_19 rfl rfl ?_
        refine k_iload_n C dX1_placeFrom_20 rfl rfl ?_
        refine k_callV C okX1_50 dX1_placeFrom_21 (c_slotInto N nd (by omega) (by rw [n11]; omega) (by rw [n12]; omega) (by rw [n11]; exact so1)) rfl rfl (by decide) rfl ⟨rfl, rfl, by show 2 + 1 ≤ 6 + 2 * (f + 1); omega, by show 8 + (2 + 11) + 64 * (2) ≤ 64 * (6 + 2 * (f + 1)); omega⟩ rfl (Nat.le_of_ble_eq_true rfl) (fun r21 M21 hr21 hp21 => ?_)
        obtain ⟨rfl, hp21⟩ := hp21
        rw [n11, n12] at hp21
        subst hp21
        refine k_istore_n C dX1_placeFrom_24 rfl (by decide) ?_
        refine k_iload_n C dX1_placeFrom_25 rfl rfl ?_
        refine k_iconst C dX1_placeFrom_26 ?_
        refine k_icmp_ne C (tgt := 32) dX1_placeFrom_27 rfl (by omega) (by omega) (fun c27 => ?_) (fun c27 => ?_)
        · refine k_aload_n C dX1_placeFrom_32 rfl rfl ?_
          refine k_getR C (j := 2) okC1 rfl (by decide) (by decide) rfl flX1_9 dX1_placeFrom_33 ?_
          refine k_iload_n C dX1_placeFrom_36 rfl rfl ?_
          refine k_iaload C rfl (by decide) (by decide) ⟨by omega, by omega⟩ dX1_placeFrom_37 (fun ld37 => ?_)
          refine k_iconst C dX1_placeFrom_38 ?_
          refine k_icmp_ne C (tgt := 50) dX1_placeFrom_39 rfl (by omega) (by omega) (fun c39 => ?_) (fun c39 => ?_)
          · refine k_aload_n C dX1_placeFrom_50 rfl rfl ?_
            refine k_getR C (j := 3) okC1 rfl (by decide) (by decide) rfl flX1_15 dX1_placeFrom_51 ?_
            refine k_iload_n C dX1_placeFrom_54 rfl rfl ?_
            refine k_aload_n C dX1_placeFrom_55 rfl rfl ?_
            refine k_getR C (j := 2) okC1 rfl (by decide) (by decide) rfl flX1_9 dX1_placeFrom_56 ?_
            refine k_iload_n C dX1_placeFrom_59 rfl rfl ?_
            refine k_iaload C rfl (by decide) (by decide) ⟨by omega, by omega⟩ dX1_placeFrom_60 (fun ld60 => ?_)
            refine k_iastore C rfl (by decide) (by decide) ⟨by omega, by omega⟩ (by omega) dX1_placeFrom_61 ?_
            refine k_aload_n C dX1_placeFrom_62 rfl rfl ?_
            refine k_iload_n C dX1_placeFrom_63 rfl rfl ?_
            refine k_iconst C dX1_placeFrom_64 ?_
            refine k_iadd C dX1_placeFrom_65 ?_
            refine k_iload_n C dX1_placeFrom_66 rfl rfl ?_
            refine k_callV C okX1_41 dX1_placeFrom_67 (c_from M hB hb hT ha f (up N 28 nd (N 27 (8 * N 28 (M 11 nd) + M 12 nd))) (nd + 1) u ⟨hI.1.u8, by rw [up_ne (by decide)]; exact hI.2.1, fun k a b => by rw [up_at]; by_cases z : k = nd; (rw [if_pos z]; omega); (rw [if_neg z]; exact hI.2.2.1 k a (by omega)), u1⟩ (by omega) (by omega)) rfl rfl (by decide) rfl ⟨rfl, rfl, by show 6 + 2 * f + 1 ≤ 6 + 2 * (f + 1); omega, by show 8 + (4 + 11) + 64 * (6 + 2 * f) ≤ 64 * (6 + 2 * (f + 1)); omega⟩ rfl (Nat.le_of_ble_eq_true rfl) (fun r67 M67 hr67 hp67 => ?_)
            have r67b : r67 = 0 ∨ r67 = 1 := by rcases hp67.2 with z | z; exact Or.inr z.1; exact Or.inl z.1
            exact k_zret C dX1_placeFrom_70 (by omega) (fun _ => by
        have g28 : up N 28 nd (N 27 (8 * N 28 (M 11 nd) + M 12 nd)) 28 = updI (N 28) nd (N 27 (8 * N 28 (M 11 nd) + M 12 nd)) := by funext i; rw [up_at]; rfl
        have g27 : up N 28 nd (N 27 (8 * N 28 (M 11 nd) + M 12 nd)) 27 = N 27 := up_ne (by decide)
        obtain ⟨z0, z⟩ := hp67
        unfold cnc at z
        rw [g27, g28] at z
        refine ⟨z0, ?_⟩
        rcases z with z | ⟨z1, z2, z3, z4⟩
        · exact Or.inl ⟨z.1, Or.inl ⟨c39, z.2⟩⟩
        · refine Or.inr ⟨z1, fun y => ?_, z3, fun k a b => by rw [z4 k a (by omega), updI_ne (by omega)]⟩
          rcases y with y | y
          · exact z2 y.2
          · exact c39 y.1)
          · refine k_aload_n C dX1_placeFrom_42 rfl rfl ?_
            refine k_iload_n C dX1_placeFrom_43 rfl rfl ?_
            refine k_iload_n C dX1_placeFrom_44 rfl rfl ?_
            refine k_iload_n C dX1_placeFrom_45 rfl rfl ?_
            refine k_callV C okX1_54 dX1_placeFrom_46 (c_free M hB hb hT ha f (c_from M hB hb hT ha f) N nd u hI ⟨h1, h2⟩ (8 * N 28 (M 11 nd) + M 12 nd) rfl c39) rfl rfl (by decide) rfl ⟨rfl, rfl, by show 7 + 2 * f + 1 ≤ 6 + 2 * (f + 1); omega, by show 8 + (5 + 11) + 64 * (7 + 2 * f) ≤ 64 * (6 + 2 * (f + 1)); omega⟩ rfl (Nat.le_of_ble_eq_true rfl) (fun r46 M46 hr46 hp46 => ?_)
            have r46b : r46 = 0 ∨ r46 = 1 := by rcases hp46.2 with z | z; exact Or.inr z.1; exact Or.inl z.1
            exact k_zret C dX1_placeFrom_49 (by omega) (fun _ => hp46)
        · exfalso; omega
      · exfalso; omega
