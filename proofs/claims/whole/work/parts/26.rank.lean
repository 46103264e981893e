/-! RANK: hv x how many rows have x, ho (8 x + y) in how many it holds; a habit h is x = h / 8, y = h % 8 -/
def rkd (hv : Int → Int) (h : Int) : Prop := ¬ h / 8 = h % 8 ∧ 0 < hv (h / 8)
def ahd (hv ho : Int → Int) (a b : Int) : Prop := ho b * hv (a / 8) < ho a * hv (b / 8) ∨ (ho a * hv (b / 8) = ho b * hv (a / 8) ∧ (hv (b / 8) < hv (a / 8) ∨ (hv (a / 8) = hv (b / 8) ∧ a < b)))
noncomputable def ahN (hv ho : Int → Int) (h : Int) : Int := cnI (fun g => rkd hv g ∧ ahd hv ho g h) 64
def RkP (hv ho : Int → Int) (k r : Int) : Prop := (0 ≤ r ∧ r < 64 ∧ rkd hv r ∧ ahN hv ho r = k ∧ ∀ g, 0 ≤ g → g < r → ¬ (rkd hv g ∧ ahN hv ho g = k)) ∨ (r = -1 ∧ ∀ g, 0 ≤ g → g < 64 → ¬ (rkd hv g ∧ ahN hv ho g = k))
def okH (M : Mem) : Prop := (∀ x, 0 ≤ x → x < 8 → 0 ≤ M 52 x ∧ M 52 x ≤ 60) ∧ ∀ i, 0 ≤ i → i < 64 → 0 ≤ M 53 i ∧ M 53 i ≤ 60
theorem mulr {a b : Int} (ha : 0 ≤ a ∧ a ≤ 60) (hb : 0 ≤ b ∧ b ≤ 60) : 0 ≤ a * b ∧ a * b ≤ 3600 := by
  constructor
  · exact Int.mul_nonneg ha.1 hb.1
  · have := Int.mul_le_mul ha.2 hb.2 hb.1 (by decide : (0 : Int) ≤ 60)
    omega
set_option maxRecDepth 100000 in
theorem c_Habits_isRanked (M : Mem) (hH : okH M) (h : Int) (hh : 0 ≤ h ∧ h < 64) : Ct shC nC yX2_isRanked cX2_isRanked 2 (some .boolean) (lvl 2) [.inr 51, .inl h] M (fun r M' => M = M' ∧ ((r = 1 ∧ rkd (M 52) h) ∨ (r = 0 ∧ ¬ rkd (M 52) h))) := by
  refine Ct_of (by decide +kernel) (Nat.le_of_ble_eq_true rfl) (fun K C => ?_)
  refine k_iload_n C dX2_isRanked_0 rfl rfl ?_
  refine k_bipush C dX2_isRanked_1 (by decide) ?_
  refine k_idiv C dX2_isRanked_3 ⟨by omega, by omega⟩ (by decide) ?_
  refine k_iload_n C dX2_isRanked_4 rfl rfl ?_
  refine k_bipush C dX2_isRanked_5 (by decide) ?_
  refine k_irem C dX2_isRanked_7 ⟨by omega, by omega⟩ (by decide) ?_
  refine k_icmp_eq C (tgt := 26) dX2_isRanked_8 rfl (by omega) (by omega) (fun c8 => ?_) (fun c8 => ?_)
  · refine k_iconst C dX2_isRanked_26 ?_
    exact k_zret C dX2_isRanked_27 (by omega) (fun _ => ⟨rfl, by unfold rkd; omega⟩)
  · refine k_aload_n C dX2_isRanked_11 rfl rfl ?_
    refine k_iload_n C dX2_isRanked_12 rfl rfl ?_
    refine k_bipush C dX2_isRanked_13 (by decide) ?_
    refine k_idiv C dX2_isRanked_15 ⟨by omega, by omega⟩ (by decide) ?_
    refine k_callV C okX2_65 dX2_isRanked_16 (c_Habits_having M (h / 8) (by omega)) rfl rfl (by decide) rfl (by decide) rfl (Nat.le_of_ble_eq_true rfl) (fun r16 M16 hr16 hp16 => ?_)
    obtain ⟨rfl, rfl⟩ := hp16
    refine k_if_le C (tgt := 26) dX2_isRanked_19 rfl (by omega) (fun c19 => ?_) (fun c19 => ?_)
    · refine k_iconst C dX2_isRanked_26 ?_
      exact k_zret C dX2_isRanked_27 (by omega) (fun _ => ⟨rfl, by unfold rkd; omega⟩)
    · refine k_iconst C dX2_isRanked_22 ?_
      refine k_goto C (tgt := 27) dX2_isRanked_23 rfl ?_
      exact k_zret C dX2_isRanked_27 (by omega) (fun _ => ⟨rfl, by unfold rkd; omega⟩)
set_option maxRecDepth 100000 in
theorem c_Habits_isAhead (M : Mem) (hH : okH M) (a b : Int) (ha : 0 ≤ a ∧ a < 64) (hb : 0 ≤ b ∧ b < 64) : Ct shC nC yX2_isAhead cX2_isAhead 7 (some .boolean) (lvl 2) [.inr 51, .inl a, .inl b] M (fun r M' => M = M' ∧ ((r = 1 ∧ ahd (M 52) (M 53) a b) ∨ (r = 0 ∧ ¬ ahd (M 52) (M 53) a b))) := by
  refine Ct_of (by decide +kernel) (Nat.le_of_ble_eq_true rfl) (fun K C => ?_)
  have q1 := hH.1 (a / 8) (by omega) (by omega); have q2 := hH.1 (b / 8) (by omega) (by omega); have q3 := hH.2 a (by omega) (by omega); have q4 := hH.2 b (by omega) (by omega)
  have m1 := mulr q3 q2; have m2 := mulr q4 q1
  refine k_aload_n C dX2_isAhead_0 rfl rfl ?_
  refine k_iload_n C dX2_isAhead_1 rfl rfl ?_
  refine k_bipush C dX2_isAhead_2 (by decide) ?_
  refine k_idiv C dX2_isAhead_4 ⟨by omega, by omega⟩ (by decide) ?_
  refine k_callV C okX2_65 dX2_isAhead_5 (c_Habits_having M (a / 8) (by omega)) rfl rfl (by decide) rfl (by decide) rfl (Nat.le_of_ble_eq_true rfl) (fun r5 M5 hr5 hp5 => ?_)
  obtain ⟨rfl, rfl⟩ := hp5
  refine k_istore_n C dX2_isAhead_8 rfl (by decide) ?_
  refine k_aload_n C dX2_isAhead_9 rfl rfl ?_
  refine k_iload_n C dX2_isAhead_10 rfl rfl ?_
  refine k_bipush C dX2_isAhead_11 (by decide) ?_
  refine k_idiv C dX2_isAhead_13 ⟨by omega, by omega⟩ (by decide) ?_
  refine k_callV C okX2_65 dX2_isAhead_14 (c_Habits_having M (b / 8) (by omega)) rfl rfl (by decide) rfl (by decide) rfl (Nat.le_of_ble_eq_true rfl) (fun r14 M14 hr14 hp14 => ?_)
  obtain ⟨rfl, rfl⟩ := hp14
  refine k_istore C dX2_isAhead_17 (by decide) ?_
  refine k_aload_n C dX2_isAhead_19 rfl rfl ?_
  refine k_iload_n C dX2_isAhead_20 rfl rfl ?_
  refine k_bipush C dX2_isAhead_21 (by decide) ?_
  refine k_idiv C dX2_isAhead_23 ⟨by omega, by omega⟩ (by decide) ?_
  refine k_iload_n C dX2_isAhead_24 rfl rfl ?_
  refine k_bipush C dX2_isAhead_25 (by decide) ?_
  refine k_irem C dX2_isAhead_27 ⟨by omega, by omega⟩ (by decide) ?_
  refine k_callV C okX2_72 dX2_isAhead_28 (c_Habits_holding M (a / 8) (a % 8) (by omega) (by omega)) rfl rfl (by decide) rfl (by decide) rfl (Nat.le_of_ble_eq_true rfl) (fun r28 M28 hr28 hp28 => ?_)
  obtain ⟨rfl, rfl⟩ := hp28
  rw [show 8 * (a / 8) + a % 8 = a by omega]
  refine k_iload C dX2_isAhead_31 rfl ?_
  refine k_imul C dX2_isAhead_33 ?_
  refine k_istore C dX2_isAhead_34 (by decide) ?_
  refine k_aload_n C dX2_isAhead_36 rfl rfl ?_
  refine k_iload_n C dX2_isAhead_37 rfl rfl ?_
  refine k_bipush C dX2_isAhead_38 (by decide) ?_
  refine k_idiv C dX2_isAhead_40 ⟨by omega, by omega⟩ (by decide) ?_
  refine k_iload_n C dX2_isAhead_41 rfl rfl ?_
  refine k_bipush C dX2_isAhead_42 (by decide) ?_
  refine k_irem C dX2_isAhead_44 ⟨by omega, by omega⟩ (by decide) ?_
  refine k_callV C okX2_72 dX2_isAhead_45 (c_Habits_holding M (b / 8) (b % 8) (by omega) (by omega)) rfl rfl (by decide) rfl (by decide) rfl (Nat.le_of_ble_eq_true rfl) (fun r45 M45 hr45 hp45 => ?_)
  obtain ⟨rfl, rfl⟩ := hp45
  rw [show 8 * (b / 8) + b % 8 = b by omega]
  refine k_iload_n C dX2_isAhead_48 rfl rfl ?_
  refine k_imul C dX2_isAhead_49 ?_
  refine k_istore C dX2_isAhead_50 (by decide) ?_
  refine k_iload C dX2_isAhead_52 rfl ?_
  refine k_iload C dX2_isAhead_54 rfl ?_
  refine k_icmp_eq C (tgt := 72) dX2_isAhead_56 rfl (by omega) (by omega) (fun c56 => ?_) (fun c56 => ?_)
  · refine k_iload_n C dX2_isAhead_72 rfl rfl ?_
    refine k_iload C dX2_isAhead_73 rfl ?_
    refine k_icmp_eq C (tgt := 92) dX2_isAhead_75 rfl (by omega) (by omega) (fun c75 => ?_) (fun c75 => ?_)
    · refine k_iload_n C dX2_isAhead_92 rfl rfl ?_
      refine k_iload_n C dX2_isAhead_93 rfl rfl ?_
      refine k_icmp_ge C (tgt := 101) dX2_isAhead_94 rfl (by omega) (by omega) (fun c94 => ?_) (fun c94 => ?_)
      · refine k_iconst C dX2_isAhead_101 ?_
        exact k_zret C dX2_isAhead_102 (by omega) (fun _ => ⟨rfl, by unfold ahd; omega⟩)
      · refine k_iconst C dX2_isAhead_97 ?_
        refine k_goto C (tgt := 102) dX2_isAhead_98 rfl ?_
        exact k_zret C dX2_isAhead_102 (by omega) (fun _ => ⟨rfl, by unfold ahd; omega⟩)
    · refine k_iload_n C dX2_isAhead_78 rfl rfl ?_
      refine k_iload C dX2_isAhead_79 rfl ?_
      refine k_icmp_le C (tgt := 88) dX2_isAhead_81 rfl (by omega) (by omega) (fun c81 => ?_) (fun c81 => ?_)
      · refine k_iconst C dX2_isAhead_88 ?_
        refine k_goto C (tgt := 102) dX2_isAhead_89 rfl ?_
        exact k_zret C dX2_isAhead_102 (by omega) (fun _ => ⟨rfl, by unfold ahd; omega⟩)
      · refine k_iconst C dX2_isAhead_84 ?_
        refine k_goto C (tgt := 102) dX2_isAhead_85 rfl ?_
        exact k_zret C dX2_isAhead_102 (by omega) (fun _ => ⟨rfl, by unfold ahd; omega⟩)
  · refine k_iload C dX2_isAhead_59 rfl ?_
    refine k_iload C dX2_isAhead_61 rfl ?_
    refine k_icmp_le C (tgt := 70) dX2_isAhead_63 rfl (by omega) (by omega) (fun c63 => ?_) (fun c63 => ?_)
    · refine k_iconst C dX2_isAhead_70 ?_
      exact k_zret C dX2_isAhead_71 (by omega) (fun _ => ⟨rfl, by unfold ahd; omega⟩)
    · refine k_iconst C dX2_isAhead_66 ?_
      refine k_goto C (tgt := 71) dX2_isAhead_67 rfl ?_
      exact k_zret C dX2_isAhead_71 (by omega) (fun _ => ⟨rfl, by unfold ahd; omega⟩)
set_option maxRecDepth 100000 in
theorem l_countAhead {K : Kt} (M : Mem) (hH : okH M) (h : Int) (hh : 0 ≤ h ∧ h < 64) (C : Ctx shC nC RX2 cX2_countAhead 4 (some .int) (lvl 3) (fun r M' => M = M' ∧ r = ahN (M 52) (M 53) h) K) (sum g : Int) (hg : 0 ≤ g ∧ g ≤ 64) (hs : sum = cnI (fun g => rkd (M 52) g ∧ ahd (M 52) (M 53) g h) g) : K 4 [(0, .inr 51), (1, .inl h), (2, .inl sum), (3, .inl g)] [] M := by
  have hq := cnI_rg (fun g => rkd (M 52) g ∧ ahd (M 52) (M 53) g h) hg.1
  refine k_iload_n C dX2_countAhead_4 rfl rfl ?_
  refine k_bipush C dX2_countAhead_5 (by decide) ?_
  refine k_icmp_ge C (tgt := 41) dX2_countAhead_7 rfl (by omega) (by omega) (fun c7 => ?_) (fun c7 => ?_)
  · refine k_iload_n C dX2_countAhead_41 rfl rfl ?_
    exact k_iret C dX2_countAhead_42 (by omega) (fun _ => ⟨rfl, by rw [hs, show g = 64 by omega]; rfl⟩)
  · refine k_iload_n C dX2_countAhead_10 rfl rfl ?_
    refine k_aload_n C dX2_countAhead_11 rfl rfl ?_
    refine k_iload_n C dX2_countAhead_12 rfl rfl ?_
    refine k_callV C okX2_59 dX2_countAhead_13 (c_Habits_isRanked M hH g (by omega)) rfl rfl (by decide) rfl (by decide) rfl (Nat.le_of_ble_eq_true rfl) (fun r13 M13 hr13 hp13 => ?_)
    obtain ⟨rfl, hp13⟩ := hp13
    refine k_if_eq C (tgt := 32) dX2_countAhead_16 rfl (by omega) (fun c16 => ?_) (fun c16 => ?_)
    · refine k_iconst C dX2_countAhead_32 ?_
      refine k_iadd C dX2_countAhead_33 ?_
      refine k_istore_n C dX2_countAhead_34 rfl (by decide) ?_
      refine k_iinc C dX2_countAhead_35 (by decide) rfl ?_
      refine k_goto C (tgt := 4) dX2_countAhead_38 rfl ?_
      refine k_cut2 C (lv' := [(0, _), (1, _), (2, _), (3, _)]) ⟨rfl, rfl, rfl, rfl, trivial⟩ ?_
      refine l_countAhead M hH h hh C _ _ (by omega) ?_
      rw [cnI_s _ hg.1]
      first
      | (rw [iteP_pos ⟨by rcases hp13 with z | z; exact z.2; omega, by rcases hp22 with z | z; exact z.2; omega⟩, hs]; done)
      | (rw [iteP_neg (fun q => by rcases hp22 with z | z; omega; exact z.2 q.2), hs]; done)
      | (rw [iteP_neg (fun q => by rcases hp13 with z | z; omega; exact z.2 q.1), hs]; done)
    · refine k_aload_n C dX2_countAhead_19 rfl rfl ?_
      refine k_iload_n C dX2_countAhead_20 rfl rfl ?_
      refine k_iload_n C dX2_countAhead_21 rfl rfl ?_
      refine k_callV C okX2_68 dX2_countAhead_22 (c_Habits_isAhead M hH g h (by omega) hh) rfl rfl (by decide) rfl (by decide) rfl (Nat.le_of_ble_eq_true rfl) (fun r22 M22 hr22 hp22 => ?_)
      obtain ⟨rfl, hp22⟩ := hp22
      refine k_if_eq C (tgt := 32) dX2_countAhead_25 rfl (by omega) (fun c25 => ?_) (fun c25 => ?_)
      · refine k_iconst C dX2_countAhead_32 ?_
        refine k_iadd C dX2_countAhead_33 ?_
        refine k_istore_n C dX2_countAhead_34 rfl (by decide) ?_
        refine k_iinc C dX2_countAhead_35 (by decide) rfl ?_
        refine k_goto C (tgt := 4) dX2_countAhead_38 rfl ?_
        refine k_cut2 C (lv' := [(0, _), (1, _), (2, _), (3, _)]) ⟨rfl, rfl, rfl, rfl, trivial⟩ ?_
        refine l_countAhead M hH h hh C _ _ (by omega) ?_
        rw [cnI_s _ hg.1]
        first
        | (rw [iteP_pos ⟨by rcases hp13 with z | z; exact z.2; omega, by rcases hp22 with z | z; exact z.2; omega⟩, hs]; done)
        | (rw [iteP_neg (fun q => by rcases hp22 with z | z; omega; exact z.2 q.2), hs]; done)
        | (rw [iteP_neg (fun q => by rcases hp13 with z | z; omega; exact z.2 q.1), hs]; done)
      · refine k_iconst C dX2_countAhead_28 ?_
        refine k_goto C (tgt := 33) dX2_countAhead_29 rfl ?_
        refine k_iadd C dX2_countAhead_33 ?_
        refine k_istore_n C dX2_countAhead_34 rfl (by decide) ?_
        refine k_iinc C dX2_countAhead_35 (by decide) rfl ?_
        refine k_goto C (tgt := 4) dX2_countAhead_38 rfl ?_
        refine k_cut2 C (lv' := [(0, _), (1, _), (2, _), (3, _)]) ⟨rfl, rfl, rfl, rfl, trivial⟩ ?_
        refine l_countAhead M hH h hh C _ _ (by omega) ?_
        rw [cnI_s _ hg.1]
        first
        | (rw [iteP_pos ⟨by rcases hp13 with z | z; exact z.2; omega, by rcases hp22 with z | z; exact z.2; omega⟩, hs]; done)
        | (rw [iteP_neg (fun q => by rcases hp22 with z | z; omega; exact z.2 q.2), hs]; done)
        | (rw [iteP_neg (fun q => by rcases hp13 with z | z; omega; exact z.2 q.1), hs]; done)
termination_by (64 - g).toNat
decreasing_by all_goals omega
set_option maxRecDepth 100000 in
theorem c_Habits_countAhead (M : Mem) (hH : okH M) (h : Int) (hh : 0 ≤ h ∧ h < 64) : Ct shC nC yX2_countAhead cX2_countAhead 4 (some .int) (lvl 3) [.inr 51, .inl h] M (fun r M' => M = M' ∧ r = ahN (M 52) (M 53) h) := by
  refine Ct_of (by decide +kernel) (Nat.le_of_ble_eq_true rfl) (fun K C => ?_)
  refine k_iconst C dX2_countAhead_0 ?_
  refine k_istore_n C dX2_countAhead_1 rfl (by decide) ?_
  refine k_iconst C dX2_countAhead_2 ?_
  refine k_istore_n C dX2_countAhead_3 rfl (by decide) ?_
  refine k_cut2 C (lv' := [(0, _), (1, _), (2, _), (3, _)]) ⟨rfl, rfl, rfl, rfl, trivial⟩ ?_
  exact l_countAhead M hH h hh C _ _ (by omega) rfl
theorem ahN_rg (hv ho : Int → Int) (h : Int) : 0 ≤ ahN hv ho h ∧ ahN hv ho h ≤ 64 := cnI_rg _ (by decide)
/-- how many of the first n are ranked ahead of h, h itself not counted: fewer than n -/
theorem cnI_lt {P : Int → Prop} {n j : Int} (hj : 0 ≤ j ∧ j < n) (h : ¬ P j) : cnI P n < n := by
  obtain ⟨m, rfl⟩ : ∃ m : Nat, n = m := ⟨n.toNat, by omega⟩
  induction m with
  | zero => omega
  | succ m ih =>
    rw [show ((m + 1 : Nat) : Int) = (m : Int) + 1 by omega, cnI_s _ (by omega)]
    by_cases e : j = m
    · subst e; rw [iteP_neg h]; have := cnI_rg P (n := (m : Int)) (by omega); omega
    · have := ih (by omega)
      by_cases q : P m
      · rw [iteP_pos q]; omega
      · rw [iteP_neg q]; omega
theorem ahd_self (hv ho : Int → Int) (h : Int) : ¬ ahd hv ho h h := by unfold ahd; omega
theorem ahN_lt (hv ho : Int → Int) {h : Int} (hh : 0 ≤ h ∧ h < 64) : ahN hv ho h < 64 := cnI_lt hh (fun q => ahd_self hv ho h q.2)
set_option maxRecDepth 100000 in
theorem l_atRank {K : Kt} (M : Mem) (hH : okH M) (k : Int) (hk : inR k) (C : Ctx shC nC RX2 cX2_atRank 3 (some .int) (lvl 4) (fun r M' => M = M' ∧ RkP (M 52) (M 53) k r) K) (h : Int) (hh : 0 ≤ h ∧ h ≤ 64) (hn : ∀ g, 0 ≤ g → g < h → ¬ (rkd (M 52) g ∧ ahN (M 52) (M 53) g = k)) : K 14 [(0, .inr 51), (1, .inl k), (2, .inl h)] [] M := by
  refine k_iload_n C dX2_atRank_14 rfl rfl ?_
  refine k_bipush C dX2_atRank_15 (by decide) ?_
  refine k_icmp_ge C (tgt := 45) dX2_atRank_17 rfl (by omega) (by omega) (fun c17 => ?_) (fun c17 => ?_)
  · refine k_iconst C dX2_atRank_45 ?_
    exact k_iret C dX2_atRank_46 (by omega) (fun _ => ⟨rfl, Or.inr ⟨rfl, fun g a b => hn g a (by omega)⟩⟩)
  · refine k_aload_n C dX2_atRank_20 rfl rfl ?_
    refine k_iload_n C dX2_atRank_21 rfl rfl ?_
    refine k_callV C okX2_59 dX2_atRank_22 (c_Habits_isRanked M hH h (by omega)) rfl rfl (by decide) rfl (by decide) rfl (Nat.le_of_ble_eq_true rfl) (fun r22 M22 hr22 hp22 => ?_)
    obtain ⟨rfl, hp22⟩ := hp22
    refine k_if_eq C (tgt := 39) dX2_atRank_25 rfl (by omega) (fun c25 => ?_) (fun c25 => ?_)
    · refine k_iinc C dX2_atRank_39 (by decide) rfl ?_
      refine k_goto C (tgt := 14) dX2_atRank_42 rfl ?_
      refine k_cut2 C (lv' := [(0, _), (1, _), (2, _)]) ⟨rfl, rfl, rfl, trivial⟩ ?_
      refine l_atRank M hH k hk C (h + 1) (by omega) (fun g a b q => ?_)
      by_cases e : g = h
      · subst e
        first | exact c34 q.2 | (rcases hp22 with z | z; omega; exact z.2 q.1)
      · exact hn g a (by omega) q
    · refine k_aload_n C dX2_atRank_28 rfl rfl ?_
      refine k_iload_n C dX2_atRank_29 rfl rfl ?_
      refine k_callV C okX2_62 dX2_atRank_30 (c_Habits_countAhead M hH h (by omega)) rfl rfl (by decide) rfl (by decide) rfl (Nat.le_of_ble_eq_true rfl) (fun r30 M30 hr30 hp30 => ?_)
      obtain ⟨rfl, rfl⟩ := hp30
      have har := ahN_rg (M 52) (M 53) h
      refine k_iload_n C dX2_atRank_33 rfl rfl ?_
      refine k_icmp_ne C (tgt := 39) dX2_atRank_34 rfl (by omega) (by omega) (fun c34 => ?_) (fun c34 => ?_)
      · refine k_iinc C dX2_atRank_39 (by decide) rfl ?_
        refine k_goto C (tgt := 14) dX2_atRank_42 rfl ?_
        refine k_cut2 C (lv' := [(0, _), (1, _), (2, _)]) ⟨rfl, rfl, rfl, trivial⟩ ?_
        refine l_atRank M hH k hk C (h + 1) (by omega) (fun g a b q => ?_)
        by_cases e : g = h
        · subst e
          first | exact c34 q.2 | (rcases hp22 with z | z; omega; exact z.2 q.1)
        · exact hn g a (by omega) q
      · refine k_iload_n C dX2_atRank_37 rfl rfl ?_
        exact k_iret C dX2_atRank_38 (by omega) (fun _ => ⟨rfl, Or.inl ⟨hh.1, by omega, by rcases hp22 with z | z; exact z.2; omega, c34, hn⟩⟩)
termination_by (64 - h).toNat
decreasing_by all_goals omega
set_option maxRecDepth 100000 in
theorem c_Habits_atRank (M : Mem) (hH : okH M) (k : Int) (hk : inR k) : Ct shC nC yX2_atRank cX2_atRank 3 (some .int) (lvl 4) [.inr 51, .inl k] M (fun r M' => M = M' ∧ RkP (M 52) (M 53) k r) := by
  refine Ct_of (by decide +kernel) (Nat.le_of_ble_eq_true rfl) (fun K C => ?_)
  refine k_iload_n C dX2_atRank_0 rfl rfl ?_
  refine k_if_lt C (tgt := 10) dX2_atRank_1 rfl (by omega) (fun c1 => ?_) (fun c1 => ?_)
  · refine k_iconst C dX2_atRank_10 ?_
    exact k_iret C dX2_atRank_11 (by omega) (fun _ => ⟨rfl, Or.inr ⟨rfl, fun g a b q => by have := ahN_rg (M 52) (M 53) g; have := ahN_lt (M 52) (M 53) ⟨a, b⟩; omega⟩⟩)
  · refine k_iload_n C dX2_atRank_4 rfl rfl ?_
    refine k_bipush C dX2_atRank_5 (by decide) ?_
    refine k_icmp_lt C (tgt := 12) dX2_atRank_7 rfl (by omega) (by omega) (fun c7 => ?_) (fun c7 => ?_)
    · refine k_iconst C dX2_atRank_12 ?_
      refine k_istore_n C dX2_atRank_13 rfl (by decide) ?_
      refine k_cut2 C (lv' := [(0, _), (1, _), (2, _)]) ⟨rfl, rfl, rfl, trivial⟩ ?_
      exact l_atRank M hH k hk C 0 (by omega) (fun g a b => by omega)
    · refine k_iconst C dX2_atRank_10 ?_
      exact k_iret C dX2_atRank_11 (by omega) (fun _ => ⟨rfl, Or.inr ⟨rfl, fun g a b q => by have := ahN_rg (M 52) (M 53) g; have := ahN_lt (M 52) (M 53) ⟨a, b⟩; omega⟩⟩)
