/-! HABITS: pure words; UsageDesk$Habits (cell 51: have 52, holds 53, lastPlace 54) -/
def hasx (sz ca : Int → Int) (r x : Int) : Prop := ∃ i, 0 ≤ i ∧ i < sz r ∧ ca (12 * r + i) = x
def hld (sz ca : Int → Int) (r x y : Int) : Prop := hasx sz ca r x ∧ ∀ i, 0 ≤ i → i < sz r → ca (12 * r + i) = x → ∃ j, i < j ∧ j < sz r ∧ ca (12 * r + j) = y
def hvP (sz rt th ca : Int → Int) (x : Int) : Int → Prop := fun r => th r = 1 ∧ rt r = 1 ∧ hasx sz ca r x
def hoP (sz rt th ca : Int → Int) (x y : Int) : Int → Prop := fun r => th r = 1 ∧ rt r = 1 ∧ hld sz ca r x y
/-- lp x is the last place of x among the first n calls of row r -/
def lastP (ca : Int → Int) (r n : Int) (lp : Int → Int) : Prop := ∀ x, 0 ≤ x → x < 8 → (lp x = -1 ∧ ∀ i, 0 ≤ i → i < n → ¬ ca (12 * r + i) = x) ∨ (0 ≤ lp x ∧ lp x < n ∧ ca (12 * r + lp x) = x ∧ ∀ i, lp x < i → i < n → ¬ ca (12 * r + i) = x)
theorem lastP_has {sz ca : Int → Int} {r : Int} {lp : Int → Int} (h : lastP ca r (sz r) lp) {x : Int} (hx : 0 ≤ x ∧ x < 8) : hasx sz ca r x ↔ ¬ lp x = -1 := by
  rcases h x hx.1 hx.2 with ⟨h1, h2⟩ | ⟨h1, h2, h3, h4⟩
  · constructor
    · rintro ⟨i, a, b, c⟩; exact absurd c (h2 i a b)
    · intro q; exact absurd h1 q
  · exact ⟨fun _ => by omega, fun _ => ⟨lp x, h1, h2, h3⟩⟩
theorem lastP_hld {sz ca : Int → Int} {r : Int} {lp : Int → Int} (h : lastP ca r (sz r) lp) {x y : Int} (hx : 0 ≤ x ∧ x < 8) (hy : 0 ≤ y ∧ y < 8) : hld sz ca r x y ↔ ¬ lp x = -1 ∧ lp x < lp y := by
  constructor
  · rintro ⟨ha, hb⟩
    have hn := (lastP_has h hx).mp ha
    rcases h x hx.1 hx.2 with ⟨h1, h2⟩ | ⟨h1, h2, h3, h4⟩
    · exact absurd h1 hn
    · obtain ⟨j, a, b, c⟩ := hb _ h1 h2 h3
      refine ⟨hn, ?_⟩
      rcases h y hy.1 hy.2 with ⟨g1, g2⟩ | ⟨g1, g2, g3, g4⟩
      · exact absurd c (g2 j (by omega) b)
      · by_cases hlt : lp y < j
        · exact absurd c (g4 j hlt b)
        · omega
  · rintro ⟨hn, hlt⟩
    refine ⟨(lastP_has h hx).mpr hn, fun i a b c => ?_⟩
    rcases h x hx.1 hx.2 with ⟨h1, h2⟩ | ⟨h1, h2, h3, h4⟩
    · exact absurd h1 hn
    · rcases h y hy.1 hy.2 with ⟨g1, g2⟩ | ⟨g1, g2, g3, g4⟩
      · omega
      · refine ⟨lp y, ?_, g2, g3⟩
        by_cases hi : lp x < i
        · exact absurd c (h4 i hi b)
        · omega
theorem lastP_s {ca : Int → Int} {r n : Int} {lp lp' : Int → Int} (h : lastP ca r n lp) (hn : 0 ≤ n) (hc : 0 ≤ ca (12 * r + n) ∧ ca (12 * r + n) < 8) (e : ∀ x, lp' x = if x = ca (12 * r + n) then n else lp x) : lastP ca r (n + 1) lp' := by
  intro x h0 h1
  rw [e x]
  by_cases hx : x = ca (12 * r + n)
  · rw [if_pos hx]
    exact Or.inr ⟨hn, by omega, hx.symm, fun i a b => by omega⟩
  · rw [if_neg hx]
    have key : ∀ i, i < n + 1 → (i < n → ¬ ca (12 * r + i) = x) → ¬ ca (12 * r + i) = x := by
      intro i a b q
      by_cases hi : i < n
      · exact b hi q
      · have : i = n := by omega
        subst this
        exact hx q.symm
    rcases h x h0 h1 with ⟨h2, h3⟩ | ⟨h2, h3, h4, h5⟩
    · exact Or.inl ⟨h2, fun i a b => key i b (fun c => h3 i a c)⟩
    · exact Or.inr ⟨h2, by omega, h4, fun i a b => key i b (fun c => h5 i a c)⟩
set_option maxRecDepth 100000 in
theorem c_Habits_having (M : Mem) (x : Int) (hx : 0 ≤ x ∧ x < 8) : Ct shC nC yX2_having cX2_having 2 (some .int) (lvl 1) [.inr 51, .inl x] M (fun r M' => M = M' ∧ r = M 52 x) := by
  refine Ct_of (by decide +kernel) (Nat.le_of_ble_eq_true rfl) (fun K C => ?_)
  refine k_iload_n C dX2_having_0 rfl rfl ?_
  refine k_callN C okX2_25 dX2_having_1 (c_isCall M x (by omega)) rfl (by decide) rfl (Nat.le_of_ble_eq_true rfl) (fun r1 M1 hr1 hp1 => ?_)
  obtain ⟨rfl, hp1⟩ := hp1
  refine k_if_eq C (tgt := 16) dX2_having_4 rfl (by omega) (fun c4 => ?_) (fun c4 => ?_)
  · refine k_iconst C dX2_having_16 ?_
    exact k_iret C dX2_having_17 (by omega) (fun _ => ⟨rfl, by first | rfl | omega⟩)
  · refine k_aload_n C dX2_having_7 rfl rfl ?_
    refine k_getR C (j := 1) okC2 rfl (by decide) (by decide) rfl flX2_9 dX2_having_8 ?_
    refine k_iload_n C dX2_having_11 rfl rfl ?_
    refine k_iaload C rfl (by decide) (by decide) ⟨by omega, by omega⟩ dX2_having_12 (fun _ => ?_)
    refine k_goto C (tgt := 17) dX2_having_13 rfl ?_
    exact k_iret C dX2_having_17 (by omega) (fun _ => ⟨rfl, by first | rfl | omega⟩)
set_option maxRecDepth 100000 in
theorem c_Habits_holding (M : Mem) (x y : Int) (hx : 0 ≤ x ∧ x < 8) (hy : 0 ≤ y ∧ y < 8) : Ct shC nC yX2_holding cX2_holding 3 (some .int) (lvl 1) [.inr 51, .inl x, .inl y] M (fun r M' => M = M' ∧ r = M 53 (8 * x + y)) := by
  refine Ct_of (by decide +kernel) (Nat.le_of_ble_eq_true rfl) (fun K C => ?_)
  refine k_iload_n C dX2_holding_0 rfl rfl ?_
  refine k_callN C okX2_25 dX2_holding_1 (c_isCall M x (by omega)) rfl (by decide) rfl (Nat.le_of_ble_eq_true rfl) (fun r1 M1 hr1 hp1 => ?_)
  obtain ⟨rfl, hp1⟩ := hp1
  refine k_if_eq C (tgt := 28) dX2_holding_4 rfl (by omega) (fun c4 => ?_) (fun c4 => ?_)
  · refine k_iconst C dX2_holding_28 ?_
    exact k_iret C dX2_holding_29 (by omega) (fun _ => ⟨rfl, by first | omega | rw [Int.mul_comm]⟩)
  · refine k_iload_n C dX2_holding_7 rfl rfl ?_
    refine k_callN C okX2_25 dX2_holding_8 (c_isCall M y (by omega)) rfl (by decide) rfl (Nat.le_of_ble_eq_true rfl) (fun r8 M8 hr8 hp8 => ?_)
    obtain ⟨rfl, hp8⟩ := hp8
    refine k_if_eq C (tgt := 28) dX2_holding_11 rfl (by omega) (fun c11 => ?_) (fun c11 => ?_)
    · refine k_iconst C dX2_holding_28 ?_
      exact k_iret C dX2_holding_29 (by omega) (fun _ => ⟨rfl, by first | omega | rw [Int.mul_comm]⟩)
    · refine k_aload_n C dX2_holding_14 rfl rfl ?_
      refine k_getR C (j := 2) okC2 rfl (by decide) (by decide) rfl flX2_15 dX2_holding_15 ?_
      refine k_iload_n C dX2_holding_18 rfl rfl ?_
      refine k_bipush C dX2_holding_19 (by decide) ?_
      refine k_imul C dX2_holding_21 ?_
      refine k_iload_n C dX2_holding_22 rfl rfl ?_
      refine k_iadd C dX2_holding_23 ?_
      refine k_iaload C rfl (by decide) (by decide) ⟨by omega, by omega⟩ dX2_holding_24 (fun _ => ?_)
      refine k_goto C (tgt := 29) dX2_holding_25 rfl ?_
      exact k_iret C dX2_holding_29 (by omega) (fun _ => ⟨rfl, by first | omega | rw [Int.mul_comm]⟩)
set_option maxRecDepth 100000 in
theorem l_findLast {K : Kt} (M : Mem) (hB : BkC M) (row : Int) (hr : 0 ≤ row ∧ row < M 3 6) (C : Ctx shC nC RX2 cX2_findLastPlaces 5 none (lvl 2) (fun _ M' => (∀ k, k ≠ 54 → M' k = M k) ∧ lastP (M 4) row (M 5 row) (M' 54)) K) (N : Mem) (hN : ∀ k, k ≠ 54 → N k = M k) (i : Int) (hi : 0 ≤ i ∧ i ≤ M 5 row) (hl : lastP (M 4) row i (N 54)) : K 19 [(0, .inr 51), (1, .inl row), (2, .inl (M 5 row)), (3, .inl i)] [] N := by
  have hb1 := hB.1; have hb2 := hB.2.1; have hbr := hB.2.2 row hr.1 hr.2
  have e4 := hN 4 (by decide)
  have hca := hbr.2.2.2.2.2 i hi.1
  refine k_iload_n C dX2_findLastPlaces_19 rfl rfl ?_
  refine k_iload_n C dX2_findLastPlaces_20 rfl rfl ?_
  refine k_icmp_ge C (tgt := 57) dX2_findLastPlaces_21 rfl (by omega) (by omega) (fun c21 => ?_) (fun c21 => ?_)
  · exact k_vret C dX2_findLastPlaces_57 (fun _ => ⟨hN, by rw [show M 5 row = i by omega]; exact hl⟩)
  · refine k_aload_n C dX2_findLastPlaces_24 rfl rfl ?_
    refine k_getR C (j := 0) okC2 rfl (by decide) (by decide) rfl flX2_21 dX2_findLastPlaces_25 ?_
    refine k_iload_n C dX2_findLastPlaces_28 rfl rfl ?_
    refine k_iload_n C dX2_findLastPlaces_29 rfl rfl ?_
    refine k_callV C okX2_55 dX2_findLastPlaces_30 (c_Book_callAt N row i (by omega) (by omega)) rfl rfl (by decide) rfl (by decide) rfl (Nat.le_of_ble_eq_true rfl) (fun r30 M30 hr30 hp30 => ?_)
    obtain ⟨rfl, rfl⟩ := hp30
    rw [e4]
    have hca := hca c21
    refine k_istore C dX2_findLastPlaces_33 (by decide) ?_
    refine k_iload C dX2_findLastPlaces_35 rfl ?_
    refine k_callN C okX2_25 dX2_findLastPlaces_37 (c_isCall N _ (by omega)) rfl (by decide) rfl (Nat.le_of_ble_eq_true rfl) (fun r37 M37 hr37 hp37 => ?_)
    obtain ⟨rfl, hp37⟩ := hp37
    refine k_if_eq C (tgt := 51) dX2_findLastPlaces_40 rfl (by omega) (fun c40 => ?_) (fun c40 => ?_)
    · refine k_iinc C dX2_findLastPlaces_51 (by decide) rfl ?_
      refine k_goto C (tgt := 19) dX2_findLastPlaces_54 rfl ?_
      refine k_cut2 C (lv' := [(0, _), (1, _), (2, _), (3, _)]) ⟨rfl, rfl, rfl, rfl, trivial⟩ ?_
      first
      | (exfalso; omega)
      | (refine l_findLast M hB row hr C _ (fun k h => ?_) (i + 1) (by omega) (lastP_s hl hi.1 hca (fun x => up_at)); rw [up_ne h, hN k h])
    · refine k_aload_n C dX2_findLastPlaces_43 rfl rfl ?_
      refine k_getR C (j := 3) okC2 rfl (by decide) (by decide) rfl flX2_18 dX2_findLastPlaces_44 ?_
      refine k_iload C dX2_findLastPlaces_47 rfl ?_
      refine k_iload_n C dX2_findLastPlaces_49 rfl rfl ?_
      refine k_iastore C rfl (by decide) (by decide) ⟨by omega, by omega⟩ (by omega) dX2_findLastPlaces_50 ?_
      refine k_iinc C dX2_findLastPlaces_51 (by decide) rfl ?_
      refine k_goto C (tgt := 19) dX2_findLastPlaces_54 rfl ?_
      refine k_cut2 C (lv' := [(0, _), (1, _), (2, _), (3, _)]) ⟨rfl, rfl, rfl, rfl, trivial⟩ ?_
      first
      | (exfalso; omega)
      | (refine l_findLast M hB row hr C _ (fun k h => ?_) (i + 1) (by omega) (lastP_s hl hi.1 hca (fun x => up_at)); rw [up_ne h, hN k h])
termination_by (M 5 row - i).toNat
decreasing_by all_goals omega
set_option maxRecDepth 100000 in
theorem c_Habits_findLast (M : Mem) (hB : BkC M) (row : Int) (hr : 0 ≤ row ∧ row < M 3 6) : Ct shC nC yX2_findLastPlaces cX2_findLastPlaces 5 none (lvl 2) [.inr 51, .inl row] M (fun _ M' => (∀ k, k ≠ 54 → M' k = M k) ∧ lastP (M 4) row (M 5 row) (M' 54)) := by
  refine Ct_of (by decide +kernel) (Nat.le_of_ble_eq_true rfl) (fun K C => ?_)
  have hb1 := hB.1; have hb2 := hB.2.1; have hbr := hB.2.2 row hr.1 hr.2
  refine k_aload_n C dX2_findLastPlaces_0 rfl rfl ?_
  refine k_getR C (j := 3) okC2 rfl (by decide) (by decide) rfl flX2_18 dX2_findLastPlaces_1 ?_
  refine k_iconst C dX2_findLastPlaces_4 ?_
  refine k_callS C okX2_29 dX2_findLastPlaces_5 (c_fill 54 8 rfl (by decide) (by decide) _ (-1) (by decide)) rfl (by decide) rfl (Nat.le_of_ble_eq_true rfl) (fun r5 M5 hr5 hp5 => ?_)
  subst hp5
  refine k_aload_n C dX2_findLastPlaces_8 rfl rfl ?_
  refine k_getR C (j := 0) okC2 rfl (by decide) (by decide) rfl flX2_21 dX2_findLastPlaces_9 ?_
  refine k_iload_n C dX2_findLastPlaces_12 rfl rfl ?_
  refine k_callV C okX2_51 dX2_findLastPlaces_13 (c_Book_sizeOf _ row (by rw [fillM_ne (by decide)]; omega)) rfl rfl (by decide) rfl (by decide) rfl (Nat.le_of_ble_eq_true rfl) (fun r13 M13 hr13 hp13 => ?_)
  obtain ⟨rfl, rfl⟩ := hp13
  rw [fillM_ne (show (5 : Nat) ≠ 54 by decide)]
  refine k_istore_n C dX2_findLastPlaces_16 rfl (by decide) ?_
  refine k_iconst C dX2_findLastPlaces_17 ?_
  refine k_istore_n C dX2_findLastPlaces_18 rfl (by decide) ?_
  refine k_cut2 C (lv' := [(0, _), (1, _), (2, _), (3, _)]) ⟨rfl, rfl, rfl, rfl, trivial⟩ ?_
  exact l_findLast M hB row hr C _ (fun k h => fillM_ne h) 0 (by omega) (fun x h0 h1 => Or.inl ⟨fillM_in ⟨h0, h1⟩, fun i a b => by omega⟩)
