/-! HABITS: a row counted in, all rows surveyed, ranks -/
noncomputable def A52 (M : Mem) (x : Int) : Int := M 52 x + iteP (¬ M 54 x = -1) 1 0
noncomputable def A53 (M : Mem) (x y : Int) : Int := M 53 (8 * x + y) + iteP (¬ M 54 x = -1 ∧ M 54 x < M 54 y) 1 0
def I52 (M N : Mem) (x : Int) : Prop := ∀ x', 0 ≤ x' → x' < 8 → N 52 x' = if x' < x then A52 M x' else M 52 x'
def I53 (M N : Mem) (x y : Int) : Prop := ∀ x' y', 0 ≤ x' → x' < 8 → 0 ≤ y' → y' < 8 → N 53 (8 * x' + y') = if x' < x ∨ (x' = x ∧ y' < y) then A53 M x' y' else M 53 (8 * x' + y')
theorem I53_s {M N : Mem} {x y b : Int} (hx : 0 ≤ x ∧ x < 8) (hy : 0 ≤ y ∧ y < 8) (h : I53 M N x y) (hb : b = iteP (¬ M 54 x = -1 ∧ M 54 x < M 54 y) 1 0) : I53 M (up N 53 (x * 8 + y) (N 53 (x * 8 + y) + b)) x (y + 1) := by
  intro x' y' a1 a2 a3 a4
  rw [up_at]
  by_cases hq : x' = x ∧ y' = y
  · obtain ⟨rfl, rfl⟩ := hq
    rw [if_pos (by omega), if_pos (by omega), show x' * 8 + y' = 8 * x' + y' by omega, h x' y' a1 a2 a3 a4, if_neg (by omega), hb]
    rfl
  · rw [if_neg (by omega), h x' y' a1 a2 a3 a4]
    by_cases hc : x' < x ∨ (x' = x ∧ y' < y)
    · rw [if_pos hc, if_pos (by omega)]
    · rw [if_neg hc, if_neg (by omega)]
theorem I53_n {M N : Mem} {x : Int} (h : I53 M N x 8) : I53 M N (x + 1) 0 := by
  intro x' y' a1 a2 a3 a4
  rw [h x' y' a1 a2 a3 a4]
  by_cases hc : x' < x ∨ (x' = x ∧ y' < 8)
  · rw [if_pos hc, if_pos (by omega)]
  · rw [if_neg hc, if_neg (by omega)]
theorem I53_k {M N : Mem} {x : Int} (h : I53 M N x 0) (hl : M 54 x = -1) : I53 M N (x + 1) 0 := by
  intro x' y' a1 a2 a3 a4
  rw [h x' y' a1 a2 a3 a4]
  by_cases hc : x' < x
  · rw [if_pos (Or.inl hc), if_pos (by omega)]
  · by_cases he : x' = x
    · subst he
      rw [if_neg (by omega), if_pos (by omega)]
      unfold A53
      rw [iteP_neg (fun q => q.1 hl)]; omega
    · rw [if_neg (by omega), if_neg (by omega)]
theorem I52_s {M N : Mem} {x : Int} (hx : 0 ≤ x ∧ x < 8) (h : I52 M N x) (hl : ¬ M 54 x = -1) : I52 M (up N 52 x (N 52 x + 1)) (x + 1) := by
  intro x' a1 a2
  rw [up_at]
  by_cases hq : x' = x
  · subst hq
    rw [if_pos rfl, if_pos (by omega), h x' a1 a2, if_neg (by omega)]
    unfold A52; rw [iteP_pos hl]
  · rw [if_neg hq, h x' a1 a2]
    by_cases hc : x' < x
    · rw [if_pos hc, if_pos (by omega)]
    · rw [if_neg hc, if_neg (by omega)]
theorem I52_k {M N : Mem} {x : Int} (h : I52 M N x) (hl : M 54 x = -1) : I52 M N (x + 1) := by
  intro x' a1 a2
  rw [h x' a1 a2]
  by_cases hc : x' < x
  · rw [if_pos hc, if_pos (by omega)]
  · by_cases he : x' = x
    · subst he
      rw [if_neg hc, if_pos (by omega)]
      unfold A52; rw [iteP_neg (fun q => q hl)]; omega
    · rw [if_neg hc, if_neg (by omega)]
/-- the counts stay small -/
def smH (M : Mem) : Prop := (∀ x, 0 ≤ x → x < 8 → 0 ≤ M 52 x ∧ M 52 x ≤ 1000) ∧ ∀ i, 0 ≤ i → i < 64 → 0 ≤ M 53 i ∧ M 53 i ≤ 1000
theorem I53_rg {M N : Mem} (hs : smH M) {x y : Int} (h : I53 M N x y) {x' y' : Int} (hx : 0 ≤ x' ∧ x' < 8) (hy : 0 ≤ y' ∧ y' < 8) : 0 ≤ N 53 (8 * x' + y') ∧ N 53 (8 * x' + y') ≤ 1001 := by
  have h1 := hs.2 (8 * x' + y') (by omega) (by omega)
  rw [h x' y' hx.1 hx.2 hy.1 hy.2]
  split
  · unfold A53
    by_cases q : ¬ M 54 x' = -1 ∧ M 54 x' < M 54 y'
    · rw [iteP_pos q]; omega
    · rw [iteP_neg q]; omega
  · omega
theorem I52_rg {M N : Mem} (hs : smH M) {x : Int} (h : I52 M N x) {x' : Int} (hx : 0 ≤ x' ∧ x' < 8) : 0 ≤ N 52 x' ∧ N 52 x' ≤ 1001 := by
  have h1 := hs.1 x' hx.1 hx.2
  rw [h x' hx.1 hx.2]
  split
  · unfold A52
    by_cases q : ¬ M 54 x' = -1
    · rw [iteP_pos q]; omega
    · rw [iteP_neg q]; omega
  · omega
set_option maxRecDepth 100000 in
theorem l_addRow2 {K : Kt} (M : Mem) (hs : smH M) (C : Ctx shC nC RX2 cX2_addRow 3 none (lvl 0) (fun _ M' => (∀ k, k ≠ 52 → k ≠ 53 → M' k = M k) ∧ I52 M M' 8 ∧ I53 M M' 8 0) K) (x : Int) (hx : 0 ≤ x ∧ x < 8) (hlx : ¬ M 54 x = -1) (kk : ∀ N : Mem, (∀ k, k ≠ 52 → k ≠ 53 → N k = M k) → I52 M N (x + 1) → I53 M N (x + 1) 0 → K 79 [(0, .inr 51), (1, .inl x)] [] N) (N : Mem) (hN : (∀ k, k ≠ 52 → k ≠ 53 → N k = M k)) (h2 : I52 M N (x + 1)) (y : Int) (hy : 0 ≤ y ∧ y ≤ 8) (h3 : I53 M N x y) : K 33 [(0, .inr 51), (1, .inl x), (2, .inl y)] [] N := by
  have e54 := hN 54 (by decide) (by decide)
  refine k_iload_n C dX2_addRow_33 rfl rfl ?_
  refine k_bipush C dX2_addRow_34 (by decide) ?_
  refine k_icmp_ge C (tgt := 79) dX2_addRow_36 rfl (by omega) (by omega) (fun c36 => ?_) (fun c36 => ?_)
  · refine k_cut2 C (lv' := [(0, _), (1, _)]) ⟨rfl, rfl, trivial⟩ ?_
    exact kk _ hN h2 (I53_n (by rw [show (8 : Int) = y by omega]; exact h3))
  · have h3r := I53_rg hs h3 hx (y' := y) (by omega)
    rw [show 8 * x + y = x * 8 + y by omega] at h3r
    refine k_aload_n C dX2_addRow_39 rfl rfl ?_
    refine k_getR C (j := 2) okC2 rfl (by decide) (by decide) rfl flX2_15 dX2_addRow_40 ?_
    refine k_iload_n C dX2_addRow_43 rfl rfl ?_
    refine k_bipush C dX2_addRow_44 (by decide) ?_
    refine k_imul C dX2_addRow_46 ?_
    refine k_iload_n C dX2_addRow_47 rfl rfl ?_
    refine k_iadd C dX2_addRow_48 ?_
    refine k_dup2 C dX2_addRow_49 ?_
    refine k_iaload C rfl (by decide) (by decide) ⟨by omega, by omega⟩ dX2_addRow_50 (fun _ => ?_)
    refine k_aload_n C dX2_addRow_51 rfl rfl ?_
    refine k_getR C (j := 3) okC2 rfl (by decide) (by decide) rfl flX2_18 dX2_addRow_52 ?_
    refine k_iload_n C dX2_addRow_55 rfl rfl ?_
    refine k_iaload C rfl (by decide) (by decide) ⟨by omega, by omega⟩ dX2_addRow_56 (fun _ => ?_)
    refine k_aload_n C dX2_addRow_57 rfl rfl ?_
    refine k_getR C (j := 3) okC2 rfl (by decide) (by decide) rfl flX2_18 dX2_addRow_58 ?_
    refine k_iload_n C dX2_addRow_61 rfl rfl ?_
    refine k_iaload C rfl (by decide) (by decide) ⟨by omega, by omega⟩ dX2_addRow_62 (fun _ => ?_)
    refine k_icmp_le C (tgt := 70) dX2_addRow_63 rfl (by omega) (by omega) (fun c63 => ?_) (fun c63 => ?_)
    · refine k_iconst C dX2_addRow_70 ?_
      refine k_iadd C dX2_addRow_71 ?_
      refine k_iastore C rfl (by decide) (by decide) ⟨by omega, by omega⟩ (by omega) dX2_addRow_72 ?_
      refine k_iinc C dX2_addRow_73 (by decide) rfl ?_
      refine k_goto C (tgt := 33) dX2_addRow_76 rfl ?_
      refine k_cut2 C (lv' := [(0, _), (1, _), (2, _)]) ⟨rfl, rfl, rfl, trivial⟩ ?_
      refine l_addRow2 M hs C x hx hlx kk _ (fun k h h' => ?_) (fun a b c => ?_) (y + 1) (by omega) (I53_s hx (by omega) h3 ?_)
      · rw [up_ne h', hN k h h']
      · rw [up_ne (by decide)]; exact h2 a b c
      · rw [e54] at c63
        first | (rw [iteP_pos ⟨hlx, c63⟩]; done) | (rw [iteP_neg (fun q => by have := q.2; omega)]; done)
    · refine k_iconst C dX2_addRow_66 ?_
      refine k_goto C (tgt := 71) dX2_addRow_67 rfl ?_
      refine k_iadd C dX2_addRow_71 ?_
      refine k_iastore C rfl (by decide) (by decide) ⟨by omega, by omega⟩ (by omega) dX2_addRow_72 ?_
      refine k_iinc C dX2_addRow_73 (by decide) rfl ?_
      refine k_goto C (tgt := 33) dX2_addRow_76 rfl ?_
      refine k_cut2 C (lv' := [(0, _), (1, _), (2, _)]) ⟨rfl, rfl, rfl, trivial⟩ ?_
      refine l_addRow2 M hs C x hx hlx kk _ (fun k h h' => ?_) (fun a b c => ?_) (y + 1) (by omega) (I53_s hx (by omega) h3 ?_)
      · rw [up_ne h', hN k h h']
      · rw [up_ne (by decide)]; exact h2 a b c
      · rw [e54] at c63
        first | (rw [iteP_pos ⟨hlx, c63⟩]; done) | (rw [iteP_neg (fun q => by have := q.2; omega)]; done)
termination_by (8 - y).toNat
decreasing_by all_goals omega
set_option maxRecDepth 100000 in
theorem l_addRow1 {K : Kt} (M : Mem) (hs : smH M) (C : Ctx shC nC RX2 cX2_addRow 3 none (lvl 0) (fun _ M' => (∀ k, k ≠ 52 → k ≠ 53 → M' k = M k) ∧ I52 M M' 8 ∧ I53 M M' 8 0) K) (N : Mem) (hN : (∀ k, k ≠ 52 → k ≠ 53 → N k = M k)) (x : Int) (hx : 0 ≤ x ∧ x ≤ 8) (h2 : I52 M N x) (h3 : I53 M N x 0) : K 2 [(0, .inr 51), (1, .inl x)] [] N := by
  have e54 := hN 54 (by decide) (by decide)
  refine k_iload_n C dX2_addRow_2 rfl rfl ?_
  refine k_bipush C dX2_addRow_3 (by decide) ?_
  refine k_icmp_ge C (tgt := 85) dX2_addRow_5 rfl (by omega) (by omega) (fun c5 => ?_) (fun c5 => ?_)
  · exact k_vret C dX2_addRow_85 (fun _ => ⟨hN, by rw [show (8 : Int) = x by omega]; exact h2, by rw [show (8 : Int) = x by omega]; exact h3⟩)
  · have h2r := I52_rg hs h2 (x' := x) (by omega)
    refine k_aload_n C dX2_addRow_8 rfl rfl ?_
    refine k_getR C (j := 3) okC2 rfl (by decide) (by decide) rfl flX2_18 dX2_addRow_9 ?_
    refine k_iload_n C dX2_addRow_12 rfl rfl ?_
    refine k_iaload C rfl (by decide) (by decide) ⟨by omega, by omega⟩ dX2_addRow_13 (fun _ => ?_)
    refine k_iconst C dX2_addRow_14 ?_
    refine k_icmp_ne C (tgt := 21) dX2_addRow_15 rfl (by omega) (by omega) (fun c15 => ?_) (fun c15 => ?_)
    · refine k_aload_n C dX2_addRow_21 rfl rfl ?_
      refine k_getR C (j := 1) okC2 rfl (by decide) (by decide) rfl flX2_9 dX2_addRow_22 ?_
      refine k_iload_n C dX2_addRow_25 rfl rfl ?_
      refine k_dup2 C dX2_addRow_26 ?_
      refine k_iaload C rfl (by decide) (by decide) ⟨by omega, by omega⟩ dX2_addRow_27 (fun _ => ?_)
      refine k_iconst C dX2_addRow_28 ?_
      refine k_iadd C dX2_addRow_29 ?_
      refine k_iastore C rfl (by decide) (by decide) ⟨by omega, by omega⟩ (by omega) dX2_addRow_30 ?_
      refine k_iconst C dX2_addRow_31 ?_
      refine k_istore_n C dX2_addRow_32 rfl (by decide) ?_
      refine k_cut2 C (lv' := [(0, _), (1, _), (2, _)]) ⟨rfl, rfl, rfl, trivial⟩ ?_
      rw [e54] at c15
      refine l_addRow2 M hs C x (by omega) c15 (fun N2 a b c => ?_) _ (fun k h h' => ?_) (I52_s (by omega) h2 c15) 0 (by omega) (fun a b a1 a2 a3 a4 => ?_)
      · refine k_iinc C dX2_addRow_79 (by decide) rfl ?_
        refine k_goto C (tgt := 2) dX2_addRow_82 rfl ?_
        refine k_cut2 C (lv' := [(0, _), (1, _)]) ⟨rfl, rfl, trivial⟩ ?_
        exact l_addRow1 M hs C N2 a (x + 1) (by omega) b c
      · rw [up_ne h, hN k h h']
      · rw [up_ne (by decide)]; exact h3 a b a1 a2 a3 a4
    · refine k_goto C (tgt := 79) dX2_addRow_18 rfl ?_
      refine k_iinc C dX2_addRow_79 (by decide) rfl ?_
      refine k_goto C (tgt := 2) dX2_addRow_82 rfl ?_
      refine k_cut2 C (lv' := [(0, _), (1, _)]) ⟨rfl, rfl, trivial⟩ ?_
      rw [e54] at c15
      exact l_addRow1 M hs C N hN (x + 1) (by omega) (I52_k h2 (by omega)) (I53_k h3 (by omega))
termination_by (8 - x).toNat
decreasing_by all_goals omega
set_option maxRecDepth 100000 in
theorem c_Habits_addRow (M : Mem) (hs : smH M) : Ct shC nC yX2_addRow cX2_addRow 3 none (lvl 0) [.inr 51] M (fun _ M' => (∀ k, k ≠ 52 → k ≠ 53 → M' k = M k) ∧ I52 M M' 8 ∧ I53 M M' 8 0) := by
  refine Ct_of (by decide +kernel) (Nat.le_of_ble_eq_true rfl) (fun K C => ?_)
  refine k_iconst C dX2_addRow_0 ?_
  refine k_istore_n C dX2_addRow_1 rfl (by decide) ?_
  refine k_cut2 C (lv' := [(0, _), (1, _)]) ⟨rfl, rfl, trivial⟩ ?_
  exact l_addRow1 M hs C M (fun _ _ _ => rfl) 0 (by omega) (fun a b c => by rw [if_neg (by omega)]) (fun a b a1 a2 a3 a4 => by rw [if_neg (by omega)])
def SvR (M N : Mem) (row : Int) : Prop := (∀ x, 0 ≤ x → x < 8 → N 52 x = cnI (hvP (M 5) (M 6) (M 7) (M 4) x) row) ∧ ∀ x y, 0 ≤ x → x < 8 → 0 ≤ y → y < 8 → N 53 (8 * x + y) = cnI (hoP (M 5) (M 6) (M 7) (M 4) x y) row
theorem SvR_sm {M N : Mem} {row : Int} (h : SvR M N row) (hr : 0 ≤ row ∧ row ≤ 60) : smH N := by
  refine ⟨fun x a b => ?_, fun i a b => ?_⟩
  · rw [h.1 x a b]; have := cnI_rg (hvP (M 5) (M 6) (M 7) (M 4) x) hr.1; omega
  · have := h.2 (i / 8) (i % 8) (by omega) (by omega) (by omega) (by omega)
    rw [show 8 * (i / 8) + i % 8 = i by omega] at this
    rw [this]; have := cnI_rg (hoP (M 5) (M 6) (M 7) (M 4) (i / 8) (i % 8)) hr.1; omega
set_option maxRecDepth 100000 in
theorem l_survey {K : Kt} (M : Mem) (hB : BkC M) (C : Ctx shC nC RX2 cX2_survey 2 none (lvl 3) (fun _ M' => (∀ k, k ≠ 52 → k ≠ 53 → k ≠ 54 → M' k = M k) ∧ SvR M M' (M 3 6)) K) (N : Mem) (hN : (∀ k, k ≠ 52 → k ≠ 53 → k ≠ 54 → N k = M k)) (row : Int) (hr : 0 ≤ row ∧ row ≤ M 3 6) (hv : SvR M N row) : K 18 [(0, .inr 51), (1, .inl row)] [] N := by
  have hb1 := hB.1; have hb2 := hB.2.1; have hbr := hB.2.2 row hr.1
  have n3 := hN 3 (by decide) (by decide) (by decide); have n4 := hN 4 (by decide) (by decide) (by decide); have n5 := hN 5 (by decide) (by decide) (by decide); have n6 := hN 6 (by decide) (by decide) (by decide); have n7 := hN 7 (by decide) (by decide) (by decide)
  have hBN : BkC N := by unfold BkC; rw [n3, n4, n5, n6, n7]; exact hB
  refine k_iload_n C dX2_survey_18 rfl rfl ?_
  refine k_aload_n C dX2_survey_19 rfl rfl ?_
  refine k_getR C (j := 0) okC2 rfl (by decide) (by decide) rfl flX2_21 dX2_survey_20 ?_
  refine k_getJ C 6 6 rfl okC0 rfl (by decide) (by decide) rfl flX2_35 dX2_survey_23 (fun _ => ?_)
  rw [n3]
  refine k_icmp_ge C (tgt := 55) dX2_survey_26 rfl (by omega) (by omega) (fun c26 => ?_) (fun c26 => ?_)
  · exact k_vret C dX2_survey_55 (fun _ => ⟨hN, by rw [show M 3 6 = row by omega]; exact hv⟩)
  · refine k_aload_n C dX2_survey_29 rfl rfl ?_
    refine k_getR C (j := 0) okC2 rfl (by decide) (by decide) rfl flX2_21 dX2_survey_30 ?_
    refine k_iload_n C dX2_survey_33 rfl rfl ?_
    refine k_callV C okX2_41 dX2_survey_34 (c_Book_isRightThere N row (by omega)) rfl rfl (by decide) rfl (by decide) rfl (Nat.le_of_ble_eq_true rfl) (fun r34 M34 hr34 hp34 => ?_)
    obtain ⟨rfl, hp34⟩ := hp34
    rw [n3, n6, n7] at hp34
    have hbr := hbr c26
    refine k_if_eq C (tgt := 49) dX2_survey_37 rfl (by omega) (fun c37 => ?_) (fun c37 => ?_)
    · refine k_iinc C dX2_survey_49 (by decide) rfl ?_
      refine k_goto C (tgt := 18) dX2_survey_52 rfl ?_
      refine k_cut2 C (lv' := [(0, _), (1, _)]) ⟨rfl, rfl, trivial⟩ ?_
      first
      | (refine l_survey M hB C N hN (row + 1) (by omega) ⟨fun x a b => ?_, fun x y a b a' b' => ?_⟩
         · rw [cnI_s _ hr.1, iteP_neg (fun q => by have q1 := q.1; have q2 := q.2.1; omega), hv.1 x a b]; omega
         · rw [cnI_s _ hr.1, iteP_neg (fun q => by have q1 := q.1; have q2 := q.2.1; omega), hv.2 x y a b a' b']; omega)
      | (have lp := hp42.2
         rw [n4, n5] at lp
         refine l_survey M hB C M46 (fun k h h' h'' => ?_) (row + 1) (by omega) ⟨fun x a b => ?_, fun x y a b a' b' => ?_⟩
         · rw [hp46.1 k h h', hp42.1 k h'', hN k h h' h'']
         · rw [hp46.2.1 x a b, if_pos b, cnI_s _ hr.1, ← hv.1 x a b]
           unfold A52; rw [hp42.1 52 (by decide)]
           by_cases q : ¬ M42 54 x = -1
           · rw [iteP_pos q, iteP_pos ⟨by omega, by omega, (lastP_has lp ⟨a, b⟩).mpr q⟩]
           · rw [iteP_neg q, iteP_neg (fun z => q ((lastP_has lp ⟨a, b⟩).mp z.2.2))]
         · rw [hp46.2.2 x y a b a' b', if_pos (Or.inl b), cnI_s _ hr.1, ← hv.2 x y a b a' b']
           unfold A53; rw [hp42.1 53 (by decide)]
           by_cases q : ¬ M42 54 x = -1 ∧ M42 54 x < M42 54 y
           · rw [iteP_pos q, iteP_pos ⟨by omega, by omega, (lastP_hld lp ⟨a, b⟩ ⟨a', b'⟩).mpr q⟩]
           · rw [iteP_neg q, iteP_neg (fun z => q ((lastP_hld lp ⟨a, b⟩ ⟨a', b'⟩).mp z.2.2))])
    · refine k_aload_n C dX2_survey_40 rfl rfl ?_
      refine k_iload_n C dX2_survey_41 rfl rfl ?_
      refine k_callV C okX2_44 dX2_survey_42 (c_Habits_findLast N hBN row (by rw [n3]; omega)) rfl rfl (by decide) rfl (by decide) rfl (Nat.le_of_ble_eq_true rfl) (fun r42 M42 hr42 hp42 => ?_)
      refine k_aload_n C dX2_survey_45 rfl rfl ?_
      refine k_callV C okX2_48 dX2_survey_46 (c_Habits_addRow M42 (by have e2 := hp42.1 52 (by decide); have e3 := hp42.1 53 (by decide); unfold smH; rw [e2, e3]; exact SvR_sm hv (by omega))) rfl rfl (by decide) rfl (by decide) rfl (Nat.le_of_ble_eq_true rfl) (fun r46 M46 hr46 hp46 => ?_)
      refine k_iinc C dX2_survey_49 (by decide) rfl ?_
      refine k_goto C (tgt := 18) dX2_survey_52 rfl ?_
      refine k_cut2 C (lv' := [(0, _), (1, _)]) ⟨rfl, rfl, trivial⟩ ?_
      first
      | (refine l_survey M hB C N hN (row + 1) (by omega) ⟨fun x a b => ?_, fun x y a b a' b' => ?_⟩
         · rw [cnI_s _ hr.1, iteP_neg (fun q => by have q1 := q.1; have q2 := q.2.1; omega), hv.1 x a b]; omega
         · rw [cnI_s _ hr.1, iteP_neg (fun q => by have q1 := q.1; have q2 := q.2.1; omega), hv.2 x y a b a' b']; omega)
      | (have lp := hp42.2
         rw [n4, n5] at lp
         refine l_survey M hB C M46 (fun k h h' h'' => ?_) (row + 1) (by omega) ⟨fun x a b => ?_, fun x y a b a' b' => ?_⟩
         · rw [hp46.1 k h h', hp42.1 k h'', hN k h h' h'']
         · rw [hp46.2.1 x a b, if_pos b, cnI_s _ hr.1, ← hv.1 x a b]
           unfold A52; rw [hp42.1 52 (by decide)]
           by_cases q : ¬ M42 54 x = -1
           · rw [iteP_pos q, iteP_pos ⟨by omega, by omega, (lastP_has lp ⟨a, b⟩).mpr q⟩]
           · rw [iteP_neg q, iteP_neg (fun z => q ((lastP_has lp ⟨a, b⟩).mp z.2.2))]
         · rw [hp46.2.2 x y a b a' b', if_pos (Or.inl b), cnI_s _ hr.1, ← hv.2 x y a b a' b']
           unfold A53; rw [hp42.1 53 (by decide)]
           by_cases q : ¬ M42 54 x = -1 ∧ M42 54 x < M42 54 y
           · rw [iteP_pos q, iteP_pos ⟨by omega, by omega, (lastP_hld lp ⟨a, b⟩ ⟨a', b'⟩).mpr q⟩]
           · rw [iteP_neg q, iteP_neg (fun z => q ((lastP_hld lp ⟨a, b⟩ ⟨a', b'⟩).mp z.2.2))])
termination_by (M 3 6 - row).toNat
decreasing_by all_goals omega
set_option maxRecDepth 100000 in
theorem c_Habits_survey (M : Mem) (hB : BkC M) : Ct shC nC yX2_survey cX2_survey 2 none (lvl 3) [.inr 51] M (fun _ M' => (∀ k, k ≠ 52 → k ≠ 53 → k ≠ 54 → M' k = M k) ∧ SvR M M' (M 3 6)) := by
  refine Ct_of (by decide +kernel) (Nat.le_of_ble_eq_true rfl) (fun K C => ?_)
  have hb1 := hB.1
  refine k_aload_n C dX2_survey_0 rfl rfl ?_
  refine k_getR C (j := 1) okC2 rfl (by decide) (by decide) rfl flX2_9 dX2_survey_1 ?_
  refine k_iconst C dX2_survey_4 ?_
  refine k_callS C okX2_29 dX2_survey_5 (c_fill 52 8 rfl (by decide) (by decide) _ 0 (by decide)) rfl (by decide) rfl (Nat.le_of_ble_eq_true rfl) (fun r5 M5 hr5 hp5 => ?_)
  subst hp5
  refine k_aload_n C dX2_survey_8 rfl rfl ?_
  refine k_getR C (j := 2) okC2 rfl (by decide) (by decide) rfl flX2_15 dX2_survey_9 ?_
  refine k_iconst C dX2_survey_12 ?_
  refine k_callS C okX2_29 dX2_survey_13 (c_fill 53 64 rfl (by decide) (by decide) _ 0 (by decide)) rfl (by decide) rfl (Nat.le_of_ble_eq_true rfl) (fun r13 M13 hr13 hp13 => ?_)
  subst hp13
  refine k_iconst C dX2_survey_16 ?_
  refine k_istore_n C dX2_survey_17 rfl (by decide) ?_
  refine k_cut2 C (lv' := [(0, _), (1, _)]) ⟨rfl, rfl, trivial⟩ ?_
  exact l_survey M hB C _ (fun k h h' _ => by rw [fillM_ne h', fillM_ne h]) 0 (by omega) ⟨fun x a b => by rw [fillM_ne (by decide), fillM_in (by omega)]; rfl, fun x y a b a' b' => by rw [fillM_in (by omega)]; rfl⟩
