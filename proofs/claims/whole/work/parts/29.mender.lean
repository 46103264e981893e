/-! UsageDesk$Mender: cell 47 (costs 48, made 49 with cells 50, place (47, 4), state (47, 5)), hand 1, law 23 -/
abbrev LwC (M : Mem) : Prop := okN2 (M 23 2) (M 24)
def HdC (M : Mem) : Prop := 0 ≤ M 1 1 ∧ M 1 1 ≤ 12 ∧ ∀ i, 0 ≤ i → i < M 1 1 → 0 ≤ M 2 i ∧ M 2 i < 8
def crow (M : Mem) (a : Int) : Int → Int := fun s => M 48 (30 * a + s)
theorem crow_up {N : Mem} {a s0 v s : Int} : crow (up N 48 (a * 30 + s0) v) a s = if s = s0 then v else crow N a s := by
  unfold crow; rw [up_at]
  by_cases h : s = s0
  · rw [if_pos h, if_pos (by omega)]
  · rw [if_neg h, if_neg (by omega)]
set_option maxRecDepth 100000 in
theorem c_costFrom (M : Mem) (a s : Int) (ha : 0 ≤ a ∧ a ≤ 12) (hs : 0 ≤ s ∧ s < 30) : Ct shC nC yX7_costFrom cX7_costFrom 3 (some .int) (lvl 0) [.inr 47, .inl a, .inl s] M (fun r M' => M = M' ∧ r = crow M a s) := by
  refine Ct_of (by decide +kernel) (Nat.le_of_ble_eq_true rfl) (fun K C => ?_)
  refine k_iload_n C dX7_costFrom_0 rfl rfl ?_
  refine k_if_lt C (tgt := 20) dX7_costFrom_1 rfl (by omega) (fun c1 => ?_) (fun c1 => ?_)
  · refine k_bipush C dX7_costFrom_20 (by decide) ?_
    exact k_iret C dX7_costFrom_22 (by omega) (fun _ => by omega)
  · refine k_iload_n C dX7_costFrom_4 rfl rfl ?_
    refine k_bipush C dX7_costFrom_5 (by decide) ?_
    refine k_icmp_gt C (tgt := 20) dX7_costFrom_7 rfl (by omega) (by omega) (fun c7 => ?_) (fun c7 => ?_)
    · refine k_bipush C dX7_costFrom_20 (by decide) ?_
      exact k_iret C dX7_costFrom_22 (by omega) (fun _ => by omega)
    · refine k_iload_n C dX7_costFrom_10 rfl rfl ?_
      refine k_if_lt C (tgt := 20) dX7_costFrom_11 rfl (by omega) (fun c11 => ?_) (fun c11 => ?_)
      · refine k_bipush C dX7_costFrom_20 (by decide) ?_
        exact k_iret C dX7_costFrom_22 (by omega) (fun _ => by omega)
      · refine k_iload_n C dX7_costFrom_14 rfl rfl ?_
        refine k_bipush C dX7_costFrom_15 (by decide) ?_
        refine k_icmp_lt C (tgt := 23) dX7_costFrom_17 rfl (by omega) (by omega) (fun c17 => ?_) (fun c17 => ?_)
        · refine k_aload_n C dX7_costFrom_23 rfl rfl ?_
          refine k_getR C (j := 2) okC7 rfl (by decide) (by decide) rfl flX7_9 dX7_costFrom_24 ?_
          refine k_iload_n C dX7_costFrom_27 rfl rfl ?_
          refine k_bipush C dX7_costFrom_28 (by decide) ?_
          refine k_imul C dX7_costFrom_30 ?_
          refine k_iload_n C dX7_costFrom_31 rfl rfl ?_
          refine k_iadd C dX7_costFrom_32 ?_
          refine k_iaload C rfl (by decide) (by decide) ⟨by omega, by omega⟩ dX7_costFrom_33 (fun _ => ?_)
          exact k_iret C dX7_costFrom_34 (by omega) (fun _ => ⟨rfl, by unfold crow; rw [Int.mul_comm]⟩)
        · refine k_bipush C dX7_costFrom_20 (by decide) ?_
          exact k_iret C dX7_costFrom_22 (by omega) (fun _ => by omega)
set_option maxRecDepth 100000 in
theorem c_costKeeping (M : Mem) (hL : LwC M) (hH : HdC M) (a s : Int) (ha : 0 ≤ a ∧ a < M 1 1) (hs : 0 ≤ s ∧ s < M 23 2) : Ct shC nC yX7_costKeeping cX7_costKeeping 4 (some .int) (lvl 2) [.inr 47, .inl a, .inl s] M (fun r M' => M = M' ∧ ((M 24 (8 * s + M 2 a) = -1 ∧ r = 13) ∨ (0 ≤ M 24 (8 * s + M 2 a) ∧ r = crow M (a + 1) (M 24 (8 * s + M 2 a))))) := by
  refine Ct_of (by decide +kernel) (Nat.le_of_ble_eq_true rfl) (fun K C => ?_)
  have h1 := hL.1; have h2 := hL.2.1; have h3 := hH.1; have h4 := hH.2.1; have h5 := hH.2.2 a ha.1 ha.2
  have h6 := hL.2.2 s (M 2 a) hs.1 hs.2 h5.1 h5.2
  refine k_aload_n C dX7_costKeeping_0 rfl rfl ?_
  refine k_getR C (j := 1) okC7 rfl (by decide) (by decide) rfl flX7_27 dX7_costKeeping_1 ?_
  refine k_iload_n C dX7_costKeeping_4 rfl rfl ?_
  refine k_aload_n C dX7_costKeeping_5 rfl rfl ?_
  refine k_getR C (j := 0) okC7 rfl (by decide) (by decide) rfl flX7_24 dX7_costKeeping_6 ?_
  refine k_iload_n C dX7_costKeeping_9 rfl rfl ?_
  refine k_callV C okX7_45 dX7_costKeeping_10 (c_Line_at 1 2 12 rfl (by decide) rfl (by decide) (by decide) M a (by omega)) rfl rfl (by decide) rfl (by decide) rfl (Nat.le_of_ble_eq_true rfl) (fun r10 M10 hr10 hp10 => ?_)
  obtain ⟨rfl, rfl⟩ := hp10
  rw [if_pos (by omega)]
  refine k_callV C okX7_75 dX7_costKeeping_13 (c_Law_after M s (M 2 a) (by omega) (by omega)) rfl rfl (by decide) rfl (by decide) rfl (Nat.le_of_ble_eq_true rfl) (fun r13 M13 hr13 hp13 => ?_)
  obtain ⟨rfl, hp13⟩ := hp13
  have e13 : r13 = M 24 (8 * s + M 2 a) := by omega
  subst e13
  refine k_istore_n C dX7_costKeeping_16 rfl (by decide) ?_
  refine k_iload_n C dX7_costKeeping_17 rfl rfl ?_
  refine k_iconst C dX7_costKeeping_18 ?_
  refine k_icmp_ne C (tgt := 27) dX7_costKeeping_19 rfl (by omega) (by omega) (fun c19 => ?_) (fun c19 => ?_)
  · refine k_aload_n C dX7_costKeeping_27 rfl rfl ?_
    refine k_iload_n C dX7_costKeeping_28 rfl rfl ?_
    refine k_iconst C dX7_costKeeping_29 ?_
    refine k_iadd C dX7_costKeeping_30 ?_
    refine k_iload_n C dX7_costKeeping_31 rfl rfl ?_
    refine k_callV C okX7_41 dX7_costKeeping_32 (c_costFrom M (a + 1) (M 24 (8 * s + M 2 a)) (by omega) (by omega)) rfl rfl (by decide) rfl (by decide) rfl (Nat.le_of_ble_eq_true rfl) (fun r32 M32 hr32 hp32 => ?_)
    obtain ⟨rfl, rfl⟩ := hp32
    exact k_iret C dX7_costKeeping_35 (by omega) (fun _ => ⟨rfl, by omega⟩)
  · refine k_bipush C dX7_costKeeping_22 (by decide) ?_
    refine k_goto C (tgt := 35) dX7_costKeeping_24 rfl ?_
    exact k_iret C dX7_costKeeping_35 (by omega) (fun _ => ⟨rfl, by omega⟩)
set_option maxRecDepth 100000 in
theorem c_costPutting (M : Mem) (hL : LwC M) (a s c : Int) (ha : 0 ≤ a ∧ a ≤ 12) (hs : 0 ≤ s ∧ s < M 23 2) (hc : 0 ≤ c ∧ c < 8) (hr : rw12 (M 23 2) (crow M a)) : Ct shC nC yX7_costPutting cX7_costPutting 5 (some .int) (lvl 2) [.inr 47, .inl a, .inl s, .inl c] M (fun r M' => M = M' ∧ ((M 24 (8 * s + c) = -1 ∧ r = 13) ∨ (0 ≤ M 24 (8 * s + c) ∧ r = 1 + crow M a (M 24 (8 * s + c))))) := by
  refine Ct_of (by decide +kernel) (Nat.le_of_ble_eq_true rfl) (fun K C => ?_)
  have h1 := hL.1; have h2 := hL.2.1
  have h6 := hL.2.2 s c hs.1 hs.2 hc.1 hc.2
  have h7 := hr (M 24 (8 * s + c))
  refine k_aload_n C dX7_costPutting_0 rfl rfl ?_
  refine k_getR C (j := 1) okC7 rfl (by decide) (by decide) rfl flX7_27 dX7_costPutting_1 ?_
  refine k_iload_n C dX7_costPutting_4 rfl rfl ?_
  refine k_iload_n C dX7_costPutting_5 rfl rfl ?_
  refine k_callV C okX7_75 dX7_costPutting_6 (c_Law_after M s c (by omega) (by omega)) rfl rfl (by decide) rfl (by decide) rfl (Nat.le_of_ble_eq_true rfl) (fun r6 M6 hr6 hp6 => ?_)
  obtain ⟨rfl, hp6⟩ := hp6
  have e6 : r6 = M 24 (8 * s + c) := by omega
  subst e6
  refine k_istore C dX7_costPutting_9 (by decide) ?_
  refine k_iload C dX7_costPutting_11 rfl ?_
  refine k_iconst C dX7_costPutting_13 ?_
  refine k_icmp_ne C (tgt := 22) dX7_costPutting_14 rfl (by omega) (by omega) (fun c14 => ?_) (fun c14 => ?_)
  · refine k_iconst C dX7_costPutting_22 ?_
    refine k_aload_n C dX7_costPutting_23 rfl rfl ?_
    refine k_iload_n C dX7_costPutting_24 rfl rfl ?_
    refine k_iload C dX7_costPutting_25 rfl ?_
    refine k_callV C okX7_41 dX7_costPutting_27 (c_costFrom M a (M 24 (8 * s + c)) (by omega) (by omega)) rfl rfl (by decide) rfl (by decide) rfl (Nat.le_of_ble_eq_true rfl) (fun r27 M27 hr27 hp27 => ?_)
    obtain ⟨rfl, rfl⟩ := hp27
    have h7 := h7 (by omega) (by omega)
    refine k_iadd C dX7_costPutting_30 ?_
    exact k_iret C dX7_costPutting_31 (by omega) (fun _ => ⟨rfl, by omega⟩)
  · refine k_bipush C dX7_costPutting_17 (by decide) ?_
    refine k_goto C (tgt := 31) dX7_costPutting_19 rfl ?_
    exact k_iret C dX7_costPutting_31 (by omega) (fun _ => ⟨rfl, by omega⟩)
/-- within a pass over the row of place a, begun with the memory M -/
def LpI (M N : Mem) (ini : Int → Int) (a k s c b : Int) : Prop := (∀ j, j ≠ 48 → N j = M j) ∧ (∀ i, ¬ (30 * a ≤ i ∧ i < 30 * a + M 23 2) → N 48 i = M 48 i) ∧ PsI (M 23 2) (M 24) (crow M a) (crow N a) k s c ∧ LBd (M 23 2) (M 24) ini (crow N a) ∧ (b = 0 ∨ b = 1) ∧ (b = 0 → ∀ s, 0 ≤ s → s < M 23 2 → crow N a s = crow M a s)
theorem LpI.r12 {M N : Mem} {ini : Int → Int} {a k s c b : Int} (h : LpI M N ini a k s c b) (hr : rw12 (M 23 2) (crow M a)) : rw12 (M 23 2) (crow N a) := fun t h0 h1 => by
  have h2 := h.2.2.1.1 t h0 h1; have h3 := hr t h0 h1; omega
theorem LpI.lw {M N : Mem} {ini : Int → Int} {a k s c b : Int} (h : LpI M N ini a k s c b) (hL : LwC M) : LwC N := by
  unfold LwC; rw [h.1 23 (by decide), h.1 24 (by decide)]; exact hL
set_option maxRecDepth 100000 in
theorem l_lower2 {K : Kt} (M : Mem) (hL : LwC M) (ini : Int → Int) (a k : Int) (ha : 0 ≤ a ∧ a < 12) (hr : rw12 (M 23 2) (crow M a)) (hU : Uk (M 23 2) (M 24) (crow M a) k) (hB : LBd (M 23 2) (M 24) ini (crow M a)) (C : Ctx shC nC RX7 cX7_lowerByPutting 6 (some .boolean) (lvl 3) (fun r M' => (r = 0 ∨ r = 1) ∧ (∀ j, j ≠ 48 → M' j = M j) ∧ (∀ i, ¬ (30 * a ≤ i ∧ i < 30 * a + M 23 2) → M' 48 i = M 48 i) ∧ (∀ s, 0 ≤ s → s < M 23 2 → 0 ≤ crow M' a s ∧ crow M' a s ≤ crow M a s) ∧ Uk (M 23 2) (M 24) (crow M' a) (k + 1) ∧ LBd (M 23 2) (M 24) ini (crow M' a) ∧ (r = 0 → stb (M 23 2) (M 24) (crow M' a))) K) (s : Int) (hs : 0 ≤ s ∧ s < M 23 2) (kk : ∀ (N : Mem) (b : Int), LpI M N ini a k (s + 1) 0 b → K 88 [(0, .inr 47), (1, .inl a), (2, .inl b), (3, .inl s)] [] N) (N : Mem) (b c : Int) (hc : 0 ≤ c ∧ c ≤ 8) (hI : LpI M N ini a k s c b) : K 24 [(0, .inr 47), (1, .inl a), (2, .inl b), (3, .inl s), (4, .inl c)] [] N := by
  have h1 := hL.1; have h2 := hL.2.1
  have e23 := hI.1 23 (by decide); have e24 := hI.1 24 (by decide)
  have hr' := hI.r12 hr
  have h9 := hI.2.2.2.2.1
  have hrs := hr' s hs.1 hs.2
  refine k_iload C dX7_lowerByPutting_24 rfl ?_
  refine k_bipush C dX7_lowerByPutting_26 (by decide) ?_
  refine k_icmp_ge C (tgt := 88) dX7_lowerByPutting_28 rfl (by omega) (by omega) (fun c28 => ?_) (fun c28 => ?_)
  · refine k_cut2 C (lv' := [(0, _), (1, _), (2, _), (3, _)]) ⟨rfl, rfl, rfl, rfl, trivial⟩ ?_
    exact kk N b ⟨hI.1, hI.2.1, PsI_n (by rw [show (8 : Int) = c by omega]; exact hI.2.2.1), hI.2.2.2⟩
  · refine k_aload_n C dX7_lowerByPutting_31 rfl rfl ?_
    refine k_iload_n C dX7_lowerByPutting_32 rfl rfl ?_
    refine k_iload_n C dX7_lowerByPutting_33 rfl rfl ?_
    refine k_iload C dX7_lowerByPutting_34 rfl ?_
    refine k_callV C okX7_78 dX7_lowerByPutting_36 (c_costPutting N (hI.lw hL) a s c (by omega) (by rw [e23]; omega) (by omega) (by rw [e23]; exact hr')) rfl rfl (by decide) rfl (by decide) rfl (Nat.le_of_ble_eq_true rfl) (fun r36 M36 hr36 hp36 => ?_)
    obtain ⟨rfl, hp36⟩ := hp36
    rw [e24] at hp36
    have hto := hL.2.2 s c hs.1 hs.2 (by omega) (by omega)
    have hrt := fun q => hr' (M 24 (8 * s + c)) q hto.2
    have eix : N 48 (a * 30 + s) = crow N a s := by unfold crow; rw [Int.mul_comm a 30]
    refine k_istore C dX7_lowerByPutting_39 (by decide) ?_
    refine k_iload_n C dX7_lowerByPutting_41 rfl rfl ?_
    refine k_if_lt C (tgt := 82) dX7_lowerByPutting_42 rfl (by omega) (fun c42 => ?_) (fun c42 => ?_)
    · refine k_iinc C dX7_lowerByPutting_82 (by decide) rfl ?_
      refine k_goto C (tgt := 24) dX7_lowerByPutting_85 rfl ?_
      refine k_cut2 C (lv' := [(0, _), (1, _), (2, _), (3, _), (4, _)]) ⟨rfl, rfl, rfl, rfl, rfl, trivial⟩ ?_
      first
      | (exfalso; omega)
      | (have hx : 0 ≤ M 24 (8 * s + c) := by omega
         have hv : r36 = 1 + crow N a (M 24 (8 * s + c)) := by omega
         subst hv
         refine l_lower2 M hL ini a k ha hr hU hB C s hs kk _ 1 (c + 1) (by omega) ⟨fun j h => by rw [up_ne h]; exact hI.1 j h, fun i h => by rw [up_at, if_neg (by omega)]; exact hI.2.1 i h, PsI_s hL hI.2.2.1 hU hs (by omega) hx c64 (fun t _ _ => crow_up), LBd_s hI.2.2.2.1 hL hs (by omega) hx (fun t _ _ => crow_up), Or.inr rfl, fun q => by omega⟩)
      | (exact l_lower2 M hL ini a k ha hr hU hB C s hs kk N b (c + 1) (by omega) ⟨hI.1, hI.2.1, PsI_k hI.2.2.1 (fun q => by have := hrt q; omega), hI.2.2.2⟩)
    · refine k_iload_n C dX7_lowerByPutting_45 rfl rfl ?_
      refine k_bipush C dX7_lowerByPutting_46 (by decide) ?_
      refine k_icmp_ge C (tgt := 82) dX7_lowerByPutting_48 rfl (by omega) (by omega) (fun c48 => ?_) (fun c48 => ?_)
      · refine k_iinc C dX7_lowerByPutting_82 (by decide) rfl ?_
        refine k_goto C (tgt := 24) dX7_lowerByPutting_85 rfl ?_
        refine k_cut2 C (lv' := [(0, _), (1, _), (2, _), (3, _), (4, _)]) ⟨rfl, rfl, rfl, rfl, rfl, trivial⟩ ?_
        first
        | (exfalso; omega)
        | (have hx : 0 ≤ M 24 (8 * s + c) := by omega
           have hv : r36 = 1 + crow N a (M 24 (8 * s + c)) := by omega
           subst hv
           refine l_lower2 M hL ini a k ha hr hU hB C s hs kk _ 1 (c + 1) (by omega) ⟨fun j h => by rw [up_ne h]; exact hI.1 j h, fun i h => by rw [up_at, if_neg (by omega)]; exact hI.2.1 i h, PsI_s hL hI.2.2.1 hU hs (by omega) hx c64 (fun t _ _ => crow_up), LBd_s hI.2.2.2.1 hL hs (by omega) hx (fun t _ _ => crow_up), Or.inr rfl, fun q => by omega⟩)
        | (exact l_lower2 M hL ini a k ha hr hU hB C s hs kk N b (c + 1) (by omega) ⟨hI.1, hI.2.1, PsI_k hI.2.2.1 (fun q => by have := hrt q; omega), hI.2.2.2⟩)
      · refine k_iload C dX7_lowerByPutting_51 rfl ?_
        refine k_aload_n C dX7_lowerByPutting_53 rfl rfl ?_
        refine k_getR C (j := 2) okC7 rfl (by decide) (by decide) rfl flX7_9 dX7_lowerByPutting_54 ?_
        refine k_iload_n C dX7_lowerByPutting_57 rfl rfl ?_
        refine k_bipush C dX7_lowerByPutting_58 (by decide) ?_
        refine k_imul C dX7_lowerByPutting_60 ?_
        refine k_iload_n C dX7_lowerByPutting_61 rfl rfl ?_
        refine k_iadd C dX7_lowerByPutting_62 ?_
        refine k_iaload C rfl (by decide) (by decide) ⟨by omega, by omega⟩ dX7_lowerByPutting_63 (fun _ => ?_)
        rw [eix]
        refine k_icmp_ge C (tgt := 82) dX7_lowerByPutting_64 rfl (by omega) (by omega) (fun c64 => ?_) (fun c64 => ?_)
        · refine k_iinc C dX7_lowerByPutting_82 (by decide) rfl ?_
          refine k_goto C (tgt := 24) dX7_lowerByPutting_85 rfl ?_
          refine k_cut2 C (lv' := [(0, _), (1, _), (2, _), (3, _), (4, _)]) ⟨rfl, rfl, rfl, rfl, rfl, trivial⟩ ?_
          first
          | (exfalso; omega)
          | (have hx : 0 ≤ M 24 (8 * s + c) := by omega
             have hv : r36 = 1 + crow N a (M 24 (8 * s + c)) := by omega
             subst hv
             refine l_lower2 M hL ini a k ha hr hU hB C s hs kk _ 1 (c + 1) (by omega) ⟨fun j h => by rw [up_ne h]; exact hI.1 j h, fun i h => by rw [up_at, if_neg (by omega)]; exact hI.2.1 i h, PsI_s hL hI.2.2.1 hU hs (by omega) hx c64 (fun t _ _ => crow_up), LBd_s hI.2.2.2.1 hL hs (by omega) hx (fun t _ _ => crow_up), Or.inr rfl, fun q => by omega⟩)
          | (exact l_lower2 M hL ini a k ha hr hU hB C s hs kk N b (c + 1) (by omega) ⟨hI.1, hI.2.1, PsI_k hI.2.2.1 (fun q => by have := hrt q; omega), hI.2.2.2⟩)
        · refine k_aload_n C dX7_lowerByPutting_67 rfl rfl ?_
          refine k_getR C (j := 2) okC7 rfl (by decide) (by decide) rfl flX7_9 dX7_lowerByPutting_68 ?_
          refine k_iload_n C dX7_lowerByPutting_71 rfl rfl ?_
          refine k_bipush C dX7_lowerByPutting_72 (by decide) ?_
          refine k_imul C dX7_lowerByPutting_74 ?_
          refine k_iload_n C dX7_lowerByPutting_75 rfl rfl ?_
          refine k_iadd C dX7_lowerByPutting_76 ?_
          refine k_iload C dX7_lowerByPutting_77 rfl ?_
          refine k_iastore C rfl (by decide) (by decide) ⟨by omega, by omega⟩ (by omega) dX7_lowerByPutting_79 ?_
          refine k_iconst C dX7_lowerByPutting_80 ?_
          refine k_istore_n C dX7_lowerByPutting_81 rfl (by decide) ?_
          refine k_iinc C dX7_lowerByPutting_82 (by decide) rfl ?_
          refine k_goto C (tgt := 24) dX7_lowerByPutting_85 rfl ?_
          refine k_cut2 C (lv' := [(0, _), (1, _), (2, _), (3, _), (4, _)]) ⟨rfl, rfl, rfl, rfl, rfl, trivial⟩ ?_
          first
          | (exfalso; omega)
          | (have hx : 0 ≤ M 24 (8 * s + c) := by omega
             have hv : r36 = 1 + crow N a (M 24 (8 * s + c)) := by omega
             subst hv
             refine l_lower2 M hL ini a k ha hr hU hB C s hs kk _ 1 (c + 1) (by omega) ⟨fun j h => by rw [up_ne h]; exact hI.1 j h, fun i h => by rw [up_at, if_neg (by omega)]; exact hI.2.1 i h, PsI_s hL hI.2.2.1 hU hs (by omega) hx c64 (fun t _ _ => crow_up), LBd_s hI.2.2.2.1 hL hs (by omega) hx (fun t _ _ => crow_up), Or.inr rfl, fun q => by omega⟩)
          | (exact l_lower2 M hL ini a k ha hr hU hB C s hs kk N b (c + 1) (by omega) ⟨hI.1, hI.2.1, PsI_k hI.2.2.1 (fun q => by have := hrt q; omega), hI.2.2.2⟩)
termination_by (8 - c).toNat
decreasing_by all_goals omega
set_option maxRecDepth 100000 in
theorem l_lower1 {K : Kt} (M : Mem) (hL : LwC M) (ini : Int → Int) (a k : Int) (ha : 0 ≤ a ∧ a < 12) (hr : rw12 (M 23 2) (crow M a)) (hU : Uk (M 23 2) (M 24) (crow M a) k) (hB : LBd (M 23 2) (M 24) ini (crow M a)) (C : Ctx shC nC RX7 cX7_lowerByPutting 6 (some .boolean) (lvl 3) (fun r M' => (r = 0 ∨ r = 1) ∧ (∀ j, j ≠ 48 → M' j = M j) ∧ (∀ i, ¬ (30 * a ≤ i ∧ i < 30 * a + M 23 2) → M' 48 i = M 48 i) ∧ (∀ s, 0 ≤ s → s < M 23 2 → 0 ≤ crow M' a s ∧ crow M' a s ≤ crow M a s) ∧ Uk (M 23 2) (M 24) (crow M' a) (k + 1) ∧ LBd (M 23 2) (M 24) ini (crow M' a) ∧ (r = 0 → stb (M 23 2) (M 24) (crow M' a))) K) (N : Mem) (b s : Int) (hs : 0 ≤ s ∧ s ≤ M 23 2) (hI : LpI M N ini a k s 0 b) : K 4 [(0, .inr 47), (1, .inl a), (2, .inl b), (3, .inl s)] [] N := by
  have h1 := hL.1; have h2 := hL.2.1
  have e23 := hI.1 23 (by decide); have e24 := hI.1 24 (by decide)
  have hr' := hI.r12 hr
  have h9 := hI.2.2.2.2.1
  refine k_iload_n C dX7_lowerByPutting_4 rfl rfl ?_
  refine k_aload_n C dX7_lowerByPutting_5 rfl rfl ?_
  refine k_getR C (j := 1) okC7 rfl (by decide) (by decide) rfl flX7_27 dX7_lowerByPutting_6 ?_
  refine k_getJ C 2 2 rfl okC4 rfl (by decide) (by decide) rfl flX7_59 dX7_lowerByPutting_9 (fun _ => ?_)
  rw [e23]
  refine k_icmp_ge C (tgt := 94) dX7_lowerByPutting_12 rfl (by omega) (by omega) (fun c12 => ?_) (fun c12 => ?_)
  · refine k_iload_n C dX7_lowerByPutting_94 rfl rfl ?_
    exact k_zret C dX7_lowerByPutting_95 (by omega) (fun _ => by
        have hI2 : LpI M N ini a k (M 23 2) 0 b := by rw [show M 23 2 = s by omega]; exact hI
        refine ⟨h9, hI.1, hI.2.1, hI.2.2.1.1, PsI_end hL hI2.2.2.1, hI.2.2.2.1, fun q => ?_⟩
        intro s1 c1 a1 a2 a3 a4 a5
        have ht := hL.2.2 s1 c1 a1 a2 a3 a4
        rcases hI2.2.2.1.2.2 s1 c1 a1 a2 a3 a4 a5 (Or.inl a2) with z | z
        · exact z
        · exact absurd (hI.2.2.2.2.2 q _ a5 ht.2) z)
  · refine k_iload_n C dX7_lowerByPutting_15 rfl rfl ?_
    refine k_bipush C dX7_lowerByPutting_16 (by decide) ?_
    refine k_icmp_ge C (tgt := 94) dX7_lowerByPutting_18 rfl (by omega) (by omega) (fun c18 => ?_) (fun c18 => ?_)
    · refine k_iload_n C dX7_lowerByPutting_94 rfl rfl ?_
      exact k_zret C dX7_lowerByPutting_95 (by omega) (fun _ => by
        have hI2 : LpI M N ini a k (M 23 2) 0 b := by rw [show M 23 2 = s by omega]; exact hI
        refine ⟨h9, hI.1, hI.2.1, hI.2.2.1.1, PsI_end hL hI2.2.2.1, hI.2.2.2.1, fun q => ?_⟩
        intro s1 c1 a1 a2 a3 a4 a5
        have ht := hL.2.2 s1 c1 a1 a2 a3 a4
        rcases hI2.2.2.1.2.2 s1 c1 a1 a2 a3 a4 a5 (Or.inl a2) with z | z
        · exact z
        · exact absurd (hI.2.2.2.2.2 q _ a5 ht.2) z)
    · refine k_iconst C dX7_lowerByPutting_21 ?_
      refine k_istore C dX7_lowerByPutting_22 (by decide) ?_
      refine k_cut2 C (lv' := [(0, _), (1, _), (2, _), (3, _), (4, _)]) ⟨rfl, rfl, rfl, rfl, rfl, trivial⟩ ?_
      refine l_lower2 M hL ini a k ha hr hU hB C s (by omega) (fun N2 b2 h => ?_) N b 0 (by omega) hI
      refine k_iinc C dX7_lowerByPutting_88 (by decide) rfl ?_
      refine k_goto C (tgt := 4) dX7_lowerByPutting_91 rfl ?_
      refine k_cut2 C (lv' := [(0, _), (1, _), (2, _), (3, _)]) ⟨rfl, rfl, rfl, rfl, trivial⟩ ?_
      exact l_lower1 M hL ini a k ha hr hU hB C N2 b2 (s + 1) (by omega) h
termination_by (M 23 2 - s).toNat
decreasing_by all_goals omega
set_option maxRecDepth 100000 in
theorem c_lower (M : Mem) (hL : LwC M) (ini : Int → Int) (a k : Int) (ha : 0 ≤ a ∧ a < 12) (hr : rw12 (M 23 2) (crow M a)) (hU : Uk (M 23 2) (M 24) (crow M a) k) (hB : LBd (M 23 2) (M 24) ini (crow M a)) : Ct shC nC yX7_lowerByPutting cX7_lowerByPutting 6 (some .boolean) (lvl 3) [.inr 47, .inl a] M (fun r M' => (r = 0 ∨ r = 1) ∧ (∀ j, j ≠ 48 → M' j = M j) ∧ (∀ i, ¬ (30 * a ≤ i ∧ i < 30 * a + M 23 2) → M' 48 i = M 48 i) ∧ (∀ s, 0 ≤ s → s < M 23 2 → 0 ≤ crow M' a s ∧ crow M' a s ≤ crow M a s) ∧ Uk (M 23 2) (M 24) (crow M' a) (k + 1) ∧ LBd (M 23 2) (M 24) ini (crow M' a) ∧ (r = 0 → stb (M 23 2) (M 24) (crow M' a))) := by
  refine Ct_of (by decide +kernel) (Nat.le_of_ble_eq_true rfl) (fun K C => ?_)
  have h1 := hL.1
  refine k_iconst C dX7_lowerByPutting_0 ?_
  refine k_istore_n C dX7_lowerByPutting_1 rfl (by decide) ?_
  refine k_iconst C dX7_lowerByPutting_2 ?_
  refine k_istore_n C dX7_lowerByPutting_3 rfl (by decide) ?_
  refine k_cut2 C (lv' := [(0, _), (1, _), (2, _), (3, _)]) ⟨rfl, rfl, rfl, rfl, trivial⟩ ?_
  exact l_lower1 M hL ini a k ha hr hU hB C M 0 0 (by omega) ⟨fun _ _ => rfl, fun _ _ => rfl, PsI_0 hr, hB, Or.inl rfl, fun _ _ _ _ => rfl⟩
