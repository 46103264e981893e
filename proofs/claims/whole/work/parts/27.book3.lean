/-! Book.gatherBinding, Book.enter, Line.turnRound -/
def Bnd (M N : Mem) : Prop := (∀ k, k ≠ 8 → k ≠ 3 → N k = M k) ∧ (∀ i, i ≠ 5 → N 3 i = M 3 i)
theorem Bnd.bk {M N : Mem} (h : Bnd M N) (hB : BkC M) : BkC N := by
  unfold BkC
  rw [h.1 4 (by decide) (by decide), h.1 5 (by decide) (by decide), h.1 6 (by decide) (by decide), h.1 7 (by decide) (by decide), h.2 6 (by decide)]
  exact hB
abbrev askC (M : Mem) : Int → Prop := ask (M 3 6) (M 5) (M 6) (M 7) (M 4)
def BndI (M N : Mem) (row : Int) : Prop := 0 ≤ N 3 5 ∧ N 3 5 ≤ row ∧ (∀ j, 0 ≤ j → j < N 3 5 → askC M (N 8 j)) ∧ ∀ w, w < row → askC M w → ∃ j, 0 ≤ j ∧ j < N 3 5 ∧ N 8 j = w
theorem BndI_k {M N : Mem} {row : Int} (h : BndI M N row) (hn : ¬ askC M row) : BndI M N (row + 1) := by
  refine ⟨h.1, by have := h.2.1; omega, h.2.2.1, fun w hw ha => ?_⟩
  by_cases e : w = row
  · subst e; exact absurd ha hn
  · exact h.2.2.2 w (by omega) ha
theorem BndI_s {M N : Mem} {row : Int} (h : BndI M N row) (ha : askC M row) : BndI M (up (up N 8 (N 3 5) row) 3 5 (N 3 5 + 1)) (row + 1) := by
  have e5 : up (up N 8 (N 3 5) row) 3 5 (N 3 5 + 1) 3 5 = N 3 5 + 1 := up_same
  have e8 : ∀ j, up (up N 8 (N 3 5) row) 3 5 (N 3 5 + 1) 8 j = if j = N 3 5 then row else N 8 j := fun j => by rw [up_ne (by decide), up_at]
  have h1 := h.1; have h2 := h.2.1
  refine ⟨by omega, by omega, fun j a b => ?_, fun w hw hq => ?_⟩
  · rw [e8]
    split
    · exact ha
    · exact h.2.2.1 j a (by omega)
  · by_cases e : w = row
    · exact ⟨N 3 5, by omega, by omega, by rw [e8, if_pos rfl, e]⟩
    · obtain ⟨j, a, b, c⟩ := h.2.2.2 w (by omega) hq
      exact ⟨j, a, by omega, by rw [e8, if_neg (by omega)]; exact c⟩
set_option maxRecDepth 100000 in
theorem l_gather {K : Kt} (M : Mem) (hB : BkC M) (C : Ctx shC nC RX0 cX0_gatherBinding 2 none (lvl 4) (fun _ M' => Bnd M M' ∧ BndI M M' (M 3 6)) K) (N : Mem) (hN : Bnd M N) (row : Int) (hr : 0 ≤ row ∧ row ≤ M 3 6) (hI : BndI M N row) : K 7 [(0, .inr 3), (1, .inl row)] [] N := by
  have hb1 := hB.1; have hb2 := hB.2.1; have hbr := hB.2.2 row hr.1; have i1 := hI.1; have i2 := hI.2.1
  have e6 := hN.2 6 (by decide); have n4 := hN.1 4 (by decide) (by decide); have n5 := hN.1 5 (by decide) (by decide); have n6 := hN.1 6 (by decide) (by decide); have n7 := hN.1 7 (by decide) (by decide)
  refine k_iload_n C dX0_gatherBinding_7 rfl rfl ?_
  refine k_aload_n C dX0_gatherBinding_8 rfl rfl ?_
  refine k_getJ C 6 6 rfl okC0 rfl (by decide) (by decide) rfl flX0_28 dX0_gatherBinding_9 (fun _ => ?_)
  refine k_icmp_ge C (tgt := 63) dX0_gatherBinding_12 rfl (by omega) (by omega) (fun c12 => ?_) (fun c12 => ?_)
  · exact k_vret C dX0_gatherBinding_63 (fun _ => ⟨hN, by rw [show M 3 6 = row by omega]; exact hI⟩)
  · refine k_iload_n C dX0_gatherBinding_15 rfl rfl ?_
    refine k_bipush C dX0_gatherBinding_16 (by decide) ?_
    refine k_icmp_ge C (tgt := 63) dX0_gatherBinding_18 rfl (by omega) (by omega) (fun c18 => ?_) (fun c18 => ?_)
    · exact k_vret C dX0_gatherBinding_63 (fun _ => ⟨hN, by rw [show M 3 6 = row by omega]; exact hI⟩)
    · refine k_aload_n C dX0_gatherBinding_21 rfl rfl ?_
      refine k_iload_n C dX0_gatherBinding_22 rfl rfl ?_
      refine k_callV C okX0_51 dX0_gatherBinding_23 (c_Book_isWrongThere N row (by omega)) rfl rfl (by decide) rfl (by decide) rfl (Nat.le_of_ble_eq_true rfl) (fun r23 M23 hr23 hp23 => ?_)
      obtain ⟨rfl, hp23⟩ := hp23
      rw [n6, n7, e6] at hp23
      have hbr := hbr (by omega)
      refine k_if_eq C (tgt := 57) dX0_gatherBinding_26 rfl (by omega) (fun c26 => ?_) (fun c26 => ?_)
      · refine k_iinc C dX0_gatherBinding_57 (by decide) rfl ?_
        refine k_goto C (tgt := 7) dX0_gatherBinding_60 rfl ?_
        refine k_cut2 C (lv' := [(0, _), (1, _)]) ⟨rfl, rfl, trivial⟩ ?_
        first
        | (refine l_gather M hB C _ ⟨fun k h h' => by rw [up_ne h', up_ne h, hN.1 k h h'], fun i h => by rw [up_at, if_neg h, up_ne (by decide), hN.2 i h]⟩ (row + 1) (by omega) (BndI_s hI ⟨hr.1, by omega, by omega, by omega, by rcases hp31 with z | z; omega; exact z.2⟩); done)
        | (refine l_gather M hB C N hN (row + 1) (by omega) (BndI_k hI (fun q => by rcases hp31 with z | z; exact q.2.2.2.2 z.2; omega)); done)
        | (refine l_gather M hB C N hN (row + 1) (by omega) (BndI_k hI (fun q => by have q1 := q.2.2.1; have q2 := q.2.2.2.1; omega)); done)
      · refine k_aload_n C dX0_gatherBinding_29 rfl rfl ?_
        refine k_iload_n C dX0_gatherBinding_30 rfl rfl ?_
        refine k_callV C okX0_54 dX0_gatherBinding_31 (c_Book_isLeftOut N (hN.bk hB) row (by omega) (by rw [n7]; omega) (by rw [n6]; omega)) rfl rfl (by decide) rfl (by decide) rfl (Nat.le_of_ble_eq_true rfl) (fun r31 M31 hr31 hp31 => ?_)
        obtain ⟨rfl, hp31⟩ := hp31
        rw [n4, n5, n6, n7, e6] at hp31
        refine k_if_ne C (tgt := 57) dX0_gatherBinding_34 rfl (by omega) (fun c34 => ?_) (fun c34 => ?_)
        · refine k_iinc C dX0_gatherBinding_57 (by decide) rfl ?_
          refine k_goto C (tgt := 7) dX0_gatherBinding_60 rfl ?_
          refine k_cut2 C (lv' := [(0, _), (1, _)]) ⟨rfl, rfl, trivial⟩ ?_
          first
          | (refine l_gather M hB C _ ⟨fun k h h' => by rw [up_ne h', up_ne h, hN.1 k h h'], fun i h => by rw [up_at, if_neg h, up_ne (by decide), hN.2 i h]⟩ (row + 1) (by omega) (BndI_s hI ⟨hr.1, by omega, by omega, by omega, by rcases hp31 with z | z; omega; exact z.2⟩); done)
          | (refine l_gather M hB C N hN (row + 1) (by omega) (BndI_k hI (fun q => by rcases hp31 with z | z; exact q.2.2.2.2 z.2; omega)); done)
          | (refine l_gather M hB C N hN (row + 1) (by omega) (BndI_k hI (fun q => by have q1 := q.2.2.1; have q2 := q.2.2.2.1; omega)); done)
        · refine k_aload_n C dX0_gatherBinding_37 rfl rfl ?_
          refine k_getR C (j := 4) okC0 rfl (by decide) (by decide) rfl flX0_25 dX0_gatherBinding_38 ?_
          refine k_aload_n C dX0_gatherBinding_41 rfl rfl ?_
          refine k_getJ C 5 5 rfl okC0 rfl (by decide) (by decide) rfl flX0_64 dX0_gatherBinding_42 (fun _ => ?_)
          refine k_iload_n C dX0_gatherBinding_45 rfl rfl ?_
          refine k_iastore C rfl (by decide) (by decide) ⟨by omega, by omega⟩ (by omega) dX0_gatherBinding_46 ?_
          refine k_aload_n C dX0_gatherBinding_47 rfl rfl ?_
          refine k_dup C dX0_gatherBinding_48 ?_
          refine k_getJ C 5 5 rfl okC0 rfl (by decide) (by decide) rfl flX0_64 dX0_gatherBinding_49 (fun _ => ?_)
          rw [up_ne (show (3 : Nat) ≠ 8 by decide)]
          refine k_iconst C dX0_gatherBinding_52 ?_
          refine k_iadd C dX0_gatherBinding_53 ?_
          refine k_putJ C 5 5 rfl okC0 rfl (by decide) (by decide) rfl rfl rfl (by omega) flX0_64 dX0_gatherBinding_54 ?_
          refine k_iinc C dX0_gatherBinding_57 (by decide) rfl ?_
          refine k_goto C (tgt := 7) dX0_gatherBinding_60 rfl ?_
          refine k_cut2 C (lv' := [(0, _), (1, _)]) ⟨rfl, rfl, trivial⟩ ?_
          first
          | (refine l_gather M hB C _ ⟨fun k h h' => by rw [up_ne h', up_ne h, hN.1 k h h'], fun i h => by rw [up_at, if_neg h, up_ne (by decide), hN.2 i h]⟩ (row + 1) (by omega) (BndI_s hI ⟨hr.1, by omega, by omega, by omega, by rcases hp31 with z | z; omega; exact z.2⟩); done)
          | (refine l_gather M hB C N hN (row + 1) (by omega) (BndI_k hI (fun q => by rcases hp31 with z | z; exact q.2.2.2.2 z.2; omega)); done)
          | (refine l_gather M hB C N hN (row + 1) (by omega) (BndI_k hI (fun q => by have q1 := q.2.2.1; have q2 := q.2.2.2.1; omega)); done)
termination_by (M 3 6 - row).toNat
decreasing_by all_goals omega
set_option maxRecDepth 100000 in
theorem c_Book_gather (M : Mem) (hB : BkC M) : Ct shC nC yX0_gatherBinding cX0_gatherBinding 2 none (lvl 4) [.inr 3] M (fun _ M' => Bnd M M' ∧ BndI M M' (M 3 6)) := by
  refine Ct_of (by decide +kernel) (Nat.le_of_ble_eq_true rfl) (fun K C => ?_)
  have hb1 := hB.1
  refine k_aload_n C dX0_gatherBinding_0 rfl rfl ?_
  refine k_iconst C dX0_gatherBinding_1 ?_
  refine k_putJ C 5 5 rfl okC0 rfl (by decide) (by decide) rfl rfl rfl (by omega) flX0_64 dX0_gatherBinding_2 ?_
  refine k_iconst C dX0_gatherBinding_5 ?_
  refine k_istore_n C dX0_gatherBinding_6 rfl (by decide) ?_
  refine k_cut2 C (lv' := [(0, _), (1, _)]) ⟨rfl, rfl, trivial⟩ ?_
  exact l_gather M hB C (up M 3 5 0) ⟨fun k h h' => up_ne h', fun i h => by rw [up_at, if_neg h]⟩ 0 (by omega) ⟨by rw [up_same]; omega, by rw [up_same]; omega, fun j a b => by rw [up_same] at b; omega, fun w a b => by have := b.1; omega⟩
def cpyM (M : Mem) (t n : Int) : Mem := fun k i => if k = 4 ∧ 12 * t ≤ i ∧ i < 12 * t + n then M 2 (i - 12 * t) else M k i
theorem cpyM_0 (M : Mem) (t : Int) : cpyM M t 0 = M := by
  funext k i; unfold cpyM; rw [if_neg (by omega)]
theorem cpyM_ne {M : Mem} {t n : Int} {k : Nat} (h : k ≠ 4) : cpyM M t n k = M k := by
  funext i; unfold cpyM; rw [if_neg (by omega)]
theorem cpyM_s (M : Mem) (t : Int) {n : Int} (h : 0 ≤ n) : up (cpyM M t n) 4 (t * 12 + n) (M 2 n) = cpyM M t (n + 1) := by
  funext k i
  show (if k = 4 ∧ i = t * 12 + n then M 2 n else (if k = 4 ∧ 12 * t ≤ i ∧ i < 12 * t + n then M 2 (i - 12 * t) else M k i)) = (if k = 4 ∧ 12 * t ≤ i ∧ i < 12 * t + (n + 1) then M 2 (i - 12 * t) else M k i)
  by_cases h1 : k = 4
  · by_cases h2 : i = t * 12 + n
    · rw [if_pos ⟨h1, h2⟩, if_pos ⟨h1, by omega⟩, show i - 12 * t = n by omega]
    · rw [if_neg (fun h => h2 h.2)]
      by_cases h3 : 12 * t ≤ i ∧ i < 12 * t + n
      · rw [if_pos ⟨h1, h3⟩, if_pos ⟨h1, by omega⟩]
      · rw [if_neg (fun h => h3 h.2), if_neg (fun h => h3 (by omega))]
  · rw [if_neg (fun h => h1 h.1), if_neg (fun h => h1 h.1), if_neg (fun h => h1 h.1)]
/-- the memory behind a new row -/
def entM (M : Mem) (right : Int) : Mem := up (up (up (up (cpyM M (M 3 6) (M 1 1)) 5 (M 3 6) (M 1 1)) 6 (M 3 6) right) 7 (M 3 6) 1) 3 6 (M 3 6 + 1)
set_option maxRecDepth 100000 in
theorem l_enter {K : Kt} (M : Mem) (hB : BkC M) (ht : M 3 6 < 60) (hh : 0 ≤ M 1 1 ∧ M 1 1 ≤ 12) (right : Int) (hr : right = 0 ∨ right = 1) (C : Ctx shC nC RX0 cX0_enter 4 (some .int) (lvl 1) (fun r M' => r = M 3 6 ∧ M' = entM M right) K) (i : Int) (hi : 0 ≤ i ∧ i ≤ M 1 1) : K 20 [(0, .inr 3), (1, .inr 1), (2, .inl right), (3, .inl i)] [] (cpyM M (M 3 6) i) := by
  have hb1 := hB.1; have hb2 := hB.2.1
  have f3 : cpyM M (M 3 6) i 3 = M 3 := cpyM_ne (by decide)
  have f1 : cpyM M (M 3 6) i 1 = M 1 := cpyM_ne (by decide)
  have f2 : cpyM M (M 3 6) i 2 = M 2 := cpyM_ne (by decide)
  refine k_iload_n C dX0_enter_20 rfl rfl ?_
  refine k_aload_n C dX0_enter_21 rfl rfl ?_
  refine k_getJ C 1 1 rfl okC5 rfl (by decide) (by decide) rfl flX0_32 dX0_enter_22 (fun _ => ?_)
  rw [f1]
  refine k_icmp_ge C (tgt := 59) dX0_enter_25 rfl (by omega) (by omega) (fun c25 => ?_) (fun c25 => ?_)
  · refine k_aload_n C dX0_enter_59 rfl rfl ?_
    refine k_getR C (j := 1) okC0 rfl (by decide) (by decide) rfl flX0_15 dX0_enter_60 ?_
    refine k_aload_n C dX0_enter_63 rfl rfl ?_
    refine k_getJ C 6 6 rfl okC0 rfl (by decide) (by decide) rfl flX0_28 dX0_enter_64 (fun _ => ?_)
    rw [cpyM_ne (show (3 : Nat) ≠ 4 by decide)]
    refine k_aload_n C dX0_enter_67 rfl rfl ?_
    refine k_getJ C 1 1 rfl okC5 rfl (by decide) (by decide) rfl flX0_32 dX0_enter_68 (fun _ => ?_)
    rw [cpyM_ne (show (1 : Nat) ≠ 4 by decide)]
    refine k_iastore C rfl (by decide) (by decide) ⟨by omega, by omega⟩ (by omega) dX0_enter_71 ?_
    refine k_aload_n C dX0_enter_72 rfl rfl ?_
    refine k_getR C (j := 2) okC0 rfl (by decide) (by decide) rfl flX0_18 dX0_enter_73 ?_
    refine k_aload_n C dX0_enter_76 rfl rfl ?_
    refine k_getJ C 6 6 rfl okC0 rfl (by decide) (by decide) rfl flX0_28 dX0_enter_77 (fun _ => ?_)
    rw [up_ne (show (3 : Nat) ≠ 5 by decide), cpyM_ne (show (3 : Nat) ≠ 4 by decide)]
    refine k_iload_n C dX0_enter_80 rfl rfl ?_
    refine k_zastore C rfl (by decide) (by decide) ⟨by omega, by omega⟩ (by omega) dX0_enter_81 ?_
    refine k_aload_n C dX0_enter_82 rfl rfl ?_
    refine k_getR C (j := 3) okC0 rfl (by decide) (by decide) rfl flX0_22 dX0_enter_83 ?_
    refine k_aload_n C dX0_enter_86 rfl rfl ?_
    refine k_getJ C 6 6 rfl okC0 rfl (by decide) (by decide) rfl flX0_28 dX0_enter_87 (fun _ => ?_)
    rw [up_ne (show (3 : Nat) ≠ 6 by decide), up_ne (show (3 : Nat) ≠ 5 by decide), cpyM_ne (show (3 : Nat) ≠ 4 by decide)]
    refine k_iconst C dX0_enter_90 ?_
    refine k_zastore C rfl (by decide) (by decide) ⟨by omega, by omega⟩ (by omega) dX0_enter_91 ?_
    refine k_aload_n C dX0_enter_92 rfl rfl ?_
    refine k_dup C dX0_enter_93 ?_
    refine k_getJ C 6 6 rfl okC0 rfl (by decide) (by decide) rfl flX0_28 dX0_enter_94 (fun _ => ?_)
    rw [up_ne (show (3 : Nat) ≠ 7 by decide), up_ne (show (3 : Nat) ≠ 6 by decide), up_ne (show (3 : Nat) ≠ 5 by decide), cpyM_ne (show (3 : Nat) ≠ 4 by decide)]
    refine k_iconst C dX0_enter_97 ?_
    refine k_iadd C dX0_enter_98 ?_
    refine k_putJ C 6 6 rfl okC0 rfl (by decide) (by decide) rfl rfl rfl (by omega) flX0_28 dX0_enter_99 ?_
    refine k_aload_n C dX0_enter_102 rfl rfl ?_
    refine k_getJ C 6 6 rfl okC0 rfl (by decide) (by decide) rfl flX0_28 dX0_enter_103 (fun _ => ?_)
    rw [up_same]
    refine k_iconst C dX0_enter_106 ?_
    refine k_isub C dX0_enter_107 ?_
    exact k_iret C dX0_enter_108 (by omega) (fun _ => ⟨by omega, by rw [show i = M 1 1 by omega]; rfl⟩)
  · refine k_iload_n C dX0_enter_28 rfl rfl ?_
    refine k_bipush C dX0_enter_29 (by decide) ?_
    refine k_icmp_ge C (tgt := 59) dX0_enter_31 rfl (by omega) (by omega) (fun c31 => ?_) (fun c31 => ?_)
    · refine k_aload_n C dX0_enter_59 rfl rfl ?_
      refine k_getR C (j := 1) okC0 rfl (by decide) (by decide) rfl flX0_15 dX0_enter_60 ?_
      refine k_aload_n C dX0_enter_63 rfl rfl ?_
      refine k_getJ C 6 6 rfl okC0 rfl (by decide) (by decide) rfl flX0_28 dX0_enter_64 (fun _ => ?_)
      rw [cpyM_ne (show (3 : Nat) ≠ 4 by decide)]
      refine k_aload_n C dX0_enter_67 rfl rfl ?_
      refine k_getJ C 1 1 rfl okC5 rfl (by decide) (by decide) rfl flX0_32 dX0_enter_68 (fun _ => ?_)
      rw [cpyM_ne (show (1 : Nat) ≠ 4 by decide)]
      refine k_iastore C rfl (by decide) (by decide) ⟨by omega, by omega⟩ (by omega) dX0_enter_71 ?_
      refine k_aload_n C dX0_enter_72 rfl rfl ?_
      refine k_getR C (j := 2) okC0 rfl (by decide) (by decide) rfl flX0_18 dX0_enter_73 ?_
      refine k_aload_n C dX0_enter_76 rfl rfl ?_
      refine k_getJ C 6 6 rfl okC0 rfl (by decide) (by decide) rfl flX0_28 dX0_enter_77 (fun _ => ?_)
      rw [up_ne (show (3 : Nat) ≠ 5 by decide), cpyM_ne (show (3 : Nat) ≠ 4 by decide)]
      refine k_iload_n C dX0_enter_80 rfl rfl ?_
      refine k_zastore C rfl (by decide) (by decide) ⟨by omega, by omega⟩ (by omega) dX0_enter_81 ?_
      refine k_aload_n C dX0_enter_82 rfl rfl ?_
      refine k_getR C (j := 3) okC0 rfl (by decide) (by decide) rfl flX0_22 dX0_enter_83 ?_
      refine k_aload_n C dX0_enter_86 rfl rfl ?_
      refine k_getJ C 6 6 rfl okC0 rfl (by decide) (by decide) rfl flX0_28 dX0_enter_87 (fun _ => ?_)
      rw [up_ne (show (3 : Nat) ≠ 6 by decide), up_ne (show (3 : Nat) ≠ 5 by decide), cpyM_ne (show (3 : Nat) ≠ 4 by decide)]
      refine k_iconst C dX0_enter_90 ?_
      refine k_zastore C rfl (by decide) (by decide) ⟨by omega, by omega⟩ (by omega) dX0_enter_91 ?_
      refine k_aload_n C dX0_enter_92 rfl rfl ?_
      refine k_dup C dX0_enter_93 ?_
      refine k_getJ C 6 6 rfl okC0 rfl (by decide) (by decide) rfl flX0_28 dX0_enter_94 (fun _ => ?_)
      rw [up_ne (show (3 : Nat) ≠ 7 by decide), up_ne (show (3 : Nat) ≠ 6 by decide), up_ne (show (3 : Nat) ≠ 5 by decide), cpyM_ne (show (3 : Nat) ≠ 4 by decide)]
      refine k_iconst C dX0_enter_97 ?_
      refine k_iadd C dX0_enter_98 ?_
      refine k_putJ C 6 6 rfl okC0 rfl (by decide) (by decide) rfl rfl rfl (by omega) flX0_28 dX0_enter_99 ?_
      refine k_aload_n C dX0_enter_102 rfl rfl ?_
      refine k_getJ C 6 6 rfl okC0 rfl (by decide) (by decide) rfl flX0_28 dX0_enter_103 (fun _ => ?_)
      rw [up_same]
      refine k_iconst C dX0_enter_106 ?_
      refine k_isub C dX0_enter_107 ?_
      exact k_iret C dX0_enter_108 (by omega) (fun _ => ⟨by omega, by rw [show i = M 1 1 by omega]; rfl⟩)
    · refine k_aload_n C dX0_enter_34 rfl rfl ?_
      refine k_getR C (j := 0) okC0 rfl (by decide) (by decide) rfl flX0_9 dX0_enter_35 ?_
      refine k_aload_n C dX0_enter_38 rfl rfl ?_
      refine k_getJ C 6 6 rfl okC0 rfl (by decide) (by decide) rfl flX0_28 dX0_enter_39 (fun _ => ?_)
      rw [f3]
      refine k_bipush C dX0_enter_42 (by decide) ?_
      refine k_imul C dX0_enter_44 ?_
      refine k_iload_n C dX0_enter_45 rfl rfl ?_
      refine k_iadd C dX0_enter_46 ?_
      refine k_aload_n C dX0_enter_47 rfl rfl ?_
      refine k_iload_n C dX0_enter_48 rfl rfl ?_
      refine k_callV C okX0_37 dX0_enter_49 (c_Line_at 1 2 12 rfl (by decide) rfl (by decide) (by decide) _ i (by omega)) rfl rfl (by decide) rfl (by decide) rfl (Nat.le_of_ble_eq_true rfl) (fun r49 M49 hr49 hp49 => ?_)
      obtain ⟨rfl, rfl⟩ := hp49
      rw [f1, f2, if_pos (by omega)] at hr49 ⊢
      refine k_iastore C rfl (by decide) (by decide) ⟨by omega, by omega⟩ (by omega) dX0_enter_52 ?_
      refine k_iinc C dX0_enter_53 (by decide) rfl ?_
      refine k_goto C (tgt := 20) dX0_enter_56 rfl ?_
      refine k_cut2 C (lv' := [(0, _), (1, _), (2, _), (3, _)]) ⟨rfl, rfl, rfl, rfl, trivial⟩ ?_
      rw [cpyM_s _ _ hi.1]
      exact l_enter M hB ht hh right hr C (i + 1) (by omega)
termination_by (M 1 1 - i).toNat
decreasing_by all_goals omega
set_option maxRecDepth 100000 in
theorem c_Book_enter (M : Mem) (hB : BkC M) (ht : M 3 6 < 60) (hh : 0 ≤ M 1 1 ∧ M 1 1 ≤ 12) (right : Int) (hr : right = 0 ∨ right = 1) : Ct shC nC yX0_enter cX0_enter 4 (some .int) (lvl 1) [.inr 3, .inr 1, .inl right] M (fun r M' => r = M 3 6 ∧ M' = entM M right) := by
  refine Ct_of (by decide +kernel) (Nat.le_of_ble_eq_true rfl) (fun K C => ?_)
  have hb1 := hB.1
  refine k_aload_n C dX0_enter_0 rfl rfl ?_
  refine k_getJ C 6 6 rfl okC0 rfl (by decide) (by decide) rfl flX0_28 dX0_enter_1 (fun _ => ?_)
  refine k_if_lt C (tgt := 16) dX0_enter_4 rfl (by omega) (fun c4 => ?_) (fun c4 => ?_)
  · refine k_iconst C dX0_enter_16 ?_
    exact k_iret C dX0_enter_17 (by omega) (fun _ => by omega)
  · refine k_aload_n C dX0_enter_7 rfl rfl ?_
    refine k_getJ C 6 6 rfl okC0 rfl (by decide) (by decide) rfl flX0_28 dX0_enter_8 (fun _ => ?_)
    refine k_bipush C dX0_enter_11 (by decide) ?_
    refine k_icmp_lt C (tgt := 18) dX0_enter_13 rfl (by omega) (by omega) (fun c13 => ?_) (fun c13 => ?_)
    · refine k_iconst C dX0_enter_18 ?_
      refine k_istore_n C dX0_enter_19 rfl (by decide) ?_
      refine k_cut2 C (lv' := [(0, _), (1, _), (2, _), (3, _)]) ⟨rfl, rfl, rfl, rfl, trivial⟩ ?_
      have h := l_enter M hB ht hh right hr C 0 (by omega)
      rw [cpyM_0] at h
      exact h
    · refine k_iconst C dX0_enter_16 ?_
      exact k_iret C dX0_enter_17 (by omega) (fun _ => by omega)
set_option maxRecDepth 100000 in
theorem l_turn {K : Kt} (k c n : Nat) (hs : shC k = .inr (5, [some c, none])) (hk : k < nC) (hsc : shC c = .inl (.int, n)) (hkc : c < nC) (hnc : n < 2147483648) (M : Mem) (hz : 0 ≤ M k 1 ∧ M k 1 ≤ n) (C : Ctx shC nC RX5 cX5_turnRound 4 none (lvl 0) (fun _ M' => (∀ j, j ≠ c → M' j = M j) ∧ ∀ i, 0 ≤ i → i < M k 1 → M' c i = M c (M k 1 - 1 - i)) K) (N : Mem) (hN : ∀ j, j ≠ c → N j = M j) (a b : Int) (hab : 0 ≤ a ∧ a + b = M k 1 - 1 ∧ a ≤ b + 2) (hI : ∀ i, 0 ≤ i → i < M k 1 → N c i = if i < a ∨ b < i then M c (M k 1 - 1 - i) else M c i) : K 9 [(0, .inr k), (1, .inl a), (2, .inl b)] [] N := by
  refine k_iload_n C dX5_turnRound_9 rfl rfl ?_
  refine k_iload_n C dX5_turnRound_10 rfl rfl ?_
  refine k_icmp_ge C (tgt := 58) dX5_turnRound_11 rfl (by omega) (by omega) (fun c11 => ?_) (fun c11 => ?_)
  · exact k_vret C dX5_turnRound_58 (fun _ => ⟨hN, fun i h0 h1 => by rw [hI i h0 h1]; split; rfl; rw [show M k 1 - 1 - i = i by omega]⟩)
  · refine k_iload_n C dX5_turnRound_14 rfl rfl ?_
    refine k_aload_n C dX5_turnRound_15 rfl rfl ?_
    refine k_getR C (j := 0) okC5 hs hk (by decide) rfl flX5_15 dX5_turnRound_16 ?_
    refine k_len C hsc hkc (by decide) dX5_turnRound_19 (fun n19 hn19 => ?_)
    refine k_icmp_ge C (tgt := 58) dX5_turnRound_20 rfl (by omega) (by omega) (fun c20 => ?_) (fun c20 => ?_)
    · exact k_vret C dX5_turnRound_58 (fun _ => ⟨hN, fun i h0 h1 => by rw [hI i h0 h1]; split; rfl; rw [show M k 1 - 1 - i = i by omega]⟩)
    · have g1 := hI a (by omega) (by omega)
      have g2 := hI b (by omega) (by omega)
      rw [if_neg (by omega)] at g1 g2
      refine k_aload_n C dX5_turnRound_23 rfl rfl ?_
      refine k_getR C (j := 0) okC5 hs hk (by decide) rfl flX5_15 dX5_turnRound_24 ?_
      refine k_iload_n C dX5_turnRound_27 rfl rfl ?_
      refine k_iaload C hsc hkc hnc ⟨by omega, by omega⟩ dX5_turnRound_28 (fun _ => ?_)
      refine k_istore_n C dX5_turnRound_29 rfl (by decide) ?_
      refine k_aload_n C dX5_turnRound_30 rfl rfl ?_
      refine k_getR C (j := 0) okC5 hs hk (by decide) rfl flX5_15 dX5_turnRound_31 ?_
      refine k_iload_n C dX5_turnRound_34 rfl rfl ?_
      refine k_aload_n C dX5_turnRound_35 rfl rfl ?_
      refine k_getR C (j := 0) okC5 hs hk (by decide) rfl flX5_15 dX5_turnRound_36 ?_
      refine k_iload_n C dX5_turnRound_39 rfl rfl ?_
      refine k_iaload C hsc hkc hnc ⟨by omega, by omega⟩ dX5_turnRound_40 (fun _ => ?_)
      refine k_iastore C hsc hkc hnc ⟨by omega, by omega⟩ (by omega) dX5_turnRound_41 ?_
      refine k_aload_n C dX5_turnRound_42 rfl rfl ?_
      refine k_getR C (j := 0) okC5 hs hk (by decide) rfl flX5_15 dX5_turnRound_43 ?_
      refine k_iload_n C dX5_turnRound_46 rfl rfl ?_
      refine k_iload_n C dX5_turnRound_47 rfl rfl ?_
      refine k_iastore C hsc hkc hnc ⟨by omega, by omega⟩ (by omega) dX5_turnRound_48 ?_
      refine k_iinc C dX5_turnRound_49 (by decide) rfl ?_
      refine k_iinc C dX5_turnRound_52 (by decide) rfl ?_
      refine k_goto C (tgt := 9) dX5_turnRound_55 rfl ?_
      refine k_cut2 C (lv' := [(0, _), (1, _), (2, _)]) ⟨rfl, rfl, rfl, trivial⟩ ?_
      refine l_turn k c n hs hk hsc hkc hnc M hz C _ (fun j h => by rw [up_ne h, up_ne h, hN j h]) (a + 1) (b + -1) (by omega) (fun i h0 h1 => ?_)
      rw [up_at, up_at]
      by_cases e1 : i = b
      · rw [if_pos e1, if_pos (by omega), g1, show M k 1 - 1 - i = a by omega]
      · rw [if_neg e1]
        by_cases e2 : i = a
        · rw [if_pos e2, if_pos (by omega), g2, show M k 1 - 1 - i = b by omega]
        · rw [if_neg e2, hI i h0 h1]
          by_cases e3 : i < a ∨ b < i
          · rw [if_pos e3, if_pos (by omega)]
          · rw [if_neg e3, if_neg (by omega)]
termination_by (b + 1 - a).toNat
decreasing_by all_goals omega
set_option maxRecDepth 100000 in
theorem c_Line_turn (k c n : Nat) (hs : shC k = .inr (5, [some c, none])) (hk : k < nC) (hsc : shC c = .inl (.int, n)) (hkc : c < nC) (hnc : n < 2147483648) (M : Mem) (hz : 0 ≤ M k 1 ∧ M k 1 ≤ n) : Ct shC nC yX5_turnRound cX5_turnRound 4 none (lvl 0) [.inr k] M (fun _ M' => (∀ j, j ≠ c → M' j = M j) ∧ ∀ i, 0 ≤ i → i < M k 1 → M' c i = M c (M k 1 - 1 - i)) := by
  refine Ct_of (by decide +kernel) (Nat.le_of_ble_eq_true rfl) (fun K C => ?_)
  refine k_iconst C dX5_turnRound_0 ?_
  refine k_istore_n C dX5_turnRound_1 rfl (by decide) ?_
  refine k_aload_n C dX5_turnRound_2 rfl rfl ?_
  refine k_getJ C 1 1 rfl okC5 hs hk (by decide) rfl flX5_21 dX5_turnRound_3 (fun _ => ?_)
  refine k_iconst C dX5_turnRound_6 ?_
  refine k_isub C dX5_turnRound_7 ?_
  refine k_istore_n C dX5_turnRound_8 rfl (by decide) ?_
  refine k_cut2 C (lv' := [(0, _), (1, _), (2, _)]) ⟨rfl, rfl, rfl, trivial⟩ ?_
  exact l_turn k c n hs hk hsc hkc hnc M hz C M (fun _ _ => rfl) 0 (M k 1 - 1) (by omega) (fun i h0 h1 => by rw [if_neg (by omega)])
