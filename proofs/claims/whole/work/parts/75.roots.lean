/-! ROOTS: it x the node that x was melted into (itself: it stands alone); class: cell 16, reference: cell 13 -/
def Fo (m : Int) (it : Int → Int) : Prop := ∀ x, 0 ≤ x → x < m → 0 ≤ it x ∧ it x ≤ x
def rtf (it : Int → Int) : Nat → Int → Int
  | 0, x => x
  | f + 1, x => if it x = x then x else rtf it f (it x)
def rt (it : Int → Int) (x : Int) : Int := rtf it (x.toNat + 1) x
theorem rtf_more {m : Int} {it : Int → Int} (h : Fo m it) : ∀ (f g : Nat) (x : Int), 0 ≤ x → x < m → x < f → x < g → rtf it f x = rtf it g x
  | 0, _, x, h0, _, hf, _ => by omega
  | _ + 1, 0, x, h0, _, _, hg => by omega
  | f + 1, g + 1, x, h0, h1, hf, hg => by
    unfold rtf
    by_cases e : it x = x
    · rw [if_pos e, if_pos e]
    · rw [if_neg e, if_neg e]
      have := h x h0 h1
      exact rtf_more h f g (it x) this.1 (by omega) (by omega) (by omega)
theorem rt_self {it : Int → Int} {x : Int} (e : it x = x) : rt it x = x := by
  unfold rt rtf; rw [if_pos e]
theorem rt_go {m : Int} {it : Int → Int} (h : Fo m it) {x : Int} (h0 : 0 ≤ x) (h1 : x < m) : rt it x = rt it (it x) := by
  by_cases e : it x = x
  · rw [e]
  · have hx := h x h0 h1
    show rtf it (x.toNat + 1) x = _
    unfold rtf
    rw [if_neg e]
    exact rtf_more h _ _ (it x) hx.1 (by omega) (by omega) (by omega)
theorem rt_rg {m : Int} {it : Int → Int} (h : Fo m it) : ∀ (N : Nat) (x : Int), 0 ≤ x → x < m → x < N → 0 ≤ rt it x ∧ rt it x ≤ x ∧ it (rt it x) = rt it x
  | 0, x, h0, _, hN => by omega
  | N + 1, x, h0, h1, hN => by
    by_cases e : it x = x
    · rw [rt_self e]; exact ⟨h0, Int.le_refl _, e⟩
    · have hx := h x h0 h1
      rw [rt_go h h0 h1]
      have := rt_rg h N (it x) hx.1 (by omega) (by omega)
      exact ⟨this.1, by omega, this.2.2⟩
theorem rt_ok {m : Int} {it : Int → Int} (h : Fo m it) {x : Int} (h0 : 0 ≤ x) (h1 : x < m) : 0 ≤ rt it x ∧ rt it x ≤ x ∧ it (rt it x) = rt it x := rt_rg h (x.toNat + 1) x h0 h1 (by omega)
set_option maxHeartbeats 4000000 in
set_option maxRecDepth 100000 in
theorem l_standing {K : Kt} (M : Mem) (m : Int) (hm : m ≤ 721) (hF : Fo m (M 16)) (x : Int) (hx : -1 ≤ x ∧ x < m) (C : Ctx shC nC RX6 cX6_standing 4 (some .int) (lvl 0) (fun r M' => M = M' ∧ ((x = -1 ∧ r = -1) ∨ (0 ≤ x ∧ r = rt (M 16) x))) K) (y t : Int) (hy : 0 ≤ x ∧ 0 ≤ y ∧ y < m) (ht : 0 ≤ t ∧ t + y ≤ x) (he : rt (M 16) x = rt (M 16) y) : K 4 [(0, .inr 15), (1, .inl x), (2, .inl y), (3, .inl t)] [] M := by
  have f1 := hF y hy.2.1 hy.2.2
  refine k_iload_n C dX6_standing_4 rfl rfl ?_
  refine k_sipush C dX6_standing_5 (by decide) ?_
  refine k_icmp_ge C (tgt := 48) dX6_standing_8 rfl (by omega) (by omega) (fun c8 => ?_) (fun c8 => ?_)
  · refine k_iload_n C dX6_standing_48 rfl rfl ?_
    refine k_if_lt C (tgt := 63) dX6_standing_49 rfl (by omega) (fun c49 => ?_) (fun c49 => ?_)
    · refine k_iconst C dX6_standing_63 ?_
      exact k_iret C dX6_standing_64 (by omega) (fun _ => by
        refine ⟨rfl, Or.inr ⟨hy.1, ?_⟩⟩
        first | (rw [he]; exact (rt_self c29).symm) | (exfalso; omega))
    · refine k_iload_n C dX6_standing_52 rfl rfl ?_
      refine k_sipush C dX6_standing_53 (by decide) ?_
      refine k_icmp_ge C (tgt := 63) dX6_standing_56 rfl (by omega) (by omega) (fun c56 => ?_) (fun c56 => ?_)
      · refine k_iconst C dX6_standing_63 ?_
        exact k_iret C dX6_standing_64 (by omega) (fun _ => by
        refine ⟨rfl, Or.inr ⟨hy.1, ?_⟩⟩
        first | (rw [he]; exact (rt_self c29).symm) | (exfalso; omega))
      · refine k_iload_n C dX6_standing_59 rfl rfl ?_
        refine k_goto C (tgt := 64) dX6_standing_60 rfl ?_
        exact k_iret C dX6_standing_64 (by omega) (fun _ => by
        refine ⟨rfl, Or.inr ⟨hy.1, ?_⟩⟩
        first | (rw [he]; exact (rt_self c29).symm) | (exfalso; omega))
  · refine k_iload_n C dX6_standing_11 rfl rfl ?_
    refine k_if_lt C (tgt := 48) dX6_standing_12 rfl (by omega) (fun c12 => ?_) (fun c12 => ?_)
    · refine k_iload_n C dX6_standing_48 rfl rfl ?_
      refine k_if_lt C (tgt := 63) dX6_standing_49 rfl (by omega) (fun c49 => ?_) (fun c49 => ?_)
      · refine k_iconst C dX6_standing_63 ?_
        exact k_iret C dX6_standing_64 (by omega) (fun _ => by
        refine ⟨rfl, Or.inr ⟨hy.1, ?_⟩⟩
        first | (rw [he]; exact (rt_self c29).symm) | (exfalso; omega))
      · refine k_iload_n C dX6_standing_52 rfl rfl ?_
        refine k_sipush C dX6_standing_53 (by decide) ?_
        refine k_icmp_ge C (tgt := 63) dX6_standing_56 rfl (by omega) (by omega) (fun c56 => ?_) (fun c56 => ?_)
        · refine k_iconst C dX6_standing_63 ?_
          exact k_iret C dX6_standing_64 (by omega) (fun _ => by
        refine ⟨rfl, Or.inr ⟨hy.1, ?_⟩⟩
        first | (rw [he]; exact (rt_self c29).symm) | (exfalso; omega))
        · refine k_iload_n C dX6_standing_59 rfl rfl ?_
          refine k_goto C (tgt := 64) dX6_standing_60 rfl ?_
          exact k_iret C dX6_standing_64 (by omega) (fun _ => by
        refine ⟨rfl, Or.inr ⟨hy.1, ?_⟩⟩
        first | (rw [he]; exact (rt_self c29).symm) | (exfalso; omega))
    · refine k_iload_n C dX6_standing_15 rfl rfl ?_
      refine k_sipush C dX6_standing_16 (by decide) ?_
      refine k_icmp_ge C (tgt := 48) dX6_standing_19 rfl (by omega) (by omega) (fun c19 => ?_) (fun c19 => ?_)
      · refine k_iload_n C dX6_standing_48 rfl rfl ?_
        refine k_if_lt C (tgt := 63) dX6_standing_49 rfl (by omega) (fun c49 => ?_) (fun c49 => ?_)
        · refine k_iconst C dX6_standing_63 ?_
          exact k_iret C dX6_standing_64 (by omega) (fun _ => by
        refine ⟨rfl, Or.inr ⟨hy.1, ?_⟩⟩
        first | (rw [he]; exact (rt_self c29).symm) | (exfalso; omega))
        · refine k_iload_n C dX6_standing_52 rfl rfl ?_
          refine k_sipush C dX6_standing_53 (by decide) ?_
          refine k_icmp_ge C (tgt := 63) dX6_standing_56 rfl (by omega) (by omega) (fun c56 => ?_) (fun c56 => ?_)
          · refine k_iconst C dX6_standing_63 ?_
            exact k_iret C dX6_standing_64 (by omega) (fun _ => by
        refine ⟨rfl, Or.inr ⟨hy.1, ?_⟩⟩
        first | (rw [he]; exact (rt_self c29).symm) | (exfalso; omega))
          · refine k_iload_n C dX6_standing_59 rfl rfl ?_
            refine k_goto C (tgt := 64) dX6_standing_60 rfl ?_
            exact k_iret C dX6_standing_64 (by omega) (fun _ => by
        refine ⟨rfl, Or.inr ⟨hy.1, ?_⟩⟩
        first | (rw [he]; exact (rt_self c29).symm) | (exfalso; omega))
      · refine k_aload_n C dX6_standing_22 rfl rfl ?_
        refine k_getR C (j := 2) okC6 rfl (by decide) (by decide) rfl flX6_9 dX6_standing_23 ?_
        refine k_iload_n C dX6_standing_26 rfl rfl ?_
        refine k_iaload C rfl (by decide) (by decide) ⟨by omega, by omega⟩ dX6_standing_27 (fun ld27 => ?_)
        refine k_iload_n C dX6_standing_28 rfl rfl ?_
        refine k_icmp_ne C (tgt := 35) dX6_standing_29 rfl (by omega) (by omega) (fun c29 => ?_) (fun c29 => ?_)
        · refine k_aload_n C dX6_standing_35 rfl rfl ?_
          refine k_getR C (j := 2) okC6 rfl (by decide) (by decide) rfl flX6_9 dX6_standing_36 ?_
          refine k_iload_n C dX6_standing_39 rfl rfl ?_
          refine k_iaload C rfl (by decide) (by decide) ⟨by omega, by omega⟩ dX6_standing_40 (fun ld40 => ?_)
          refine k_istore_n C dX6_standing_41 rfl (by decide) ?_
          refine k_iinc C dX6_standing_42 (by decide) rfl ?_
          refine k_goto C (tgt := 4) dX6_standing_45 rfl ?_
          refine k_cut2 C (lv' := [(0, _), (1, _), (2, _), (3, _)]) ⟨rfl, rfl, rfl, rfl, trivial⟩ ?_
          exact l_standing M m hm hF x hx C (M 16 y) (t + 1) (by omega) (by omega) (by rw [he]; exact rt_go hF hy.2.1 hy.2.2)
        · refine k_goto C (tgt := 48) dX6_standing_32 rfl ?_
          refine k_iload_n C dX6_standing_48 rfl rfl ?_
          refine k_if_lt C (tgt := 63) dX6_standing_49 rfl (by omega) (fun c49 => ?_) (fun c49 => ?_)
          · refine k_iconst C dX6_standing_63 ?_
            exact k_iret C dX6_standing_64 (by omega) (fun _ => by
        refine ⟨rfl, Or.inr ⟨hy.1, ?_⟩⟩
        first | (rw [he]; exact (rt_self c29).symm) | (exfalso; omega))
          · refine k_iload_n C dX6_standing_52 rfl rfl ?_
            refine k_sipush C dX6_standing_53 (by decide) ?_
            refine k_icmp_ge C (tgt := 63) dX6_standing_56 rfl (by omega) (by omega) (fun c56 => ?_) (fun c56 => ?_)
            · refine k_iconst C dX6_standing_63 ?_
              exact k_iret C dX6_standing_64 (by omega) (fun _ => by
        refine ⟨rfl, Or.inr ⟨hy.1, ?_⟩⟩
        first | (rw [he]; exact (rt_self c29).symm) | (exfalso; omega))
            · refine k_iload_n C dX6_standing_59 rfl rfl ?_
              refine k_goto C (tgt := 64) dX6_standing_60 rfl ?_
              exact k_iret C dX6_standing_64 (by omega) (fun _ => by
        refine ⟨rfl, Or.inr ⟨hy.1, ?_⟩⟩
        first | (rw [he]; exact (rt_self c29).symm) | (exfalso; omega))
termination_by y.toNat
decreasing_by all_goals omega
set_option maxHeartbeats 4000000 in
set_option maxRecDepth 100000 in
theorem c_standing (M : Mem) (m : Int) (hm : m ≤ 721) (hF : Fo m (M 16)) (x : Int) (hx : -1 ≤ x ∧ x < m) : Ct shC nC yX6_standing cX6_standing 4 (some .int) (lvl 0) [.inr 15, .inl x] M (fun r M' => M = M' ∧ ((x = -1 ∧ r = -1) ∨ (0 ≤ x ∧ r = rt (M 16) x))) := by
  refine Ct_of (by decide +kernel) (Nat.le_of_ble_eq_true rfl) (fun K C => ?_)
  by_cases h0 : 0 ≤ x
  · refine k_iload_n C dX6_standing_0 rfl rfl ?_
    refine k_istore_n C dX6_standing_1 rfl (by decide) ?_
    refine k_iconst C dX6_standing_2 ?_
    refine k_istore_n C dX6_standing_3 rfl (by decide) ?_
    refine k_cut2 C (lv' := [(0, _), (1, _), (2, _), (3, _)]) ⟨rfl, rfl, rfl, rfl, trivial⟩ ?_
    exact l_standing M m hm hF x hx C x 0 (by omega) (by omega) rfl
  · have e : x = -1 := by omega
    subst e
    refine k_iload_n C dX6_standing_0 rfl rfl ?_
    refine k_istore_n C dX6_standing_1 rfl (by decide) ?_
    refine k_iconst C dX6_standing_2 ?_
    refine k_istore_n C dX6_standing_3 rfl (by decide) ?_
    skip
    refine k_iload_n C dX6_standing_4 rfl rfl ?_
    refine k_sipush C dX6_standing_5 (by decide) ?_
    refine k_icmp_ge C (tgt := 48) dX6_standing_8 rfl (by omega) (by omega) (fun c8 => ?_) (fun c8 => ?_)
    · refine k_iload_n C dX6_standing_48 rfl rfl ?_
      refine k_if_lt C (tgt := 63) dX6_standing_49 rfl (by omega) (fun c49 => ?_) (fun c49 => ?_)
      · refine k_iconst C dX6_standing_63 ?_
        exact k_iret C dX6_standing_64 (by omega) (fun _ => ⟨rfl, Or.inl ⟨rfl, by first | rfl | (exfalso; omega)⟩⟩)
      · refine k_iload_n C dX6_standing_52 rfl rfl ?_
        refine k_sipush C dX6_standing_53 (by decide) ?_
        refine k_icmp_ge C (tgt := 63) dX6_standing_56 rfl (by omega) (by omega) (fun c56 => ?_) (fun c56 => ?_)
        · refine k_iconst C dX6_standing_63 ?_
          exact k_iret C dX6_standing_64 (by omega) (fun _ => ⟨rfl, Or.inl ⟨rfl, by first | rfl | (exfalso; omega)⟩⟩)
        · refine k_iload_n C dX6_standing_59 rfl rfl ?_
          refine k_goto C (tgt := 64) dX6_standing_60 rfl ?_
          exact k_iret C dX6_standing_64 (by omega) (fun _ => ⟨rfl, Or.inl ⟨rfl, by first | rfl | (exfalso; omega)⟩⟩)
    · refine k_iload_n C dX6_standing_11 rfl rfl ?_
      refine k_if_lt C (tgt := 48) dX6_standing_12 rfl (by omega) (fun c12 => ?_) (fun c12 => ?_)
      · refine k_iload_n C dX6_standing_48 rfl rfl ?_
        refine k_if_lt C (tgt := 63) dX6_standing_49 rfl (by omega) (fun c49 => ?_) (fun c49 => ?_)
        · refine k_iconst C dX6_standing_63 ?_
          exact k_iret C dX6_standing_64 (by omega) (fun _ => ⟨rfl, Or.inl ⟨rfl, by first | rfl | (exfalso; omega)⟩⟩)
        · refine k_iload_n C dX6_standing_52 rfl rfl ?_
          refine k_sipush C dX6_standing_53 (by decide) ?_
          refine k_icmp_ge C (tgt := 63) dX6_standing_56 rfl (by omega) (by omega) (fun c56 => ?_) (fun c56 => ?_)
          · refine k_iconst C dX6_standing_63 ?_
            exact k_iret C dX6_standing_64 (by omega) (fun _ => ⟨rfl, Or.inl ⟨rfl, by first | rfl | (exfalso; omega)⟩⟩)
          · refine k_iload_n C dX6_standing_59 rfl rfl ?_
            refine k_goto C (tgt := 64) dX6_standing_60 rfl ?_
            exact k_iret C dX6_standing_64 (by omega) (fun _ => ⟨rfl, Or.inl ⟨rfl, by first | rfl | (exfalso; omega)⟩⟩)
      · refine k_iload_n C dX6_standing_15 rfl rfl ?_
        refine k_sipush C dX6_standing_16 (by decide) ?_
        refine k_icmp_ge C (tgt := 48) dX6_standing_19 rfl (by omega) (by omega) (fun c19 => ?_) (fun c19 => ?_)
        · refine k_iload_n C dX6_standing_48 rfl rfl ?_
          refine k_if_lt C (tgt := 63) dX6_standing_49 rfl (by omega) (fun c49 => ?_) (fun c49 => ?_)
          · refine k_iconst C dX6_standing_63 ?_
            exact k_iret C dX6_standing_64 (by omega) (fun _ => ⟨rfl, Or.inl ⟨rfl, by first | rfl | (exfalso; omega)⟩⟩)
          · refine k_iload_n C dX6_standing_52 rfl rfl ?_
            refine k_sipush C dX6_standing_53 (by decide) ?_
            refine k_icmp_ge C (tgt := 63) dX6_standing_56 rfl (by omega) (by omega) (fun c56 => ?_) (fun c56 => ?_)
            · refine k_iconst C dX6_standing_63 ?_
              exact k_iret C dX6_standing_64 (by omega) (fun _ => ⟨rfl, Or.inl ⟨rfl, by first | rfl | (exfalso; omega)⟩⟩)
            · refine k_iload_n C dX6_standing_59 rfl rfl ?_
              refine k_goto C (tgt := 64) dX6_standing_60 rfl ?_
              exact k_iret C dX6_standing_64 (by omega) (fun _ => ⟨rfl, Or.inl ⟨rfl, by first | rfl | (exfalso; omega)⟩⟩)
        · exfalso; omega
set_option maxHeartbeats 4000000 in
set_option maxRecDepth 100000 in
theorem m_leastOf {K : Kt} (bl : Nat) (M : Mem) (m : Int) (hm : m ≤ 722) (hF : Fo m (M 13)) (x : Int) (hx : 0 ≤ x ∧ x < m) (C : Ctx (shM bl) nM RX11 cX11_leastOf 3 (some .int) (lvl 0) (fun r M' => M = M' ∧ r = rt (M 13) x) K) (y : Int) (hy : 0 ≤ y ∧ y < m) (he : rt (M 13) x = rt (M 13) y) : K 2 [(0, .inr 0), (1, .inl x), (2, .inl y)] [] M := by
  have f1 := hF y hy.1 hy.2
  refine k_aload_n C dX11_leastOf_2 rfl rfl ?_
  refine k_getR C (j := 16) okC11 rfl (by decide) (by decide) rfl flX11_47 dX11_leastOf_3 ?_
  refine k_iload_n C dX11_leastOf_6 rfl rfl ?_
  refine k_iaload C rfl (by decide) (by decide) ⟨by omega, by omega⟩ dX11_leastOf_7 (fun ld7 => ?_)
  refine k_iload_n C dX11_leastOf_8 rfl rfl ?_
  refine k_icmp_eq C (tgt := 22) dX11_leastOf_9 rfl (by omega) (by omega) (fun c9 => ?_) (fun c9 => ?_)
  · refine k_iload_n C dX11_leastOf_22 rfl rfl ?_
    exact k_iret C dX11_leastOf_23 (by omega) (fun _ => ⟨rfl, by rw [he]; exact (rt_self c9).symm⟩)
  · refine k_aload_n C dX11_leastOf_12 rfl rfl ?_
    refine k_getR C (j := 16) okC11 rfl (by decide) (by decide) rfl flX11_47 dX11_leastOf_13 ?_
    refine k_iload_n C dX11_leastOf_16 rfl rfl ?_
    refine k_iaload C rfl (by decide) (by decide) ⟨by omega, by omega⟩ dX11_leastOf_17 (fun ld17 => ?_)
    refine k_istore_n C dX11_leastOf_18 rfl (by decide) ?_
    refine k_goto C (tgt := 2) dX11_leastOf_19 rfl ?_
    refine k_cut2 C (lv' := [(0, _), (1, _), (2, _)]) ⟨rfl, rfl, rfl, trivial⟩ ?_
    exact m_leastOf bl M m hm hF x hx C (M 13 y) (by omega) (by rw [he]; exact rt_go hF hy.1 hy.2)
termination_by y.toNat
decreasing_by all_goals omega
set_option maxHeartbeats 4000000 in
set_option maxRecDepth 100000 in
theorem c_M_leastOf (bl : Nat) (M : Mem) (m : Int) (hm : m ≤ 722) (hF : Fo m (M 13)) (x : Int) (hx : 0 ≤ x ∧ x < m) : Ct (shM bl) nM yX11_leastOf cX11_leastOf 3 (some .int) (lvl 0) [.inr 0, .inl x] M (fun r M' => M = M' ∧ r = rt (M 13) x) := by
  refine Ct_of (by decide +kernel) (Nat.le_of_ble_eq_true rfl) (fun K C => ?_)
  refine k_iload_n C dX11_leastOf_0 rfl rfl ?_
  refine k_istore_n C dX11_leastOf_1 rfl (by decide) ?_
  refine k_cut2 C (lv' := [(0, _), (1, _), (2, _)]) ⟨rfl, rfl, rfl, trivial⟩ ?_
  exact m_leastOf bl M m hm hF x hx C x hx rfl
set_option maxHeartbeats 4000000 in
set_option maxRecDepth 100000 in
theorem c_addPair (M : Mem) (hs : 0 ≤ M 15 10 ∧ M 15 10 < 721) (a b : Int) (ha : inR a) (hb : inR b) : Ct shC nC yX6_addPair cX6_addPair 3 none (lvl 0) [.inr 15, .inl a, .inl b] M (fun _ M' => M' = up (up (up M 19 (M 15 10) a) 20 (M 15 10) b) 15 10 (M 15 10 + 1)) := by
  refine Ct_of (by decide +kernel) (Nat.le_of_ble_eq_true rfl) (fun K C => ?_)
  refine k_aload_n C dX6_addPair_0 rfl rfl ?_
  refine k_getJ C 10 10 rfl okC6 rfl (by decide) (by decide) rfl flX6_97 dX6_addPair_1 (fun ld1 => ?_)
  refine k_if_lt C (tgt := 47) dX6_addPair_4 rfl (by omega) (fun c4 => ?_) (fun c4 => ?_)
  · exact k_vret C dX6_addPair_47 (fun _ => by first | rfl | (exfalso; omega))
  · refine k_aload_n C dX6_addPair_7 rfl rfl ?_
    refine k_getJ C 10 10 rfl okC6 rfl (by decide) (by decide) rfl flX6_97 dX6_addPair_8 (fun ld8 => ?_)
    refine k_sipush C dX6_addPair_11 (by decide) ?_
    refine k_icmp_ge C (tgt := 47) dX6_addPair_14 rfl (by omega) (by omega) (fun c14 => ?_) (fun c14 => ?_)
    · exact k_vret C dX6_addPair_47 (fun _ => by first | rfl | (exfalso; omega))
    · refine k_aload_n C dX6_addPair_17 rfl rfl ?_
      refine k_getR C (j := 5) okC6 rfl (by decide) (by decide) rfl flX6_21 dX6_addPair_18 ?_
      refine k_aload_n C dX6_addPair_21 rfl rfl ?_
      refine k_getJ C 10 10 rfl okC6 rfl (by decide) (by decide) rfl flX6_97 dX6_addPair_22 (fun ld22 => ?_)
      refine k_iload_n C dX6_addPair_25 rfl rfl ?_
      refine k_iastore C rfl (by decide) (by decide) ⟨by omega, by omega⟩ (by omega) dX6_addPair_26 ?_
      refine k_aload_n C dX6_addPair_27 rfl rfl ?_
      refine k_getR C (j := 6) okC6 rfl (by decide) (by decide) rfl flX6_24 dX6_addPair_28 ?_
      refine k_aload_n C dX6_addPair_31 rfl rfl ?_
      refine k_getJ C 10 10 rfl okC6 rfl (by decide) (by decide) rfl flX6_97 dX6_addPair_32 (fun ld32 => ?_)
      rw [up_ne (show (15 : Nat) ≠ 19 by decide)]
      refine k_iload_n C dX6_addPair_35 rfl rfl ?_
      refine k_iastore C rfl (by decide) (by decide) ⟨by omega, by omega⟩ (by omega) dX6_addPair_36 ?_
      refine k_aload_n C dX6_addPair_37 rfl rfl ?_
      refine k_dup C dX6_addPair_38 ?_
      refine k_getJ C 10 10 rfl okC6 rfl (by decide) (by decide) rfl flX6_97 dX6_addPair_39 (fun ld39 => ?_)
      rw [up_ne (show (15 : Nat) ≠ 20 by decide), up_ne (show (15 : Nat) ≠ 19 by decide)]
      refine k_iconst C dX6_addPair_42 ?_
      refine k_iadd C dX6_addPair_43 ?_
      refine k_putJ C 10 10 rfl okC6 rfl (by decide) (by decide) rfl rfl rfl (by omega) flX6_97 dX6_addPair_44 ?_
      exact k_vret C dX6_addPair_47 (fun _ => by first | rfl | (exfalso; omega))
set_option maxHeartbeats 4000000 in
set_option maxRecDepth 100000 in
theorem c_stateAt (M : Mem) (k : Int) (hk : 0 ≤ k ∧ k < 16) : Ct shC nC yX1_stateAt cX1_stateAt 2 (some .int) (lvl 0) [.inr 26, .inl k] M (fun r M' => M = M' ∧ r = M 28 k) := by
  refine Ct_of (by decide +kernel) (Nat.le_of_ble_eq_true rfl) (fun K C => ?_)
  refine k_iload_n C dX1_stateAt_0 rfl rfl ?_
  refine k_if_lt C (tgt := 19) dX1_stateAt_1 rfl (by omega) (fun c1 => ?_) (fun c1 => ?_)
  · refine k_iconst C dX1_stateAt_19 ?_
    exact k_iret C dX1_stateAt_20 (by omega) (fun _ => ⟨rfl, by first | rfl | (exfalso; omega)⟩)
  · refine k_iload_n C dX1_stateAt_4 rfl rfl ?_
    refine k_bipush C dX1_stateAt_5 (by decide) ?_
    refine k_icmp_ge C (tgt := 19) dX1_stateAt_7 rfl (by omega) (by omega) (fun c7 => ?_) (fun c7 => ?_)
    · refine k_iconst C dX1_stateAt_19 ?_
      exact k_iret C dX1_stateAt_20 (by omega) (fun _ => ⟨rfl, by first | rfl | (exfalso; omega)⟩)
    · refine k_aload_n C dX1_stateAt_10 rfl rfl ?_
      refine k_getR C (j := 3) okC1 rfl (by decide) (by decide) rfl flX1_15 dX1_stateAt_11 ?_
      refine k_iload_n C dX1_stateAt_14 rfl rfl ?_
      refine k_iaload C rfl (by decide) (by decide) ⟨by omega, by omega⟩ dX1_stateAt_15 (fun ld15 => ?_)
      refine k_goto C (tgt := 20) dX1_stateAt_16 rfl ?_
      exact k_iret C dX1_stateAt_20 (by omega) (fun _ => ⟨rfl, by first | rfl | (exfalso; omega)⟩)
set_option maxHeartbeats 4000000 in
set_option maxRecDepth 100000 in
theorem c_slotOf (M : Mem) (s c : Int) (hs : inR s) (hc : inR c) : Ct shC nC yX1_slotOf cX1_slotOf 2 (some .int) (lvl 1) [.inl s, .inl c] M (fun r M' => M = M' ∧ (((0 ≤ s ∧ s < 3 ∧ 0 ≤ c ∧ c < 8) ∧ r = 8 * s + c) ∨ (¬ (0 ≤ s ∧ s < 3 ∧ 0 ≤ c ∧ c < 8) ∧ r = -1))) := by
  refine Ct_of (by decide +kernel) (Nat.le_of_ble_eq_true rfl) (fun K C => ?_)
  refine k_iload_n C dX1_slotOf_0 rfl rfl ?_
  refine k_if_lt C (tgt := 25) dX1_slotOf_1 rfl (by omega) (fun c1 => ?_) (fun c1 => ?_)
  · refine k_iconst C dX1_slotOf_25 ?_
    exact k_iret C dX1_slotOf_26 (by omega) (fun _ => ⟨rfl, by omega⟩)
  · refine k_iload_n C dX1_slotOf_4 rfl rfl ?_
    refine k_iconst C dX1_slotOf_5 ?_
    refine k_icmp_ge C (tgt := 25) dX1_slotOf_6 rfl (by omega) (by omega) (fun c6 => ?_) (fun c6 => ?_)
    · refine k_iconst C dX1_slotOf_25 ?_
      exact k_iret C dX1_slotOf_26 (by omega) (fun _ => ⟨rfl, by omega⟩)
    · refine k_iload_n C dX1_slotOf_9 rfl rfl ?_
      refine k_callN C okX1_83 dX1_slotOf_10 (c_isCall M c (by omega)) rfl (by decide) rfl (Nat.le_of_ble_eq_true rfl) (fun r10 M10 hr10 hp10 => ?_)
      obtain ⟨rfl, hp10⟩ := hp10
      refine k_if_eq C (tgt := 25) dX1_slotOf_13 rfl (by omega) (fun c13 => ?_) (fun c13 => ?_)
      · refine k_iconst C dX1_slotOf_25 ?_
        exact k_iret C dX1_slotOf_26 (by omega) (fun _ => ⟨rfl, by omega⟩)
      · refine k_iload_n C dX1_slotOf_16 rfl rfl ?_
        refine k_bipush C dX1_slotOf_17 (by decide) ?_
        refine k_imul C dX1_slotOf_19 ?_
        refine k_iload_n C dX1_slotOf_20 rfl rfl ?_
        refine k_iadd C dX1_slotOf_21 ?_
        refine k_goto C (tgt := 26) dX1_slotOf_22 rfl ?_
        exact k_iret C dX1_slotOf_26 (by omega) (fun _ => ⟨rfl, by omega⟩)
set_option maxHeartbeats 4000000 in
set_option maxRecDepth 100000 in
theorem c_slotInto (M : Mem) (k : Int) (hk : 1 ≤ k ∧ k < 16) (hp : 0 ≤ M 11 k ∧ M 11 k < 16) (hc : 0 ≤ M 12 k ∧ M 12 k < 8) (hs : 0 ≤ M 28 (M 11 k) ∧ M 28 (M 11 k) < 3) : Ct shC nC yX1_slotInto cX1_slotInto 2 (some .int) (lvl 2) [.inr 26, .inl k] M (fun r M' => M = M' ∧ r = 8 * M 28 (M 11 k) + M 12 k) := by
  refine Ct_of (by decide +kernel) (Nat.le_of_ble_eq_true rfl) (fun K C => ?_)
  refine k_iload_n C dX1_slotInto_0 rfl rfl ?_
  refine k_if_lt C (tgt := 10) dX1_slotInto_1 rfl (by omega) (fun c1 => ?_) (fun c1 => ?_)
  · refine k_iconst C dX1_slotInto_10 ?_
    exact k_iret C dX1_slotInto_11 (by omega) (fun _ => by exfalso; omega)
  · refine k_iload_n C dX1_slotInto_4 rfl rfl ?_
    refine k_bipush C dX1_slotInto_5 (by decide) ?_
    refine k_icmp_lt C (tgt := 12) dX1_slotInto_7 rfl (by omega) (by omega) (fun c7 => ?_) (fun c7 => ?_)
    · refine k_aload_n C dX1_slotInto_12 rfl rfl ?_
      refine k_aload_n C dX1_slotInto_13 rfl rfl ?_
      refine k_getR C (j := 1) okC1 rfl (by decide) (by decide) rfl flX1_22 dX1_slotInto_14 ?_
      refine k_getR C (j := 2) okC9 rfl (by decide) (by decide) rfl flX1_71 dX1_slotInto_17 ?_
      refine k_iload_n C dX1_slotInto_20 rfl rfl ?_
      refine k_iaload C rfl (by decide) (by decide) ⟨by omega, by omega⟩ dX1_slotInto_21 (fun ld21 => ?_)
      refine k_callV C okX1_74 dX1_slotInto_22 (c_stateAt M (M 11 k) hp) rfl rfl (by decide) rfl (by decide) rfl (Nat.le_of_ble_eq_true rfl) (fun r22 M22 hr22 hp22 => ?_)
      obtain ⟨rfl, rfl⟩ := hp22
      refine k_aload_n C dX1_slotInto_25 rfl rfl ?_
      refine k_getR C (j := 1) okC1 rfl (by decide) (by decide) rfl flX1_22 dX1_slotInto_26 ?_
      refine k_getR C (j := 3) okC9 rfl (by decide) (by decide) rfl flX1_77 dX1_slotInto_29 ?_
      refine k_iload_n C dX1_slotInto_32 rfl rfl ?_
      refine k_iaload C rfl (by decide) (by decide) ⟨by omega, by omega⟩ dX1_slotInto_33 (fun ld33 => ?_)
      refine k_callS C okX1_80 dX1_slotInto_34 (c_slotOf M (M 28 (M 11 k)) (M 12 k) (by omega) (by omega)) rfl (by decide) rfl (Nat.le_of_ble_eq_true rfl) (fun r34 M34 hr34 hp34 => ?_)
      obtain ⟨rfl, hp34⟩ := hp34
      exact k_iret C dX1_slotInto_37 (by omega) (fun _ => ⟨rfl, by omega⟩)
    · refine k_iconst C dX1_slotInto_10 ?_
      exact k_iret C dX1_slotInto_11 (by omega) (fun _ => by exfalso; omega)
