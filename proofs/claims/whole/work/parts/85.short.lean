/-! UsageDesk$Melter.shortenWays: every way straight to its root -/
def shI (it it' : Int → Int) (m x : Int) : Prop := (∀ y, 0 ≤ y → y < x → it' y = rt it y) ∧ ∀ y, x ≤ y → y < m → it' y = it y
theorem shI_fo {it it' : Int → Int} {m x : Int} (hF : Fo m it) (h : shI it it' m x) (hx : x ≤ m) : Fo m it' := by
  intro y a b
  by_cases c : y < x
  · rw [h.1 y a c]; have := rt_ok hF a b; exact ⟨this.1, this.2.1⟩
  · rw [h.2 y (by omega) b]; exact hF y a b
theorem shI_rt {it it' : Int → Int} {m x : Int} (hF : Fo m it) (h : shI it it' m x) (hx : 0 ≤ x ∧ x < m) : rt it' x = rt it x := by
  have hF' := shI_fo hF h (by omega)
  have e : it' x = it x := h.2 x (Int.le_refl _) hx.2
  by_cases c : it x = x
  · rw [rt_self c, rt_self (by rw [e]; exact c)]
  · have f := hF x hx.1 hx.2
    rw [rt_go hF' hx.1 hx.2, e, rt_go hF hx.1 hx.2]
    have g := rt_ok hF f.1 (by omega)
    have e2 : it' (it x) = rt it (it x) := h.1 _ f.1 (by omega)
    rw [rt_go hF' f.1 (by omega), e2]
    have e3 : it' (rt it (it x)) = rt it (rt it (it x)) := h.1 _ g.1 (by omega)
    have e4 : rt it (rt it (it x)) = rt it (it x) := rt_self g.2.2
    exact rt_self (by rw [e3, e4])
set_option maxHeartbeats 4000000 in
set_option maxRecDepth 100000 in
theorem l_short {K : Kt} (M : Mem) (hm : 0 ≤ M 9 6 ∧ M 9 6 ≤ 721) (hF : Fo (M 9 6) (M 16)) (C : Ctx shC nC RX6 cX6_shortenWays 2 none (lvl 1) (fun _ M' => (∀ j, j ≠ 16 → M' j = M j) ∧ shI (M 16) (M' 16) (M 9 6) (M 9 6)) K) (N : Mem) (hN : ∀ j, j ≠ 16 → N j = M j) (x : Int) (hx : 0 ≤ x ∧ x ≤ M 9 6) (hI : shI (M 16) (N 16) (M 9 6) x) : K 2 [(0, .inr 15), (1, .inl x)] [] N := by
  have n9 := hN 9 (by decide)
  refine k_iload_n C dX6_shortenWays_2 rfl rfl ?_
  refine k_aload_n C dX6_shortenWays_3 rfl rfl ?_
  refine k_getR C (j := 1) okC6 rfl (by decide) (by decide) rfl flX6_37 dX6_shortenWays_4 ?_
  refine k_getJ C 6 6 rfl okC9 rfl (by decide) (by decide) rfl flX6_46 dX6_shortenWays_7 (fun ld7 => ?_)
  rw [n9] at ld7 ⊢
  refine k_icmp_ge C (tgt := 37) dX6_shortenWays_10 rfl (by omega) (by omega) (fun c10 => ?_) (fun c10 => ?_)
  · exact k_vret C dX6_shortenWays_37 (fun _ => ⟨hN, by rw [show x = M 9 6 by omega] at hI; exact hI⟩)
  · refine k_iload_n C dX6_shortenWays_13 rfl rfl ?_
    refine k_sipush C dX6_shortenWays_14 (by decide) ?_
    refine k_icmp_ge C (tgt := 37) dX6_shortenWays_17 rfl (by omega) (by omega) (fun c17 => ?_) (fun c17 => ?_)
    · exact k_vret C dX6_shortenWays_37 (fun _ => ⟨hN, by rw [show x = M 9 6 by omega] at hI; exact hI⟩)
    · refine k_aload_n C dX6_shortenWays_20 rfl rfl ?_
      refine k_getR C (j := 2) okC6 rfl (by decide) (by decide) rfl flX6_9 dX6_shortenWays_21 ?_
      refine k_iload_n C dX6_shortenWays_24 rfl rfl ?_
      refine k_aload_n C dX6_shortenWays_25 rfl rfl ?_
      refine k_iload_n C dX6_shortenWays_26 rfl rfl ?_
      refine k_callV C okX6_69 dX6_shortenWays_27 (c_standing N (M 9 6) (by omega) (shI_fo hF hI hx.2) x (by omega)) rfl rfl (by decide) rfl (by decide) rfl (Nat.le_of_ble_eq_true rfl) (fun r27 M27 hr27 hp27 => ?_)
      obtain ⟨rfl, hp27⟩ := hp27
      have e27 : r27 = rt (M 16) x := by rcases hp27 with z | z; (exfalso; omega); rw [z.2]; exact shI_rt hF hI ⟨hx.1, c10⟩
      subst e27
      refine k_iastore C rfl (by decide) (by decide) ⟨by omega, by omega⟩ (by omega) dX6_shortenWays_30 ?_
      refine k_iinc C dX6_shortenWays_31 (by decide) rfl ?_
      refine k_goto C (tgt := 2) dX6_shortenWays_34 rfl ?_
      refine k_cut2 C (lv' := [(0, _), (1, _)]) ⟨rfl, rfl, trivial⟩ ?_
      refine l_short M hm hF C _ (fun j z => by rw [up_ne z, hN j z]) (x + 1) (by omega) ⟨fun y z1 z2 => ?_, fun y z1 z2 => ?_⟩
      · rw [up_at]
        by_cases e : y = x
        · rw [if_pos e, e]
        · rw [if_neg e]; exact hI.1 y z1 (by omega)
      · rw [up_at, if_neg (by omega)]; exact hI.2 y (by omega) z2
termination_by (M 9 6 - x).toNat
decreasing_by all_goals omega
set_option maxHeartbeats 4000000 in
set_option maxRecDepth 100000 in
theorem c_short (M : Mem) (hm : 0 ≤ M 9 6 ∧ M 9 6 ≤ 721) (hF : Fo (M 9 6) (M 16)) : Ct shC nC yX6_shortenWays cX6_shortenWays 2 none (lvl 1) [.inr 15] M (fun _ M' => (∀ j, j ≠ 16 → M' j = M j) ∧ shI (M 16) (M' 16) (M 9 6) (M 9 6)) := by
  refine Ct_of (by decide +kernel) (Nat.le_of_ble_eq_true rfl) (fun K C => ?_)
  refine k_iconst C dX6_shortenWays_0 ?_
  refine k_istore_n C dX6_shortenWays_1 rfl (by decide) ?_
  refine k_cut2 C (lv' := [(0, _), (1, _)]) ⟨rfl, rfl, trivial⟩ ?_
  exact l_short M hm hF C M (fun _ _ => rfl) 0 (by omega) ⟨fun y z1 z2 => by omega, fun y _ _ => rfl⟩
