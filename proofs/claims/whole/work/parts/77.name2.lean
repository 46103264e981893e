/-! UsageDesk$Tree.nameChildren -/
set_option maxHeartbeats 4000000 in
set_option maxRecDepth 100000 in
theorem l_name2 {K : Kt} (M : Mem) (ls le : Int) (hl : 0 ≤ ls ∧ ls ≤ le ∧ le ≤ 721) (hcap : ∀ (N : Mem) (k c : Int), NmI M N ls le k c → 0 ≤ k → ls ≤ k → k < le → 0 ≤ c → c < 8 → N 10 (8 * k + c) = -2 → N 9 6 < 721) (C : Ctx shC nC RX9 cX9_nameChildren 5 none (lvl 1) (fun _ M' => NmI M M' ls le le 0) K) (k : Int) (hk : ls ≤ k ∧ k < le) (kk : ∀ N : Mem, NmI M N ls le (k + 1) 0 → K 66 [(0, .inr 9), (1, .inl ls), (2, .inl le), (3, .inl k)] [] N) (N : Mem) (c : Int) (hc : 0 ≤ c ∧ c ≤ 8) (hI : NmI M N ls le k c) : K 17 [(0, .inr 9), (1, .inl ls), (2, .inl le), (3, .inl k), (4, .inl c)] [] N := by
  have hsz := hI.2.1
  refine k_iload C dX9_nameChildren_17 rfl ?_
  refine k_bipush C dX9_nameChildren_19 (by decide) ?_
  refine k_icmp_ge C (tgt := 66) dX9_nameChildren_21 rfl (by omega) (by omega) (fun c21 => ?_) (fun c21 => ?_)
  · refine k_cut2 C (lv' := [(0, _), (1, _), (2, _), (3, _)]) ⟨rfl, rfl, rfl, rfl, trivial⟩ ?_
    exact kk N (NmI_n (by rw [show (8 : Int) = c by omega]; exact hI))
  · refine k_aload_n C dX9_nameChildren_24 rfl rfl ?_
    refine k_getR C (j := 1) okC9 rfl (by decide) (by decide) rfl flX9_9 dX9_nameChildren_25 ?_
    refine k_iload_n C dX9_nameChildren_28 rfl rfl ?_
    refine k_bipush C dX9_nameChildren_29 (by decide) ?_
    refine k_imul C dX9_nameChildren_31 ?_
    refine k_iload C dX9_nameChildren_32 rfl ?_
    refine k_iadd C dX9_nameChildren_34 ?_
    refine k_iaload C rfl (by decide) (by decide) ⟨by omega, by omega⟩ dX9_nameChildren_35 (fun ld35 => ?_)
    have eix : N 10 (k * 8 + c) = N 10 (8 * k + c) := by rw [Int.mul_comm]
    rw [eix] at ld35 ⊢
    refine k_bipush C dX9_nameChildren_36 (by decide) ?_
    refine k_icmp_ne C (tgt := 60) dX9_nameChildren_38 rfl (by omega) (by omega) (fun c38 => ?_) (fun c38 => ?_)
    · refine k_iinc C dX9_nameChildren_60 (by decide) rfl ?_
      refine k_goto C (tgt := 17) dX9_nameChildren_63 rfl ?_
      refine k_cut2 C (lv' := [(0, _), (1, _), (2, _), (3, _), (4, _)]) ⟨rfl, rfl, rfl, rfl, rfl, trivial⟩ ?_
      first
      | exact l_name2 M ls le hl hcap C k hk kk _ (c + 1) (by omega) (NmI_s hI ⟨by omega, hk⟩ (by omega) (by omega) hcp)
      | exact l_name2 M ls le hl hcap C k hk kk N (c + 1) (by omega) (NmI_k hI (by omega) (by omega) (by omega))
    · have hcp := hcap N k c hI (by omega) hk.1 hk.2 hc.1 (by omega) (by omega)
      refine k_aload_n C dX9_nameChildren_41 rfl rfl ?_
      refine k_getR C (j := 1) okC9 rfl (by decide) (by decide) rfl flX9_9 dX9_nameChildren_42 ?_
      refine k_iload_n C dX9_nameChildren_45 rfl rfl ?_
      refine k_bipush C dX9_nameChildren_46 (by decide) ?_
      refine k_imul C dX9_nameChildren_48 ?_
      refine k_iload C dX9_nameChildren_49 rfl ?_
      refine k_iadd C dX9_nameChildren_51 ?_
      refine k_aload_n C dX9_nameChildren_52 rfl rfl ?_
      refine k_iload_n C dX9_nameChildren_53 rfl rfl ?_
      refine k_iload C dX9_nameChildren_54 rfl ?_
      refine k_callV C okX9_35 dX9_nameChildren_56 (c_Tree_addNode N (by omega) k c (by omega) (by omega)) rfl rfl (by decide) rfl (by decide) rfl (Nat.le_of_ble_eq_true rfl) (fun r56 M56 hr56 hp56 => ?_)
      obtain ⟨rfl, rfl⟩ := hp56
      refine k_iastore C rfl (by decide) (by decide) ⟨by omega, by omega⟩ (by omega) dX9_nameChildren_59 ?_
      refine k_iinc C dX9_nameChildren_60 (by decide) rfl ?_
      refine k_goto C (tgt := 17) dX9_nameChildren_63 rfl ?_
      refine k_cut2 C (lv' := [(0, _), (1, _), (2, _), (3, _), (4, _)]) ⟨rfl, rfl, rfl, rfl, rfl, trivial⟩ ?_
      first
      | exact l_name2 M ls le hl hcap C k hk kk _ (c + 1) (by omega) (NmI_s hI ⟨by omega, hk⟩ (by omega) (by omega) hcp)
      | exact l_name2 M ls le hl hcap C k hk kk N (c + 1) (by omega) (NmI_k hI (by omega) (by omega) (by omega))
termination_by (8 - c).toNat
decreasing_by all_goals omega
set_option maxHeartbeats 4000000 in
set_option maxRecDepth 100000 in
theorem l_name1 {K : Kt} (M : Mem) (ls le : Int) (hl : 0 ≤ ls ∧ ls ≤ le ∧ le ≤ 721) (hcap : ∀ (N : Mem) (k c : Int), NmI M N ls le k c → 0 ≤ k → ls ≤ k → k < le → 0 ≤ c → c < 8 → N 10 (8 * k + c) = -2 → N 9 6 < 721) (C : Ctx shC nC RX9 cX9_nameChildren 5 none (lvl 1) (fun _ M' => NmI M M' ls le le 0) K) (N : Mem) (k : Int) (hk : ls ≤ k ∧ k ≤ le) (hI : NmI M N ls le k 0) : K 2 [(0, .inr 9), (1, .inl ls), (2, .inl le), (3, .inl k)] [] N := by
  refine k_iload_n C dX9_nameChildren_2 rfl rfl ?_
  refine k_iload_n C dX9_nameChildren_3 rfl rfl ?_
  refine k_icmp_ge C (tgt := 72) dX9_nameChildren_4 rfl (by omega) (by omega) (fun c4 => ?_) (fun c4 => ?_)
  · exact k_vret C dX9_nameChildren_72 (fun _ => by rw [show k = le by omega] at hI; exact hI)
  · refine k_iload_n C dX9_nameChildren_7 rfl rfl ?_
    refine k_sipush C dX9_nameChildren_8 (by decide) ?_
    refine k_icmp_ge C (tgt := 72) dX9_nameChildren_11 rfl (by omega) (by omega) (fun c11 => ?_) (fun c11 => ?_)
    · exact k_vret C dX9_nameChildren_72 (fun _ => by rw [show k = le by omega] at hI; exact hI)
    · refine k_iconst C dX9_nameChildren_14 ?_
      refine k_istore C dX9_nameChildren_15 (by decide) ?_
      refine k_cut2 C (lv' := [(0, _), (1, _), (2, _), (3, _), (4, _)]) ⟨rfl, rfl, rfl, rfl, rfl, trivial⟩ ?_
      refine l_name2 M ls le hl hcap C k (by omega) (fun N2 h => ?_) N 0 (by omega) hI
      refine k_iinc C dX9_nameChildren_66 (by decide) rfl ?_
      refine k_goto C (tgt := 2) dX9_nameChildren_69 rfl ?_
      refine k_cut2 C (lv' := [(0, _), (1, _), (2, _), (3, _)]) ⟨rfl, rfl, rfl, rfl, trivial⟩ ?_
      exact l_name1 M ls le hl hcap C N2 (k + 1) (by omega) h
termination_by (le - k).toNat
decreasing_by all_goals omega
set_option maxHeartbeats 4000000 in
set_option maxRecDepth 100000 in
theorem c_Tree_name (M : Mem) (ls le : Int) (hl : 0 ≤ ls ∧ ls ≤ le ∧ le ≤ 721) (hcap : ∀ (N : Mem) (k c : Int), NmI M N ls le k c → 0 ≤ k → ls ≤ k → k < le → 0 ≤ c → c < 8 → N 10 (8 * k + c) = -2 → N 9 6 < 721) (h9 : M 9 6 = le) (hls : ∀ k' c', 0 ≤ k' → k' < le → 0 ≤ c' → c' < 8 → M 10 (8 * k' + c') = -2 → ls ≤ k') : Ct shC nC yX9_nameChildren cX9_nameChildren 5 none (lvl 1) [.inr 9, .inl ls, .inl le] M (fun _ M' => NmI M M' ls le le 0) := by
  refine Ct_of (by decide +kernel) (Nat.le_of_ble_eq_true rfl) (fun K C => ?_)
  refine k_iload_n C dX9_nameChildren_0 rfl rfl ?_
  refine k_istore_n C dX9_nameChildren_1 rfl (by decide) ?_
  refine k_cut2 C (lv' := [(0, _), (1, _), (2, _), (3, _)]) ⟨rfl, rfl, rfl, rfl, trivial⟩ ?_
  exact l_name1 M ls le hl hcap C M ls (by omega) (NmI_0 h9 hl.2.2 hls)
