/-! Tree and Routine: the leaves. Tree: cell 9, child 10, parent 11, lastCall 12, cut 13, reached 14, size (9, 6); Routine: cell 31, text 32, sEnd 33, partner 34, behind 35, repeated 36, size (31, 7) -/
set_option maxHeartbeats 4000000 in
set_option maxRecDepth 100000 in
theorem c_Tree_childOf (M : Mem) (k c : Int) (hk : inR k) (hc : inR c) : Ct shC nC yX9_childOf cX9_childOf 3 (some .int) (lvl 0) [.inr 9, .inl k, .inl c] M (fun r M' => M = M' ∧ (((0 ≤ k ∧ k < 721 ∧ 0 ≤ c ∧ c < 8) ∧ r = M 10 (8 * k + c)) ∨ (¬ (0 ≤ k ∧ k < 721 ∧ 0 ≤ c ∧ c < 8) ∧ r = -1))) := by
  refine Ct_of (by decide +kernel) (Nat.le_of_ble_eq_true rfl) (fun K C => ?_)
  refine k_iload_n C dX9_childOf_0 rfl rfl ?_
  refine k_if_lt C (tgt := 21) dX9_childOf_1 rfl (by omega) (fun c1 => ?_) (fun c1 => ?_)
  · refine k_iconst C dX9_childOf_21 ?_
    exact k_iret C dX9_childOf_22 (by omega) (fun _ => ⟨rfl, by omega⟩)
  · refine k_iload_n C dX9_childOf_4 rfl rfl ?_
    refine k_sipush C dX9_childOf_5 (by decide) ?_
    refine k_icmp_ge C (tgt := 21) dX9_childOf_8 rfl (by omega) (by omega) (fun c8 => ?_) (fun c8 => ?_)
    · refine k_iconst C dX9_childOf_21 ?_
      exact k_iret C dX9_childOf_22 (by omega) (fun _ => ⟨rfl, by omega⟩)
    · refine k_iload_n C dX9_childOf_11 rfl rfl ?_
      refine k_if_lt C (tgt := 21) dX9_childOf_12 rfl (by omega) (fun c12 => ?_) (fun c12 => ?_)
      · refine k_iconst C dX9_childOf_21 ?_
        exact k_iret C dX9_childOf_22 (by omega) (fun _ => ⟨rfl, by omega⟩)
      · refine k_iload_n C dX9_childOf_15 rfl rfl ?_
        refine k_bipush C dX9_childOf_16 (by decide) ?_
        refine k_icmp_lt C (tgt := 23) dX9_childOf_18 rfl (by omega) (by omega) (fun c18 => ?_) (fun c18 => ?_)
        · refine k_aload_n C dX9_childOf_23 rfl rfl ?_
          refine k_getR C (j := 1) okC9 rfl (by decide) (by decide) rfl flX9_9 dX9_childOf_24 ?_
          refine k_iload_n C dX9_childOf_27 rfl rfl ?_
          refine k_bipush C dX9_childOf_28 (by decide) ?_
          refine k_imul C dX9_childOf_30 ?_
          refine k_iload_n C dX9_childOf_31 rfl rfl ?_
          refine k_iadd C dX9_childOf_32 ?_
          refine k_iaload C rfl (by decide) (by decide) ⟨by omega, by omega⟩ dX9_childOf_33 (fun ld33 => ?_)
          exact k_iret C dX9_childOf_34 (by omega) (fun _ => ⟨rfl, Or.inl ⟨by omega, by rw [Int.mul_comm]⟩⟩)
        · refine k_iconst C dX9_childOf_21 ?_
          exact k_iret C dX9_childOf_22 (by omega) (fun _ => ⟨rfl, by omega⟩)
/-- behind a new node: n of its children are cleared -/
def clrN (M : Mem) (t n : Int) : Mem := fun k i => if k = 10 ∧ 8 * t ≤ i ∧ i < 8 * t + n then -1 else M k i
theorem clrN_0 (M : Mem) (t : Int) : clrN M t 0 = M := by
  funext k i; unfold clrN; rw [if_neg (by omega)]
theorem clrN_ne {M : Mem} {t n : Int} {k : Nat} (h : k ≠ 10) : clrN M t n k = M k := by
  funext i; unfold clrN; rw [if_neg (by omega)]
theorem clrN_s (M : Mem) (t : Int) {n : Int} (h : 0 ≤ n) : up (clrN M t n) 10 (t * 8 + n) (-1) = clrN M t (n + 1) := by
  funext k i
  show (if k = 10 ∧ i = t * 8 + n then -1 else (if k = 10 ∧ 8 * t ≤ i ∧ i < 8 * t + n then -1 else M k i)) = (if k = 10 ∧ 8 * t ≤ i ∧ i < 8 * t + (n + 1) then -1 else M k i)
  by_cases h1 : k = 10
  · by_cases h2 : i = t * 8 + n
    · rw [if_pos ⟨h1, h2⟩, if_pos ⟨h1, by omega⟩]
    · rw [if_neg (fun h => h2 h.2)]
      by_cases h3 : 8 * t ≤ i ∧ i < 8 * t + n
      · rw [if_pos ⟨h1, h3⟩, if_pos ⟨h1, by omega⟩]
      · rw [if_neg (fun h => h3 h.2), if_neg (fun h => h3 (by omega))]
  · rw [if_neg (fun h => h1 h.1), if_neg (fun h => h1 h.1), if_neg (fun h => h1 h.1)]
def nodM (M : Mem) (p c : Int) : Mem := up (clrN (up (up M 11 (M 9 6) p) 12 (M 9 6) c) (M 9 6) 8) 9 6 (M 9 6 + 1)
set_option maxHeartbeats 4000000 in
set_option maxRecDepth 100000 in
theorem l_addNode {K : Kt} (M : Mem) (hs : 0 ≤ M 9 6 ∧ M 9 6 < 721) (p c : Int) (hp : inR p) (hc : inR c) (C : Ctx shC nC RX9 cX9_addNode 4 (some .int) (lvl 0) (fun r M' => r = M 9 6 ∧ M' = nodM M p c) K) (i : Int) (hi : 0 ≤ i ∧ i ≤ 8) : K 34 [(0, .inr 9), (1, .inl p), (2, .inl c), (3, .inl i)] [] (clrN (up (up M 11 (M 9 6) p) 12 (M 9 6) c) (M 9 6) i) := by
  have f9 : clrN (up (up M 11 (M 9 6) p) 12 (M 9 6) c) (M 9 6) i 9 = M 9 := by rw [clrN_ne (by decide), up_ne (show (9 : Nat) ≠ 12 by decide), up_ne (show (9 : Nat) ≠ 11 by decide)]
  refine k_iload_n C dX9_addNode_34 rfl rfl ?_
  refine k_bipush C dX9_addNode_35 (by decide) ?_
  refine k_icmp_ge C (tgt := 61) dX9_addNode_37 rfl (by omega) (by omega) (fun c37 => ?_) (fun c37 => ?_)
  · refine k_aload_n C dX9_addNode_61 rfl rfl ?_
    refine k_dup C dX9_addNode_62 ?_
    refine k_getJ C 6 6 rfl okC9 rfl (by decide) (by decide) rfl flX9_31 dX9_addNode_63 (fun ld63 => ?_)
    rw [f9]
    refine k_iconst C dX9_addNode_66 ?_
    refine k_iadd C dX9_addNode_67 ?_
    refine k_putJ C 6 6 rfl okC9 rfl (by decide) (by decide) rfl rfl rfl (by omega) flX9_31 dX9_addNode_68 ?_
    refine k_aload_n C dX9_addNode_71 rfl rfl ?_
    refine k_getJ C 6 6 rfl okC9 rfl (by decide) (by decide) rfl flX9_31 dX9_addNode_72 (fun ld72 => ?_)
    rw [up_same]
    refine k_iconst C dX9_addNode_75 ?_
    refine k_isub C dX9_addNode_76 ?_
    exact k_iret C dX9_addNode_77 (by omega) (fun _ => ⟨by omega, by rw [show i = 8 by omega]; rfl⟩)
  · refine k_aload_n C dX9_addNode_40 rfl rfl ?_
    refine k_getR C (j := 1) okC9 rfl (by decide) (by decide) rfl flX9_9 dX9_addNode_41 ?_
    refine k_aload_n C dX9_addNode_44 rfl rfl ?_
    refine k_getJ C 6 6 rfl okC9 rfl (by decide) (by decide) rfl flX9_31 dX9_addNode_45 (fun ld45 => ?_)
    rw [f9]
    refine k_bipush C dX9_addNode_48 (by decide) ?_
    refine k_imul C dX9_addNode_50 ?_
    refine k_iload_n C dX9_addNode_51 rfl rfl ?_
    refine k_iadd C dX9_addNode_52 ?_
    refine k_iconst C dX9_addNode_53 ?_
    refine k_iastore C rfl (by decide) (by decide) ⟨by omega, by omega⟩ (by omega) dX9_addNode_54 ?_
    refine k_iinc C dX9_addNode_55 (by decide) rfl ?_
    refine k_goto C (tgt := 34) dX9_addNode_58 rfl ?_
    refine k_cut2 C (lv' := [(0, _), (1, _), (2, _), (3, _)]) ⟨rfl, rfl, rfl, rfl, trivial⟩ ?_
    rw [clrN_s _ _ hi.1]
    exact l_addNode M hs p c hp hc C (i + 1) (by omega)
termination_by (8 - i).toNat
decreasing_by all_goals omega
set_option maxHeartbeats 4000000 in
set_option maxRecDepth 100000 in
theorem c_Tree_addNode (M : Mem) (hs : 0 ≤ M 9 6 ∧ M 9 6 < 721) (p c : Int) (hp : inR p) (hc : inR c) : Ct shC nC yX9_addNode cX9_addNode 4 (some .int) (lvl 0) [.inr 9, .inl p, .inl c] M (fun r M' => r = M 9 6 ∧ M' = nodM M p c) := by
  refine Ct_of (by decide +kernel) (Nat.le_of_ble_eq_true rfl) (fun K C => ?_)
  refine k_aload_n C dX9_addNode_0 rfl rfl ?_
  refine k_getJ C 6 6 rfl okC9 rfl (by decide) (by decide) rfl flX9_31 dX9_addNode_1 (fun ld1 => ?_)
  refine k_sipush C dX9_addNode_4 (by decide) ?_
  refine k_icmp_lt C (tgt := 12) dX9_addNode_7 rfl (by omega) (by omega) (fun c7 => ?_) (fun c7 => ?_)
  · refine k_aload_n C dX9_addNode_12 rfl rfl ?_
    refine k_getR C (j := 2) okC9 rfl (by decide) (by decide) rfl flX9_15 dX9_addNode_13 ?_
    refine k_aload_n C dX9_addNode_16 rfl rfl ?_
    refine k_getJ C 6 6 rfl okC9 rfl (by decide) (by decide) rfl flX9_31 dX9_addNode_17 (fun ld17 => ?_)
    refine k_iload_n C dX9_addNode_20 rfl rfl ?_
    refine k_iastore C rfl (by decide) (by decide) ⟨by omega, by omega⟩ (by omega) dX9_addNode_21 ?_
    refine k_aload_n C dX9_addNode_22 rfl rfl ?_
    refine k_getR C (j := 3) okC9 rfl (by decide) (by decide) rfl flX9_18 dX9_addNode_23 ?_
    refine k_aload_n C dX9_addNode_26 rfl rfl ?_
    refine k_getJ C 6 6 rfl okC9 rfl (by decide) (by decide) rfl flX9_31 dX9_addNode_27 (fun ld27 => ?_)
    rw [up_ne (show (9 : Nat) ≠ 11 by decide)]
    refine k_iload_n C dX9_addNode_30 rfl rfl ?_
    refine k_iastore C rfl (by decide) (by decide) ⟨by omega, by omega⟩ (by omega) dX9_addNode_31 ?_
    refine k_iconst C dX9_addNode_32 ?_
    refine k_istore_n C dX9_addNode_33 rfl (by decide) ?_
    refine k_cut2 C (lv' := [(0, _), (1, _), (2, _), (3, _)]) ⟨rfl, rfl, rfl, rfl, trivial⟩ ?_
    have h := l_addNode M hs p c hp hc C 0 (by omega)
    rw [clrN_0] at h
    exact h
  · refine k_iconst C dX9_addNode_10 ?_
    exact k_iret C dX9_addNode_11 (by omega) (fun _ => by omega)
set_option maxHeartbeats 4000000 in
set_option maxRecDepth 100000 in
theorem c_endS (M : Mem) (a e : Int) (ha : 0 ≤ a ∧ a < 200) (he : inR e) : Ct shC nC yX8_endS cX8_endS 3 none (lvl 0) [.inr 31, .inl a, .inl e] M (fun _ M' => M' = up M 33 a e) := by
  refine Ct_of (by decide +kernel) (Nat.le_of_ble_eq_true rfl) (fun K C => ?_)
  refine k_iload_n C dX8_endS_0 rfl rfl ?_
  refine k_if_lt C (tgt := 18) dX8_endS_1 rfl (by omega) (fun c1 => ?_) (fun c1 => ?_)
  · exact k_vret C dX8_endS_18 (fun _ => by first | (exfalso; omega) | rfl)
  · refine k_iload_n C dX8_endS_4 rfl rfl ?_
    refine k_sipush C dX8_endS_5 (by decide) ?_
    refine k_icmp_ge C (tgt := 18) dX8_endS_8 rfl (by omega) (by omega) (fun c8 => ?_) (fun c8 => ?_)
    · exact k_vret C dX8_endS_18 (fun _ => by first | (exfalso; omega) | rfl)
    · refine k_aload_n C dX8_endS_11 rfl rfl ?_
      refine k_getR C (j := 1) okC8 rfl (by decide) (by decide) rfl flX8_15 dX8_endS_12 ?_
      refine k_iload_n C dX8_endS_15 rfl rfl ?_
      refine k_iload_n C dX8_endS_16 rfl rfl ?_
      refine k_iastore C rfl (by decide) (by decide) ⟨by omega, by omega⟩ (by omega) dX8_endS_17 ?_
      exact k_vret C dX8_endS_18 (fun _ => by first | (exfalso; omega) | rfl)
set_option maxHeartbeats 4000000 in
set_option maxRecDepth 100000 in
theorem c_Rt_callAt (M : Mem) (k : Int) (hk : inR k) (ht : ∀ i, 0 ≤ i → i < 200 → -1000 ≤ M 32 i ∧ M 32 i ≤ 1000) : Ct shC nC yX8_callAt cX8_callAt 2 (some .int) (lvl 1) [.inr 31, .inl k] M (fun r M' => M = M' ∧ (((0 ≤ k ∧ k < M 31 7 ∧ k < 200 ∧ 97 ≤ M 32 k ∧ M 32 k ≤ 104) ∧ r = M 32 k - 97) ∨ (¬ (0 ≤ k ∧ k < M 31 7 ∧ k < 200 ∧ 97 ≤ M 32 k ∧ M 32 k ≤ 104) ∧ r = -1))) := by
  refine Ct_of (by decide +kernel) (Nat.le_of_ble_eq_true rfl) (fun K C => ?_)
  refine k_iload_n C dX8_callAt_0 rfl rfl ?_
  refine k_if_lt C (tgt := 19) dX8_callAt_1 rfl (by omega) (fun c1 => ?_) (fun c1 => ?_)
  · refine k_iconst C dX8_callAt_19 ?_
    exact k_iret C dX8_callAt_20 (by omega) (fun _ => ⟨rfl, by omega⟩)
  · refine k_iload_n C dX8_callAt_4 rfl rfl ?_
    refine k_aload_n C dX8_callAt_5 rfl rfl ?_
    refine k_getJ C 7 7 rfl okC8 rfl (by decide) (by decide) rfl flX8_38 dX8_callAt_6 (fun ld6 => ?_)
    refine k_icmp_ge C (tgt := 19) dX8_callAt_9 rfl (by omega) (by omega) (fun c9 => ?_) (fun c9 => ?_)
    · refine k_iconst C dX8_callAt_19 ?_
      exact k_iret C dX8_callAt_20 (by omega) (fun _ => ⟨rfl, by omega⟩)
    · refine k_iload_n C dX8_callAt_12 rfl rfl ?_
      refine k_sipush C dX8_callAt_13 (by decide) ?_
      refine k_icmp_lt C (tgt := 21) dX8_callAt_16 rfl (by omega) (by omega) (fun c16 => ?_) (fun c16 => ?_)
      · have hq := ht k (by omega) (by omega)
        refine k_aload_n C dX8_callAt_21 rfl rfl ?_
        refine k_getR C (j := 0) okC8 rfl (by decide) (by decide) rfl flX8_9 dX8_callAt_22 ?_
        refine k_iload_n C dX8_callAt_25 rfl rfl ?_
        refine k_iaload C rfl (by decide) (by decide) ⟨by omega, by omega⟩ dX8_callAt_26 (fun ld26 => ?_)
        refine k_bipush C dX8_callAt_27 (by decide) ?_
        refine k_isub C dX8_callAt_29 ?_
        refine k_callN C okX8_49 dX8_callAt_30 (c_isCall M (M 32 k - 97) (by omega)) rfl (by decide) rfl (Nat.le_of_ble_eq_true rfl) (fun r30 M30 hr30 hp30 => ?_)
        obtain ⟨rfl, hp30⟩ := hp30
        refine k_if_eq C (tgt := 48) dX8_callAt_33 rfl (by omega) (fun c33 => ?_) (fun c33 => ?_)
        · refine k_iconst C dX8_callAt_48 ?_
          exact k_iret C dX8_callAt_49 (by omega) (fun _ => ⟨rfl, by omega⟩)
        · refine k_aload_n C dX8_callAt_36 rfl rfl ?_
          refine k_getR C (j := 0) okC8 rfl (by decide) (by decide) rfl flX8_9 dX8_callAt_37 ?_
          refine k_iload_n C dX8_callAt_40 rfl rfl ?_
          refine k_iaload C rfl (by decide) (by decide) ⟨by omega, by omega⟩ dX8_callAt_41 (fun ld41 => ?_)
          refine k_bipush C dX8_callAt_42 (by decide) ?_
          refine k_isub C dX8_callAt_44 ?_
          refine k_goto C (tgt := 49) dX8_callAt_45 rfl ?_
          exact k_iret C dX8_callAt_49 (by omega) (fun _ => ⟨rfl, by omega⟩)
      · refine k_iconst C dX8_callAt_19 ?_
        exact k_iret C dX8_callAt_20 (by omega) (fun _ => ⟨rfl, by omega⟩)
set_option maxHeartbeats 4000000 in
set_option maxRecDepth 100000 in
theorem c_mayStand (M : Mem) (sg op st : Int) (hg : inR sg) (ho : inR op) (hst : st = 0 ∨ st = 1) : Ct shC nC yX8_mayStand cX8_mayStand 3 (some .boolean) (lvl 0) [.inl sg, .inl op, .inl st] M (fun r M' => M = M' ∧ ((r = 1 ∧ ((sg = 40 ∧ op < 10) ∨ ((sg = 41 ∨ sg = 124) ∧ 0 < op) ∨ (sg = 42 ∧ st = 1) ∨ (97 ≤ sg ∧ sg ≤ 104))) ∨ (r = 0 ∧ ¬ ((sg = 40 ∧ op < 10) ∨ ((sg = 41 ∨ sg = 124) ∧ 0 < op) ∨ (sg = 42 ∧ st = 1) ∨ (97 ≤ sg ∧ sg ≤ 104))))) := by
  refine Ct_of (by decide +kernel) (Nat.le_of_ble_eq_true rfl) (fun K C => ?_)
  refine k_iload_n C dX8_mayStand_0 rfl rfl ?_
  by_cases e1 : sg = 40
  · subst e1
    refine k_lookup C (off := 43) (tgt := 44) dX8_mayStand_1 (by decide) (by decide) (by decide) rfl ?_
    refine k_iload_n C dX8_mayStand_44 rfl rfl ?_
    refine k_bipush C dX8_mayStand_45 (by decide) ?_
    refine k_icmp_ge C (tgt := 54) dX8_mayStand_47 rfl (by omega) (by omega) (fun c47 => ?_) (fun c47 => ?_)
    · refine k_iconst C dX8_mayStand_54 ?_
      exact k_zret C dX8_mayStand_55 (by omega) (fun _ => ⟨rfl, by omega⟩)
    · refine k_iconst C dX8_mayStand_50 ?_
      refine k_goto C (tgt := 55) dX8_mayStand_51 rfl ?_
      exact k_zret C dX8_mayStand_55 (by omega) (fun _ => ⟨rfl, by omega⟩)
  by_cases e2 : sg = 41
  · subst e2
    refine k_lookup C (off := 55) (tgt := 56) dX8_mayStand_1 (by decide) (by decide) (by decide) rfl ?_
    refine k_iload_n C dX8_mayStand_56 rfl rfl ?_
    refine k_if_le C (tgt := 64) dX8_mayStand_57 rfl (by omega) (fun c57 => ?_) (fun c57 => ?_)
    · refine k_iconst C dX8_mayStand_64 ?_
      exact k_zret C dX8_mayStand_65 (by omega) (fun _ => ⟨rfl, by omega⟩)
    · refine k_iconst C dX8_mayStand_60 ?_
      refine k_goto C (tgt := 65) dX8_mayStand_61 rfl ?_
      exact k_zret C dX8_mayStand_65 (by omega) (fun _ => ⟨rfl, by omega⟩)
  by_cases e3 : sg = 42
  · subst e3
    refine k_lookup C (off := 65) (tgt := 66) dX8_mayStand_1 (by decide) (by decide) (by decide) rfl ?_
    refine k_iload_n C dX8_mayStand_66 rfl rfl ?_
    exact k_zret C dX8_mayStand_67 (by omega) (fun _ => ⟨rfl, by omega⟩)
  by_cases e4 : sg = 124
  · subst e4
    refine k_lookup C (off := 55) (tgt := 56) dX8_mayStand_1 (by decide) (by decide) (by decide) rfl ?_
    refine k_iload_n C dX8_mayStand_56 rfl rfl ?_
    refine k_if_le C (tgt := 64) dX8_mayStand_57 rfl (by omega) (fun c57 => ?_) (fun c57 => ?_)
    · refine k_iconst C dX8_mayStand_64 ?_
      exact k_zret C dX8_mayStand_65 (by omega) (fun _ => ⟨rfl, by omega⟩)
    · refine k_iconst C dX8_mayStand_60 ?_
      refine k_goto C (tgt := 65) dX8_mayStand_61 rfl ?_
      exact k_zret C dX8_mayStand_65 (by omega) (fun _ => ⟨rfl, by omega⟩)
  refine k_lookup C (off := 67) (tgt := 68) dX8_mayStand_1 (by omega) (by decide) (by simp [Op.lookupswitch.offset]; omega) rfl ?_
  refine k_iload_n C dX8_mayStand_68 rfl rfl ?_
  refine k_bipush C dX8_mayStand_69 (by decide) ?_
  refine k_icmp_lt C (tgt := 84) dX8_mayStand_71 rfl (by omega) (by omega) (fun c71 => ?_) (fun c71 => ?_)
  · refine k_iconst C dX8_mayStand_84 ?_
    exact k_zret C dX8_mayStand_85 (by omega) (fun _ => ⟨rfl, by omega⟩)
  · refine k_iload_n C dX8_mayStand_74 rfl rfl ?_
    refine k_bipush C dX8_mayStand_75 (by decide) ?_
    refine k_icmp_gt C (tgt := 84) dX8_mayStand_77 rfl (by omega) (by omega) (fun c77 => ?_) (fun c77 => ?_)
    · refine k_iconst C dX8_mayStand_84 ?_
      exact k_zret C dX8_mayStand_85 (by omega) (fun _ => ⟨rfl, by omega⟩)
    · refine k_iconst C dX8_mayStand_80 ?_
      refine k_goto C (tgt := 85) dX8_mayStand_81 rfl ?_
      exact k_zret C dX8_mayStand_85 (by omega) (fun _ => ⟨rfl, by omega⟩)
