/-! isCall, Arrays.fill, Math.min and max, Line.turnRound, UsageDesk$Law (cell 23: next 24, times 25, states (23, 2)) -/
set_option maxRecDepth 100000 in
theorem c_isCall (M : Mem) (c : Int) (hc : inR c) : Ct shC nC yX10_isCall cX10_isCall 1 (some .boolean) (lvl 0) [.inl c] M (fun r M' => M = M' ∧ ((r = 1 ∧ (0 ≤ c ∧ c < 8)) ∨ (r = 0 ∧ ¬ (0 ≤ c ∧ c < 8)))) := by
  refine Ct_of (by decide +kernel) (Nat.le_of_ble_eq_true rfl) (fun K C => ?_)
  refine k_iload_n C dX10_isCall_0 rfl rfl ?_
  refine k_if_lt C (tgt := 14) dX10_isCall_1 rfl (by omega) (fun c1 => ?_) (fun c1 => ?_)
  · refine k_iconst C dX10_isCall_14 ?_
    exact k_zret C dX10_isCall_15 (by omega) (fun _ => ⟨rfl, by omega⟩)
  · refine k_iload_n C dX10_isCall_4 rfl rfl ?_
    refine k_bipush C dX10_isCall_5 (by decide) ?_
    refine k_icmp_ge C (tgt := 14) dX10_isCall_7 rfl (by omega) (by omega) (fun c7 => ?_) (fun c7 => ?_)
    · refine k_iconst C dX10_isCall_14 ?_
      exact k_zret C dX10_isCall_15 (by omega) (fun _ => ⟨rfl, by omega⟩)
    · refine k_iconst C dX10_isCall_10 ?_
      refine k_goto C (tgt := 15) dX10_isCall_11 rfl ?_
      exact k_zret C dX10_isCall_15 (by omega) (fun _ => ⟨rfl, by omega⟩)
theorem k_max {sh : Nat → Sh} {N : Nat} {own : String} {cc : ByteArray} {nL : Nat} {ret : Option FieldType} {R : Room} {post : Int → Mem → Prop} {K : Kt} {pc : Nat} {lv : Lv} {stk : List V} {M : Mem} (C : Ctx sh N own cc nL ret R post K) {index : Nat} {a b : Int} (ha : inR a) (hb' : inR b) (hw : okS own index yJ9_max_7cf53 cJ9_max_7cf53 2 (some .int) 2) (hd : decode cc pc = .ok (.invokestatic index, 3)) (hR : 1 ≤ R.frames ∧ stk.length + 13 ≤ R.locals) (kk : ∀ r, ((a < b ∧ r = b) ∨ (b ≤ a ∧ r = a)) → K (pc + 3) lv (.inl r :: stk) M) : K pc lv (.inl b :: .inl a :: stk) M := by
  obtain ⟨p, l, e, s, m, args, below, meth, c, D, cI, cZ, cB, ad, A, ⟨hx, hb, hml, hown, hts⟩, ⟨hr, hlk, hns⟩, hK, hA, hD, rfl⟩ := C
  intro hM H locs ls hP hS hl
  have ok : ∀ w ∈ va_wsS own index yJ9_max_7cf53 [.code yJ9_max_7cf53 cJ9_max_7cf53 2 (some .int)], w.before args s = true := fun w h => hts w (hw.1 w h).1
  refine va_mmax hx hb (by rw [hml]; exact hl.1.symm) hown (ok (.methodLink own index yJ9_max_7cf53) (by simp [va_wsS])) (ok (.static yJ9_max_7cf53) (by simp [va_wsS])) (ok (.initialized yJ9_max_7cf53.cls) (by simp [va_wsS])) (ok (.code yJ9_max_7cf53 cJ9_max_7cf53 2 (some .int)) (by simp [va_wsS])) hR.1 (by rw [vvs_cat]; exact hR.2) (Nat.zero_le _) (Nat.zero_le _) hd ?_
  by_cases h : a < b
  · rw [if_pos ((oI_lt ha hb').mpr h)]; exact kk b (Or.inl ⟨h, rfl⟩) hM H locs ls hP hS hl
  · rw [if_neg (fun q => h ((oI_lt ha hb').mp q))]; exact kk a (Or.inr ⟨by omega, rfl⟩) hM H locs ls hP hS hl
theorem k_min {sh : Nat → Sh} {N : Nat} {own : String} {cc : ByteArray} {nL : Nat} {ret : Option FieldType} {R : Room} {post : Int → Mem → Prop} {K : Kt} {pc : Nat} {lv : Lv} {stk : List V} {M : Mem} (C : Ctx sh N own cc nL ret R post K) {index : Nat} {a b : Int} (ha : inR a) (hb' : inR b) (hw : okS own index yJ9_min_7cf53 cJ9_min_7cf53 2 (some .int) 2) (hd : decode cc pc = .ok (.invokestatic index, 3)) (hR : 1 ≤ R.frames ∧ stk.length + 13 ≤ R.locals) (kk : ∀ r, ((b < a ∧ r = b) ∨ (a ≤ b ∧ r = a)) → K (pc + 3) lv (.inl r :: stk) M) : K pc lv (.inl b :: .inl a :: stk) M := by
  obtain ⟨p, l, e, s, m, args, below, meth, c, D, cI, cZ, cB, ad, A, ⟨hx, hb, hml, hown, hts⟩, ⟨hr, hlk, hns⟩, hK, hA, hD, rfl⟩ := C
  intro hM H locs ls hP hS hl
  have ok : ∀ w ∈ va_wsS own index yJ9_min_7cf53 [.code yJ9_min_7cf53 cJ9_min_7cf53 2 (some .int)], w.before args s = true := fun w h => hts w (hw.1 w h).1
  refine va_mmin hx hb (by rw [hml]; exact hl.1.symm) hown (ok (.methodLink own index yJ9_min_7cf53) (by simp [va_wsS])) (ok (.static yJ9_min_7cf53) (by simp [va_wsS])) (ok (.initialized yJ9_min_7cf53.cls) (by simp [va_wsS])) (ok (.code yJ9_min_7cf53 cJ9_min_7cf53 2 (some .int)) (by simp [va_wsS])) hR.1 (by rw [vvs_cat]; exact hR.2) (Nat.zero_le _) (Nat.zero_le _) hd ?_
  by_cases h : b < a
  · rw [if_pos ((oI_lt hb' ha).mpr h)]; exact kk b (Or.inl ⟨h, rfl⟩) hM H locs ls hP hS hl
  · rw [if_neg (fun q => h ((oI_lt hb' ha).mp q))]; exact kk a (Or.inr ⟨by omega, rfl⟩) hM H locs ls hP hS hl
def fillM (M : Mem) (k : Nat) (n v : Int) : Mem := fun k' i => if k' = k ∧ 0 ≤ i ∧ i < n then v else M k' i
theorem fillM_0 (M : Mem) (k : Nat) (v : Int) : fillM M k 0 v = M := by
  funext k' i; unfold fillM; rw [if_neg (by omega)]
theorem fillM_s (M : Mem) (k : Nat) {n : Int} (v : Int) (h : 0 ≤ n) : up (fillM M k n v) k n v = fillM M k (n + 1) v := by
  funext k' i
  show (if k' = k ∧ i = n then v else (if k' = k ∧ 0 ≤ i ∧ i < n then v else M k' i)) = (if k' = k ∧ 0 ≤ i ∧ i < n + 1 then v else M k' i)
  by_cases h1 : k' = k
  · by_cases h2 : i = n
    · rw [if_pos ⟨h1, h2⟩, if_pos ⟨h1, by omega, by omega⟩]
    · rw [if_neg (fun h => h2 h.2)]
      by_cases h3 : 0 ≤ i ∧ i < n
      · rw [if_pos ⟨h1, h3⟩, if_pos ⟨h1, by omega⟩]
      · rw [if_neg (fun h => h3 h.2), if_neg (fun h => h3 (by omega))]
  · rw [if_neg (fun h => h1 h.1), if_neg (fun h => h1 h.1), if_neg (fun h => h1 h.1)]
theorem fillM_ne {M : Mem} {k : Nat} {n v : Int} {j : Nat} (h : j ≠ k) : fillM M k n v j = M j := by
  funext i; unfold fillM; rw [if_neg (by omega)]
theorem fillM_in {M : Mem} {k : Nat} {n v i : Int} (h : 0 ≤ i ∧ i < n) : fillM M k n v k i = v := by unfold fillM; rw [if_pos ⟨rfl, h⟩]
set_option maxRecDepth 100000 in
theorem l_fill {K : Kt} (k n : Nat) (hsc : shC k = .inl (.int, n)) (hkc : k < nC) (hnc : n < 2147483648) (M : Mem) (v : Int) (hv : inR v) (C : Ctx shC nC RJ7 cJ7_fill_53178 4 none (lvl 0) (fun _ M' => M' = fillM M k n v) K) (i : Int) (hi : 0 ≤ i ∧ i ≤ n) : K 5 [(0, .inr k), (1, .inl v), (2, .inl i), (3, .inl (n : Int))] [] (fillM M k i v) := by
  refine k_iload_n C dJ7_fill_53178_5 rfl rfl ?_
  refine k_iload_n C dJ7_fill_53178_6 rfl rfl ?_
  refine k_icmp_ge C (tgt := 20) dJ7_fill_53178_7 rfl (by omega) (by omega) (fun c7 => ?_) (fun c7 => ?_)
  · exact k_vret C dJ7_fill_53178_20 (fun _ => by rw [show i = (n : Int) by omega])
  · refine k_aload_n C dJ7_fill_53178_10 rfl rfl ?_
    refine k_iload_n C dJ7_fill_53178_11 rfl rfl ?_
    refine k_iload_n C dJ7_fill_53178_12 rfl rfl ?_
    refine k_iastore C hsc hkc hnc ⟨by omega, by omega⟩ (by omega) dJ7_fill_53178_13 ?_
    refine k_iinc C dJ7_fill_53178_14 (by decide) rfl ?_
    refine k_goto C (tgt := 5) dJ7_fill_53178_17 rfl ?_
    refine k_cut2 C (lv' := [(0, _), (1, _), (2, _), (3, _)]) ⟨rfl, rfl, rfl, rfl, trivial⟩ ?_
    rw [fillM_s M k v hi.1]
    exact l_fill k n hsc hkc hnc M v hv C (i + 1) (by omega)
termination_by ((n : Int) - i).toNat
decreasing_by all_goals omega
set_option maxRecDepth 100000 in
theorem c_fill (k n : Nat) (hsc : shC k = .inl (.int, n)) (hkc : k < nC) (hnc : n < 2147483648) (M : Mem) (v : Int) (hv : inR v) : Ct shC nC yJ7_fill_53178 cJ7_fill_53178 4 none (lvl 0) [.inr k, .inl v] M (fun _ M' => M' = fillM M k n v) := by
  refine Ct_of (by decide +kernel) (Nat.le_of_ble_eq_true rfl) (fun K C => ?_)
  refine k_iconst C dJ7_fill_53178_0 ?_
  refine k_istore_n C dJ7_fill_53178_1 rfl (by decide) ?_
  refine k_aload_n C dJ7_fill_53178_2 rfl rfl ?_
  refine k_len C hsc hkc (by decide) dJ7_fill_53178_3 (fun n3 hn3 => ?_)
  subst hn3
  refine k_istore_n C dJ7_fill_53178_4 rfl (by decide) ?_
  refine k_cut2 C (lv' := [(0, _), (1, _), (2, _), (3, _)]) ⟨rfl, rfl, rfl, rfl, trivial⟩ ?_
  have h := l_fill k n hsc hkc hnc M v hv C 0 (by omega)
  rw [fillM_0] at h
  exact h
set_option maxRecDepth 100000 in
theorem c_Law_hasState (M : Mem) (s : Int) (hs : inR s) : Ct shC nC yX4_hasState cX4_hasState 2 (some .boolean) (lvl 0) [.inr 23, .inl s] M (fun r M' => M = M' ∧ ((r = 1 ∧ (0 ≤ s ∧ s < M 23 2 ∧ s < 30)) ∨ (r = 0 ∧ ¬ (0 ≤ s ∧ s < M 23 2 ∧ s < 30)))) := by
  refine Ct_of (by decide +kernel) (Nat.le_of_ble_eq_true rfl) (fun K C => ?_)
  refine k_iload_n C dX4_hasState_0 rfl rfl ?_
  refine k_if_lt C (tgt := 22) dX4_hasState_1 rfl (by omega) (fun c1 => ?_) (fun c1 => ?_)
  · refine k_iconst C dX4_hasState_22 ?_
    exact k_zret C dX4_hasState_23 (by omega) (fun _ => ⟨rfl, by omega⟩)
  · refine k_iload_n C dX4_hasState_4 rfl rfl ?_
    refine k_aload_n C dX4_hasState_5 rfl rfl ?_
    refine k_getJ C 2 2 rfl okC4 rfl (by decide) (by decide) rfl flX4_24 dX4_hasState_6 (fun _ => ?_)
    refine k_icmp_ge C (tgt := 22) dX4_hasState_9 rfl (by omega) (by omega) (fun c9 => ?_) (fun c9 => ?_)
    · refine k_iconst C dX4_hasState_22 ?_
      exact k_zret C dX4_hasState_23 (by omega) (fun _ => ⟨rfl, by omega⟩)
    · refine k_iload_n C dX4_hasState_12 rfl rfl ?_
      refine k_bipush C dX4_hasState_13 (by decide) ?_
      refine k_icmp_ge C (tgt := 22) dX4_hasState_15 rfl (by omega) (by omega) (fun c15 => ?_) (fun c15 => ?_)
      · refine k_iconst C dX4_hasState_22 ?_
        exact k_zret C dX4_hasState_23 (by omega) (fun _ => ⟨rfl, by omega⟩)
      · refine k_iconst C dX4_hasState_18 ?_
        refine k_goto C (tgt := 23) dX4_hasState_19 rfl ?_
        exact k_zret C dX4_hasState_23 (by omega) (fun _ => ⟨rfl, by omega⟩)
set_option maxRecDepth 100000 in
theorem c_Law_after (M : Mem) (s c : Int) (hs : inR s) (hc : inR c) : Ct shC nC yX4_after cX4_after 3 (some .int) (lvl 1) [.inr 23, .inl s, .inl c] M (fun r M' => M = M' ∧ (((0 ≤ s ∧ s < M 23 2 ∧ s < 30 ∧ 0 ≤ c ∧ c < 8) ∧ r = M 24 (8 * s + c)) ∨ (¬ (0 ≤ s ∧ s < M 23 2 ∧ s < 30 ∧ 0 ≤ c ∧ c < 8) ∧ r = -1))) := by
  refine Ct_of (by decide +kernel) (Nat.le_of_ble_eq_true rfl) (fun K C => ?_)
  refine k_aload_n C dX4_after_0 rfl rfl ?_
  refine k_iload_n C dX4_after_1 rfl rfl ?_
  refine k_callV C okX4_28 dX4_after_2 (c_Law_hasState M s (by omega)) rfl rfl (by decide) rfl (by decide) rfl (Nat.le_of_ble_eq_true rfl) (fun r2 M2 hr2 hp2 => ?_)
  obtain ⟨rfl, hp2⟩ := hp2
  refine k_if_eq C (tgt := 29) dX4_after_5 rfl (by omega) (fun c5 => ?_) (fun c5 => ?_)
  · refine k_iconst C dX4_after_29 ?_
    exact k_iret C dX4_after_30 (by omega) (fun _ => ⟨rfl, by first | omega | exact Or.inl ⟨by omega, by rw [Int.mul_comm]⟩⟩)
  · refine k_iload_n C dX4_after_8 rfl rfl ?_
    refine k_callN C okX4_32 dX4_after_9 (c_isCall M c (by omega)) rfl (by decide) rfl (Nat.le_of_ble_eq_true rfl) (fun r9 M9 hr9 hp9 => ?_)
    obtain ⟨rfl, hp9⟩ := hp9
    refine k_if_eq C (tgt := 29) dX4_after_12 rfl (by omega) (fun c12 => ?_) (fun c12 => ?_)
    · refine k_iconst C dX4_after_29 ?_
      exact k_iret C dX4_after_30 (by omega) (fun _ => ⟨rfl, by first | omega | exact Or.inl ⟨by omega, by rw [Int.mul_comm]⟩⟩)
    · refine k_aload_n C dX4_after_15 rfl rfl ?_
      refine k_getR C (j := 0) okC4 rfl (by decide) (by decide) rfl flX4_9 dX4_after_16 ?_
      refine k_iload_n C dX4_after_19 rfl rfl ?_
      refine k_bipush C dX4_after_20 (by decide) ?_
      refine k_imul C dX4_after_22 ?_
      refine k_iload_n C dX4_after_23 rfl rfl ?_
      refine k_iadd C dX4_after_24 ?_
      refine k_iaload C rfl (by decide) (by decide) ⟨by omega, by omega⟩ dX4_after_25 (fun _ => ?_)
      refine k_goto C (tgt := 30) dX4_after_26 rfl ?_
      exact k_iret C dX4_after_30 (by omega) (fun _ => ⟨rfl, by first | omega | exact Or.inl ⟨by omega, by rw [Int.mul_comm]⟩⟩)
set_option maxRecDepth 100000 in
theorem c_Law_timesOver (M : Mem) (s c : Int) (hs : inR s) (hc : inR c) : Ct shC nC yX4_timesOver cX4_timesOver 3 (some .int) (lvl 1) [.inr 23, .inl s, .inl c] M (fun r M' => M = M' ∧ (((0 ≤ s ∧ s < M 23 2 ∧ s < 30 ∧ 0 ≤ c ∧ c < 8) ∧ r = M 25 (8 * s + c)) ∨ (¬ (0 ≤ s ∧ s < M 23 2 ∧ s < 30 ∧ 0 ≤ c ∧ c < 8) ∧ r = 0))) := by
  refine Ct_of (by decide +kernel) (Nat.le_of_ble_eq_true rfl) (fun K C => ?_)
  refine k_aload_n C dX4_timesOver_0 rfl rfl ?_
  refine k_iload_n C dX4_timesOver_1 rfl rfl ?_
  refine k_callV C okX4_28 dX4_timesOver_2 (c_Law_hasState M s (by omega)) rfl rfl (by decide) rfl (by decide) rfl (Nat.le_of_ble_eq_true rfl) (fun r2 M2 hr2 hp2 => ?_)
  obtain ⟨rfl, hp2⟩ := hp2
  refine k_if_eq C (tgt := 29) dX4_timesOver_5 rfl (by omega) (fun c5 => ?_) (fun c5 => ?_)
  · refine k_iconst C dX4_timesOver_29 ?_
    exact k_iret C dX4_timesOver_30 (by omega) (fun _ => ⟨rfl, by first | omega | exact Or.inl ⟨by omega, by rw [Int.mul_comm]⟩⟩)
  · refine k_iload_n C dX4_timesOver_8 rfl rfl ?_
    refine k_callN C okX4_32 dX4_timesOver_9 (c_isCall M c (by omega)) rfl (by decide) rfl (Nat.le_of_ble_eq_true rfl) (fun r9 M9 hr9 hp9 => ?_)
    obtain ⟨rfl, hp9⟩ := hp9
    refine k_if_eq C (tgt := 29) dX4_timesOver_12 rfl (by omega) (fun c12 => ?_) (fun c12 => ?_)
    · refine k_iconst C dX4_timesOver_29 ?_
      exact k_iret C dX4_timesOver_30 (by omega) (fun _ => ⟨rfl, by first | omega | exact Or.inl ⟨by omega, by rw [Int.mul_comm]⟩⟩)
    · refine k_aload_n C dX4_timesOver_15 rfl rfl ?_
      refine k_getR C (j := 1) okC4 rfl (by decide) (by decide) rfl flX4_15 dX4_timesOver_16 ?_
      refine k_iload_n C dX4_timesOver_19 rfl rfl ?_
      refine k_bipush C dX4_timesOver_20 (by decide) ?_
      refine k_imul C dX4_timesOver_22 ?_
      refine k_iload_n C dX4_timesOver_23 rfl rfl ?_
      refine k_iadd C dX4_timesOver_24 ?_
      refine k_iaload C rfl (by decide) (by decide) ⟨by omega, by omega⟩ dX4_timesOver_25 (fun _ => ?_)
      refine k_goto C (tgt := 30) dX4_timesOver_26 rfl ?_
      exact k_iret C dX4_timesOver_30 (by omega) (fun _ => ⟨rfl, by first | omega | exact Or.inl ⟨by omega, by rw [Int.mul_comm]⟩⟩)
set_option maxRecDepth 100000 in
theorem c_Law_clear (M : Mem) (n : Int) (hn : inR n) : Ct shC nC yX4_clear cX4_clear 2 none (lvl 1) [.inr 23, .inl n] M (fun _ M' => M' = up (fillM (fillM M 24 240 (-1)) 25 240 0) 23 2 n) := by
  refine Ct_of (by decide +kernel) (Nat.le_of_ble_eq_true rfl) (fun K C => ?_)
  refine k_aload_n C dX4_clear_0 rfl rfl ?_
  refine k_getR C (j := 0) okC4 rfl (by decide) (by decide) rfl flX4_9 dX4_clear_1 ?_
  refine k_iconst C dX4_clear_4 ?_
  refine k_callS C okX4_18 dX4_clear_5 (c_fill 24 240 rfl (by decide) (by decide) _ (-1) (by decide)) rfl (by decide) rfl (Nat.le_of_ble_eq_true rfl) (fun r5 M5 hr5 hp5 => ?_)
  subst hp5
  refine k_aload_n C dX4_clear_8 rfl rfl ?_
  refine k_getR C (j := 1) okC4 rfl (by decide) (by decide) rfl flX4_15 dX4_clear_9 ?_
  refine k_iconst C dX4_clear_12 ?_
  refine k_callS C okX4_18 dX4_clear_13 (c_fill 25 240 rfl (by decide) (by decide) _ 0 (by decide)) rfl (by decide) rfl (Nat.le_of_ble_eq_true rfl) (fun r13 M13 hr13 hp13 => ?_)
  subst hp13
  refine k_aload_n C dX4_clear_16 rfl rfl ?_
  refine k_iload_n C dX4_clear_17 rfl rfl ?_
  refine k_putJ C 2 2 rfl okC4 rfl (by decide) (by decide) rfl rfl rfl (by omega) flX4_24 dX4_clear_18 ?_
  exact k_vret C dX4_clear_21 (fun _ => rfl)
set_option maxRecDepth 100000 in
theorem c_Law_setStep (M : Mem) (s c t : Int) (hs : 0 ≤ s ∧ s < M 23 2 ∧ s < 30) (hc : 0 ≤ c ∧ c < 8) (ht : inR t) : Ct shC nC yX4_setStep cX4_setStep 4 none (lvl 1) [.inr 23, .inl s, .inl c, .inl t] M (fun _ M' => M' = up M 24 (8 * s + c) t) := by
  refine Ct_of (by decide +kernel) (Nat.le_of_ble_eq_true rfl) (fun K C => ?_)
  refine k_aload_n C dX4_setStep_0 rfl rfl ?_
  refine k_iload_n C dX4_setStep_1 rfl rfl ?_
  refine k_callV C okX4_28 dX4_setStep_2 (c_Law_hasState M s (by omega)) rfl rfl (by decide) rfl (by decide) rfl (Nat.le_of_ble_eq_true rfl) (fun r2 M2 hr2 hp2 => ?_)
  obtain ⟨rfl, hp2⟩ := hp2
  refine k_if_eq C (tgt := 27) dX4_setStep_5 rfl (by omega) (fun c5 => ?_) (fun c5 => ?_)
  · exact k_vret C dX4_setStep_27 (fun _ => by first | omega | rw [Int.mul_comm])
  · refine k_iload_n C dX4_setStep_8 rfl rfl ?_
    refine k_callN C okX4_32 dX4_setStep_9 (c_isCall M c (by omega)) rfl (by decide) rfl (Nat.le_of_ble_eq_true rfl) (fun r9 M9 hr9 hp9 => ?_)
    obtain ⟨rfl, hp9⟩ := hp9
    refine k_if_eq C (tgt := 27) dX4_setStep_12 rfl (by omega) (fun c12 => ?_) (fun c12 => ?_)
    · exact k_vret C dX4_setStep_27 (fun _ => by first | omega | rw [Int.mul_comm])
    · refine k_aload_n C dX4_setStep_15 rfl rfl ?_
      refine k_getR C (j := 0) okC4 rfl (by decide) (by decide) rfl flX4_9 dX4_setStep_16 ?_
      refine k_iload_n C dX4_setStep_19 rfl rfl ?_
      refine k_bipush C dX4_setStep_20 (by decide) ?_
      refine k_imul C dX4_setStep_22 ?_
      refine k_iload_n C dX4_setStep_23 rfl rfl ?_
      refine k_iadd C dX4_setStep_24 ?_
      refine k_iload_n C dX4_setStep_25 rfl rfl ?_
      refine k_iastore C rfl (by decide) (by decide) ⟨by omega, by omega⟩ (by omega) dX4_setStep_26 ?_
      exact k_vret C dX4_setStep_27 (fun _ => by first | omega | rw [Int.mul_comm])
noncomputable def cnf (P : Int → Prop) : Nat → Int
  | 0 => 0
  | n + 1 => cnf P n + iteP (P n) 1 0
noncomputable def cnI (P : Int → Prop) (n : Int) : Int := cnf P n.toNat
theorem cnI_s (P : Int → Prop) {n : Int} (h : 0 ≤ n) : cnI P (n + 1) = cnI P n + iteP (P n) 1 0 := by
  unfold cnI
  have e : (n + 1).toNat = n.toNat + 1 := by omega
  have e2 : ((n.toNat : Nat) : Int) = n := by omega
  rw [e]
  simp only [cnf, e2]
theorem cnf_rg (P : Int → Prop) : ∀ n, 0 ≤ cnf P n ∧ cnf P n ≤ n
  | 0 => by simp [cnf]
  | n + 1 => by
    have ih := cnf_rg P n
    simp only [cnf]
    by_cases h : P n
    · rw [iteP_pos h]; omega
    · rw [iteP_neg h]; omega
theorem cnI_rg (P : Int → Prop) {n : Int} (h : 0 ≤ n) : 0 ≤ cnI P n ∧ cnI P n ≤ n := by
  have := cnf_rg P n.toNat
  unfold cnI; omega
set_option maxRecDepth 100000 in
theorem l_countSteps {K : Kt} (M : Mem) (C : Ctx shC nC RX4 cX4_countSteps 3 (some .int) (lvl 0) (fun r M' => M = M' ∧ r = cnI (fun i => ¬ M 24 i = -1) 240) K) (sum i : Int) (hi : 0 ≤ i ∧ i ≤ 240) (hs : sum = cnI (fun i => ¬ M 24 i = -1) i) : K 4 [(0, .inr 23), (1, .inl sum), (2, .inl i)] [] M := by
  have hq := cnI_rg (fun i => ¬ M 24 i = -1) hi.1
  refine k_iload_n C dX4_countSteps_4 rfl rfl ?_
  refine k_sipush C dX4_countSteps_5 (by decide) ?_
  refine k_icmp_ge C (tgt := 35) dX4_countSteps_8 rfl (by omega) (by omega) (fun c8 => ?_) (fun c8 => ?_)
  · refine k_iload_n C dX4_countSteps_35 rfl rfl ?_
    exact k_iret C dX4_countSteps_36 (by omega) (fun _ => ⟨rfl, by rw [hs, show i = 240 by omega]⟩)
  · refine k_iload_n C dX4_countSteps_11 rfl rfl ?_
    refine k_aload_n C dX4_countSteps_12 rfl rfl ?_
    refine k_getR C (j := 0) okC4 rfl (by decide) (by decide) rfl flX4_9 dX4_countSteps_13 ?_
    refine k_iload_n C dX4_countSteps_16 rfl rfl ?_
    refine k_iaload C rfl (by decide) (by decide) ⟨by omega, by omega⟩ dX4_countSteps_17 (fun _ => ?_)
    refine k_iconst C dX4_countSteps_18 ?_
    refine k_icmp_eq C (tgt := 26) dX4_countSteps_19 rfl (by omega) (by omega) (fun c19 => ?_) (fun c19 => ?_)
    · refine k_iconst C dX4_countSteps_26 ?_
      refine k_iadd C dX4_countSteps_27 ?_
      refine k_istore_n C dX4_countSteps_28 rfl (by decide) ?_
      refine k_iinc C dX4_countSteps_29 (by decide) rfl ?_
      refine k_goto C (tgt := 4) dX4_countSteps_32 rfl ?_
      refine k_cut2 C (lv' := [(0, _), (1, _), (2, _)]) ⟨rfl, rfl, rfl, trivial⟩ ?_
      refine l_countSteps M C _ _ (by omega) ?_
      rw [cnI_s _ hi.1]
      first | (rw [iteP_pos c19, hs]; done) | (rw [iteP_neg (fun h => h c19), hs]; done)
    · refine k_iconst C dX4_countSteps_22 ?_
      refine k_goto C (tgt := 27) dX4_countSteps_23 rfl ?_
      refine k_iadd C dX4_countSteps_27 ?_
      refine k_istore_n C dX4_countSteps_28 rfl (by decide) ?_
      refine k_iinc C dX4_countSteps_29 (by decide) rfl ?_
      refine k_goto C (tgt := 4) dX4_countSteps_32 rfl ?_
      refine k_cut2 C (lv' := [(0, _), (1, _), (2, _)]) ⟨rfl, rfl, rfl, trivial⟩ ?_
      refine l_countSteps M C _ _ (by omega) ?_
      rw [cnI_s _ hi.1]
      first | (rw [iteP_pos c19, hs]; done) | (rw [iteP_neg (fun h => h c19), hs]; done)
termination_by (240 - i).toNat
decreasing_by all_goals omega
set_option maxRecDepth 100000 in
theorem c_Law_countSteps (M : Mem) : Ct shC nC yX4_countSteps cX4_countSteps 3 (some .int) (lvl 0) [.inr 23] M (fun r M' => M = M' ∧ r = cnI (fun i => ¬ M 24 i = -1) 240) := by
  refine Ct_of (by decide +kernel) (Nat.le_of_ble_eq_true rfl) (fun K C => ?_)
  refine k_iconst C dX4_countSteps_0 ?_
  refine k_istore_n C dX4_countSteps_1 rfl (by decide) ?_
  refine k_iconst C dX4_countSteps_2 ?_
  refine k_istore_n C dX4_countSteps_3 rfl (by decide) ?_
  refine k_cut2 C (lv' := [(0, _), (1, _), (2, _)]) ⟨rfl, rfl, rfl, trivial⟩ ?_
  exact l_countSteps M C _ _ (by omega) rfl
set_option maxRecDepth 100000 in
theorem l_stepsBelow {K : Kt} (M : Mem) (n : Int) (hn : inR n) (C : Ctx shC nC RX4 cX4_stepsBelow 4 (some .int) (lvl 0) (fun r M' => M = M' ∧ r = cnI (fun i => ¬ M 24 i = -1 ∧ M 25 i < n) 240) K) (sum i : Int) (hi : 0 ≤ i ∧ i ≤ 240) (hs : sum = cnI (fun i => ¬ M 24 i = -1 ∧ M 25 i < n) i) : K 4 [(0, .inr 23), (1, .inl n), (2, .inl sum), (3, .inl i)] [] M := by
  have hq := cnI_rg (fun i => ¬ M 24 i = -1 ∧ M 25 i < n) hi.1
  refine k_iload_n C dX4_stepsBelow_4 rfl rfl ?_
  refine k_sipush C dX4_stepsBelow_5 (by decide) ?_
  refine k_icmp_ge C (tgt := 45) dX4_stepsBelow_8 rfl (by omega) (by omega) (fun c8 => ?_) (fun c8 => ?_)
  · refine k_iload_n C dX4_stepsBelow_45 rfl rfl ?_
    exact k_iret C dX4_stepsBelow_46 (by omega) (fun _ => ⟨rfl, by rw [hs, show i = 240 by omega]⟩)
  · refine k_iload_n C dX4_stepsBelow_11 rfl rfl ?_
    refine k_aload_n C dX4_stepsBelow_12 rfl rfl ?_
    refine k_getR C (j := 0) okC4 rfl (by decide) (by decide) rfl flX4_9 dX4_stepsBelow_13 ?_
    refine k_iload_n C dX4_stepsBelow_16 rfl rfl ?_
    refine k_iaload C rfl (by decide) (by decide) ⟨by omega, by omega⟩ dX4_stepsBelow_17 (fun _ => ?_)
    refine k_iconst C dX4_stepsBelow_18 ?_
    refine k_icmp_eq C (tgt := 36) dX4_stepsBelow_19 rfl (by omega) (by omega) (fun c19 => ?_) (fun c19 => ?_)
    · refine k_iconst C dX4_stepsBelow_36 ?_
      refine k_iadd C dX4_stepsBelow_37 ?_
      refine k_istore_n C dX4_stepsBelow_38 rfl (by decide) ?_
      refine k_iinc C dX4_stepsBelow_39 (by decide) rfl ?_
      refine k_goto C (tgt := 4) dX4_stepsBelow_42 rfl ?_
      refine k_cut2 C (lv' := [(0, _), (1, _), (2, _), (3, _)]) ⟨rfl, rfl, rfl, rfl, trivial⟩ ?_
      refine l_stepsBelow M n hn C _ _ (by omega) ?_
      rw [cnI_s _ hi.1]
      first | (rw [iteP_pos ⟨c19, c29⟩, hs]; done) | (rw [iteP_neg (fun h => by have := h.2; omega), hs]; done) | (rw [iteP_neg (fun h => h.1 c19), hs]; done)
    · refine k_aload_n C dX4_stepsBelow_22 rfl rfl ?_
      refine k_getR C (j := 1) okC4 rfl (by decide) (by decide) rfl flX4_15 dX4_stepsBelow_23 ?_
      refine k_iload_n C dX4_stepsBelow_26 rfl rfl ?_
      refine k_iaload C rfl (by decide) (by decide) ⟨by omega, by omega⟩ dX4_stepsBelow_27 (fun _ => ?_)
      refine k_iload_n C dX4_stepsBelow_28 rfl rfl ?_
      refine k_icmp_ge C (tgt := 36) dX4_stepsBelow_29 rfl (by omega) (by omega) (fun c29 => ?_) (fun c29 => ?_)
      · refine k_iconst C dX4_stepsBelow_36 ?_
        refine k_iadd C dX4_stepsBelow_37 ?_
        refine k_istore_n C dX4_stepsBelow_38 rfl (by decide) ?_
        refine k_iinc C dX4_stepsBelow_39 (by decide) rfl ?_
        refine k_goto C (tgt := 4) dX4_stepsBelow_42 rfl ?_
        refine k_cut2 C (lv' := [(0, _), (1, _), (2, _), (3, _)]) ⟨rfl, rfl, rfl, rfl, trivial⟩ ?_
        refine l_stepsBelow M n hn C _ _ (by omega) ?_
        rw [cnI_s _ hi.1]
        first | (rw [iteP_pos ⟨c19, c29⟩, hs]; done) | (rw [iteP_neg (fun h => by have := h.2; omega), hs]; done) | (rw [iteP_neg (fun h => h.1 c19), hs]; done)
      · refine k_iconst C dX4_stepsBelow_32 ?_
        refine k_goto C (tgt := 37) dX4_stepsBelow_33 rfl ?_
        refine k_iadd C dX4_stepsBelow_37 ?_
        refine k_istore_n C dX4_stepsBelow_38 rfl (by decide) ?_
        refine k_iinc C dX4_stepsBelow_39 (by decide) rfl ?_
        refine k_goto C (tgt := 4) dX4_stepsBelow_42 rfl ?_
        refine k_cut2 C (lv' := [(0, _), (1, _), (2, _), (3, _)]) ⟨rfl, rfl, rfl, rfl, trivial⟩ ?_
        refine l_stepsBelow M n hn C _ _ (by omega) ?_
        rw [cnI_s _ hi.1]
        first | (rw [iteP_pos ⟨c19, c29⟩, hs]; done) | (rw [iteP_neg (fun h => by have := h.2; omega), hs]; done) | (rw [iteP_neg (fun h => h.1 c19), hs]; done)
termination_by (240 - i).toNat
decreasing_by all_goals omega
set_option maxRecDepth 100000 in
theorem c_Law_stepsBelow (M : Mem) (n : Int) (hn : inR n) : Ct shC nC yX4_stepsBelow cX4_stepsBelow 4 (some .int) (lvl 0) [.inr 23, .inl n] M (fun r M' => M = M' ∧ r = cnI (fun i => ¬ M 24 i = -1 ∧ M 25 i < n) 240) := by
  refine Ct_of (by decide +kernel) (Nat.le_of_ble_eq_true rfl) (fun K C => ?_)
  refine k_iconst C dX4_stepsBelow_0 ?_
  refine k_istore_n C dX4_stepsBelow_1 rfl (by decide) ?_
  refine k_iconst C dX4_stepsBelow_2 ?_
  refine k_istore_n C dX4_stepsBelow_3 rfl (by decide) ?_
  refine k_cut2 C (lv' := [(0, _), (1, _), (2, _), (3, _)]) ⟨rfl, rfl, rfl, rfl, trivial⟩ ?_
  exact l_stepsBelow M n hn C _ _ (by omega) rfl
