/-! LEAST: the class's states and least; the reference's isWrongTaken, can, least -/

/-- the answer of least: a the states tried, from one on -/
def lsP (W : (Int → Int) → Prop) (pr lc : Int → Int) (m a : Int) : Prop := canP W pr lc a (m - 1).toNat 1 (fun _ => -1) (fun _ => 0) 1
def LsP (W : (Int → Int) → Prop) (pr lc : Int → Int) (m r : Int) : Prop := (m > 16 ∧ r = -1) ∨ (m ≤ 16 ∧ (1 ≤ r ∧ r ≤ 4) ∧ (∀ a, 1 ≤ a → a < r → ¬ lsP W pr lc m a) ∧ (r ≤ 3 → lsP W pr lc m r))
def SF (M N : Mem) : Prop := (∀ j, j ≠ 3 → j ≠ 8 → j ≠ 26 → j ≠ 27 → j ≠ 28 → N j = M j) ∧ (∀ i, i ≠ 5 → N 3 i = M 3 i) ∧ ∀ i, i ≠ 4 → N 26 i = M 26 i
set_option maxHeartbeats 4000000 in
set_option maxRecDepth 100000 in
theorem l_states {K : Kt} (M : Mem) (hB : BkC M) (hT : FwT M) (C : Ctx shC nC RX1 cX1_states 2 (some .int) (lvl 40) (fun r M' => SF M M' ∧ (1 ≤ r ∧ r ≤ 4) ∧ (∀ a, 1 ≤ a → a < r → ¬ lsP (TWc M (fun x => x)) (M 11) (M 12) (M 9 6) a) ∧ (r ≤ 3 → lsP (TWc M (fun x => x)) (M 11) (M 12) (M 9 6) r)) K) (N : Mem) (hF : SF M N) (hb : BndI N N (N 3 6)) (a : Int) (ha : 1 ≤ a ∧ a ≤ 4) (hno : ∀ t, 1 ≤ t → t < a → ¬ lsP (TWc M (fun x => x)) (M 11) (M 12) (M 9 6) t) : K 9 [(0, .inr 26), (1, .inl a)] [] N := by
  have t1 := hT.1
  refine k_iload_n C dX1_states_9 rfl rfl ?_
  refine k_iconst C dX1_states_10 ?_
  refine k_icmp_gt C (tgt := 51) dX1_states_11 rfl (by omega) (by omega) (fun c11 => ?_) (fun c11 => ?_)
  · refine k_iconst C dX1_states_51 ?_
    exact k_iret C dX1_states_52 (by omega) (fun _ => ⟨hF, by omega, fun t x y => hno t x (by omega), fun q => by omega⟩)
  · refine k_aload_n C dX1_states_14 rfl rfl ?_
    refine k_iload_n C dX1_states_15 rfl rfl ?_
    refine k_putJ C 4 4 rfl okC1 rfl (by decide) (by decide) rfl rfl rfl (by omega) flX1_31 dX1_states_16 ?_
    refine k_aload_n C dX1_states_19 rfl rfl ?_
    refine k_getR C (j := 2) okC1 rfl (by decide) (by decide) rfl flX1_9 dX1_states_20 ?_
    refine k_iconst C dX1_states_23 ?_
    refine k_callS C okX1_35 dX1_states_24 (c_fill 27 24 rfl (by decide) (by decide) _ (-1) (by decide)) rfl (by decide) rfl (Nat.le_of_ble_eq_true rfl) (fun r24 M24 hr24 hp24 => ?_)
    subst hp24
    refine k_aload_n C dX1_states_27 rfl rfl ?_
    refine k_getR C (j := 3) okC1 rfl (by decide) (by decide) rfl flX1_15 dX1_states_28 ?_
    refine k_iconst C dX1_states_31 ?_
    refine k_iconst C dX1_states_32 ?_
    refine k_iastore C rfl (by decide) (by decide) ⟨by omega, by omega⟩ (by omega) dX1_states_33 ?_
    have SL : SF M (up (fillM (up N 26 4 a) 27 24 (-1)) 28 0 0) := ⟨fun j p q r s t => by rw [up_ne t, fillM_ne s, up_ne r]; exact hF.1 j p q r s t, fun i hi => by rw [up_ne (by decide), fillM_ne (by decide), up_ne (by decide)]; exact hF.2.1 i hi, fun i hi => by rw [up_ne (by decide), fillM_ne (by decide), up_at, if_neg hi]; exact hF.2.2 i hi⟩
    have o3 : ∀ j, j ≠ 26 → j ≠ 27 → j ≠ 28 → up (fillM (up N 26 4 a) 27 24 (-1)) 28 0 0 j = N j := fun j p q r => by rw [up_ne r, fillM_ne q, up_ne p]
    have aL : up (fillM (up N 26 4 a) 27 24 (-1)) 28 0 0 26 4 = a := by rw [up_ne (by decide), fillM_ne (by decide), up_same]
    have g27 : ∀ i, 0 ≤ i → i < 24 → up (fillM (up N 26 4 a) 27 24 (-1)) 28 0 0 27 i = -1 := fun i p q => by rw [up_ne (by decide)]; exact fillM_in ⟨p, q⟩
    have g28 : up (fillM (up N 26 4 a) 27 24 (-1)) 28 0 0 28 0 = 0 := up_same
    generalize up (fillM (up N 26 4 a) 27 24 (-1)) 28 0 0 = L at *
    have s9 : L 9 = M 9 := SL.1 9 (by decide) (by decide) (by decide) (by decide) (by decide)
    have s11 : L 11 = M 11 := SL.1 11 (by decide) (by decide) (by decide) (by decide) (by decide)
    have s12 : L 12 = M 12 := SL.1 12 (by decide) (by decide) (by decide) (by decide) (by decide)
    have s4 : L 4 = M 4 := SL.1 4 (by decide) (by decide) (by decide) (by decide) (by decide)
    have s5 : L 5 = M 5 := SL.1 5 (by decide) (by decide) (by decide) (by decide) (by decide)
    have s6 : L 6 = M 6 := SL.1 6 (by decide) (by decide) (by decide) (by decide) (by decide)
    have s7 : L 7 = M 7 := SL.1 7 (by decide) (by decide) (by decide) (by decide) (by decide)
    have s36 : L 3 6 = M 3 6 := SL.2.1 6 (by decide)
    have hBL : BkC L := by unfold BkC; rw [s36, s4, s5, s6, s7]; exact hB
    have hTL : FwT L := by unfold FwT; rw [s9, s11, s12]; exact hT
    have tL : TWc L = TWc M := by unfold TWc; rw [s36, s4, s5, s6, s7]
    have hbL : BndI L L (L 3 6) := by unfold BndI askC; rw [o3 3 (by decide) (by decide) (by decide), o3 4 (by decide) (by decide) (by decide), o3 5 (by decide) (by decide) (by decide), o3 6 (by decide) (by decide) (by decide), o3 7 (by decide) (by decide) (by decide), o3 8 (by decide) (by decide) (by decide)]; exact hb
    refine k_aload_n C dX1_states_34 rfl rfl ?_
    refine k_iconst C dX1_states_35 ?_
    refine k_iconst C dX1_states_36 ?_
    refine k_callV C okX1_41 dX1_states_37 (c_from L hBL hbL hTL (by rw [aL]; omega) (M 9 6 - 1).toNat L 1 1 ⟨fun _ _ _ => rfl, fun i p q => Or.inl (g27 i p (by omega)), fun k p q => by rw [show k = 0 by omega, g28]; omega, by omega⟩ (by omega) (by rw [s9]; omega)) rfl rfl (by decide) rfl ⟨rfl, rfl, by show 6 + 2 * (M 9 6 - 1).toNat + 1 ≤ 40; omega, by show 8 + (4 + 11) + 64 * (6 + 2 * (M 9 6 - 1).toNat) ≤ 64 * (40); omega⟩ rfl (Nat.le_of_ble_eq_true rfl) (fun r37 M37 hr37 hp37 => ?_)
    obtain ⟨F37, hp37⟩ := hp37
    have cq : cnc L L (M 9 6 - 1).toNat 1 1 ↔ lsP (TWc M (fun x => x)) (M 11) (M 12) (M 9 6) a := by
      unfold cnc lsP
      rw [tL, s11, s12, aL]
      have hpl : ∀ k, (1 : Int) ≤ k → k < 1 + ((M 9 6 - 1).toNat : Int) → (0 ≤ M 11 k ∧ M 11 k < k) ∧ (0 ≤ M 12 k ∧ M 12 k < 8) ∧ M 11 k = M 11 k ∧ M 12 k = M 12 k := fun k x y => by
        have := hT.2 k x (by omega)
        exact ⟨this.1, this.2, rfl, rfl⟩
      exact ⟨canP_cg hB (by omega) _ 1 _ _ _ _ 1 hpl (fun i p q => Or.inl (g27 i p (by omega))) (fun i p q => (g27 i p q).symm) (fun k p q => by rw [show k = 0 by omega, g28]; exact ⟨by omega, rfl⟩), canP_cg hB (by omega) _ 1 _ _ _ _ 1 hpl (fun i p q => Or.inl rfl) (fun i p q => g27 i p q) (fun k p q => by rw [show k = 0 by omega, g28]; exact ⟨by omega, rfl⟩)⟩
    rw [cq] at hp37
    have F2 : SF M M37 := ⟨fun j p q r s t => by rw [F37 j s t]; exact SL.1 j p q r s t, fun i hi => by rw [F37 3 (by decide) (by decide)]; exact SL.2.1 i hi, fun i hi => by rw [F37 26 (by decide) (by decide)]; exact SL.2.2 i hi⟩
    refine k_if_eq C (tgt := 45) dX1_states_40 rfl (by omega) (fun c40 => ?_) (fun c40 => ?_)
    · refine k_iinc C dX1_states_45 (by decide) rfl ?_
      refine k_goto C (tgt := 9) dX1_states_48 rfl ?_
      refine k_cut2 C (lv' := [(0, _), (1, _)]) ⟨rfl, rfl, trivial⟩ ?_
      rcases hp37 with z | ⟨z0, z1, z2, z3⟩
      · exfalso; omega
      · refine l_states M hB hT C M37 F2 ?_ (a + 1) (by omega) (fun t x y => ?_)
        · unfold BndI askC
          rw [F37 3 (by decide) (by decide), F37 4 (by decide) (by decide), F37 5 (by decide) (by decide), F37 6 (by decide) (by decide), F37 7 (by decide) (by decide), F37 8 (by decide) (by decide)]; exact hbL
        · by_cases e : t = a
          · rw [e]; exact z1
          · exact hno t x (by omega)
    · refine k_iload_n C dX1_states_43 rfl rfl ?_
      exact k_iret C dX1_states_44 (by omega) (fun _ => by
      rcases hp37 with z | z
      · exact ⟨F2, by omega, hno, fun _ => z.2⟩
      · exfalso; omega)
termination_by (4 - a).toNat
decreasing_by all_goals omega
set_option maxHeartbeats 4000000 in
set_option maxRecDepth 100000 in
theorem c_states (M : Mem) (hB : BkC M) (hT : FwT M) : Ct shC nC yX1_states cX1_states 2 (some .int) (lvl 40) [.inr 26] M (fun r M' => SF M M' ∧ (1 ≤ r ∧ r ≤ 4) ∧ (∀ a, 1 ≤ a → a < r → ¬ lsP (TWc M (fun x => x)) (M 11) (M 12) (M 9 6) a) ∧ (r ≤ 3 → lsP (TWc M (fun x => x)) (M 11) (M 12) (M 9 6) r)) := by
  refine Ct_of (by decide +kernel) (Nat.le_of_ble_eq_true rfl) (fun K C => ?_)
  refine k_aload_n C dX1_states_0 rfl rfl ?_
  refine k_getR C (j := 0) okC1 rfl (by decide) (by decide) rfl flX1_18 dX1_states_1 ?_
  refine k_callV C okX1_26 dX1_states_4 (c_Book_gather M hB) rfl rfl (by decide) rfl (by decide) rfl (Nat.le_of_ble_eq_true rfl) (fun r4 M4 hr4 hp4 => ?_)
  refine k_iconst C dX1_states_7 ?_
  refine k_istore_n C dX1_states_8 rfl (by decide) ?_
  refine k_cut2 C (lv' := [(0, _), (1, _)]) ⟨rfl, rfl, trivial⟩ ?_
  refine l_states M hB hT C M4 ⟨fun j p q r s t => hp4.1.1 j q p, hp4.1.2, fun i _ => by rw [hp4.1.1 26 (by decide) (by decide)]⟩ ?_ 1 (by omega) (fun t x y => by omega)
  have q := hp4.2
  unfold BndI askC at q ⊢
  rw [hp4.1.2 6 (by decide), hp4.1.1 4 (by decide) (by decide), hp4.1.1 5 (by decide) (by decide), hp4.1.1 6 (by decide) (by decide), hp4.1.1 7 (by decide) (by decide)]; exact q
def LsF (M N : Mem) : Prop := (∀ j, j ≠ 3 → j ≠ 26 → j < 8 ∨ 14 < j → j ≠ 27 → j ≠ 28 → N j = M j) ∧ (∀ i, i ≠ 5 → N 3 i = M 3 i)
def LsC (M N : Mem) (r : Int) : Prop := LsF M N ∧ ∃ m ch pr lc, TrOk 60 (cutC M) (M 4) m ch pr lc ∧ m ≤ 721 ∧ LsP (TWc M (fun x => x)) pr lc m r
set_option maxHeartbeats 4000000 in
set_option maxRecDepth 100000 in
theorem c_least (M : Mem) (hB : BkC M) : Ct shC nC yX10_least cX10_least 1 (some .int) (lvl 41) [.inr 0] M (fun r M' => LsC M M' r) := by
  refine Ct_of (by decide +kernel) (Nat.le_of_ble_eq_true rfl) (fun K C => ?_)
  refine k_aload_n C dX10_least_0 rfl rfl ?_
  refine k_getR C (j := 2) okC10 rfl (by decide) (by decide) rfl flX10_30 dX10_least_1 ?_
  refine k_callV C okX10_144 dX10_least_4 (c_Tree_grow M hB) rfl rfl (by decide) rfl (by decide) rfl (Nat.le_of_ble_eq_true rfl) (fun r4 M4 hr4 hp4 => ?_)
  have hT := hp4.2.2.1
  have cap := hp4.2.2.2
  have t1 := hT.1
  have t4 : TWc M4 = TWc M := by unfold TWc; rw [hp4.1.1 3 (by decide) (by decide) (by decide) (by decide) (by decide) (by decide), hp4.1.1 4 (by decide) (by decide) (by decide) (by decide) (by decide) (by decide), hp4.1.1 5 (by decide) (by decide) (by decide) (by decide) (by decide) (by decide), hp4.1.1 6 (by decide) (by decide) (by decide) (by decide) (by decide) (by decide), hp4.1.1 7 (by decide) (by decide) (by decide) (by decide) (by decide) (by decide)]
  refine k_aload_n C dX10_least_7 rfl rfl ?_
  refine k_getR C (j := 2) okC10 rfl (by decide) (by decide) rfl flX10_30 dX10_least_8 ?_
  refine k_getJ C 6 6 rfl okC9 rfl (by decide) (by decide) rfl flX10_175 dX10_least_11 (fun ld11 => ?_)
  refine k_bipush C dX10_least_14 (by decide) ?_
  refine k_icmp_le C (tgt := 23) dX10_least_16 rfl (by omega) (by omega) (fun c16 => ?_) (fun c16 => ?_)
  · refine k_aload_n C dX10_least_23 rfl rfl ?_
    refine k_getR C (j := 5) okC10 rfl (by decide) (by decide) rfl flX10_53 dX10_least_24 ?_
    refine k_callV C okX10_176 dX10_least_27 (c_states M4 (hp4.1.bk hB) ⟨⟨hT.1, by omega⟩, fun k a b => ⟨⟨(hT.2.1 k a b).1, (hT.2.1 k a b).2.1⟩, ⟨(hT.2.1 k a b).2.2.1, (hT.2.1 k a b).2.2.2.1⟩⟩⟩) rfl rfl (by decide) rfl (by decide) rfl (Nat.le_of_ble_eq_true rfl) (fun r27 M27 hr27 hp27 => ?_)
    rw [t4] at hp27
    exact k_iret C dX10_least_30 (by omega) (fun _ => by
      first
      | (refine ⟨⟨fun j a b c d e => ?_, fun i hi => ?_⟩, M4 9 6, M4 10, M4 11, M4 12, hT, cap, Or.inr ⟨by omega, hp27.2⟩⟩
         · rw [hp27.1.1 j a (by omega) b d e]; exact hp4.1.1 j (by omega) (by omega) (by omega) (by omega) (by omega) (by omega)
         · rw [hp27.1.2.1 i hi, hp4.1.1 3 (by decide) (by decide) (by decide) (by decide) (by decide) (by decide)])
      | (refine ⟨⟨fun j a b c d e => hp4.1.1 j (by omega) (by omega) (by omega) (by omega) (by omega) (by omega), fun i hi => by rw [hp4.1.1 3 (by decide) (by decide) (by decide) (by decide) (by decide) (by decide)]⟩, M4 9 6, M4 10, M4 11, M4 12, hT, cap, Or.inl ⟨by omega, rfl⟩⟩))
  · refine k_iconst C dX10_least_19 ?_
    refine k_goto C (tgt := 30) dX10_least_20 rfl ?_
    exact k_iret C dX10_least_30 (by omega) (fun _ => by
      first
      | (refine ⟨⟨fun j a b c d e => ?_, fun i hi => ?_⟩, M4 9 6, M4 10, M4 11, M4 12, hT, cap, Or.inr ⟨by omega, hp27.2⟩⟩
         · rw [hp27.1.1 j a (by omega) b d e]; exact hp4.1.1 j (by omega) (by omega) (by omega) (by omega) (by omega) (by omega)
         · rw [hp27.1.2.1 i hi, hp4.1.1 3 (by decide) (by decide) (by decide) (by decide) (by decide) (by decide)])
      | (refine ⟨⟨fun j a b c d e => hp4.1.1 j (by omega) (by omega) (by omega) (by omega) (by omega) (by omega), fun i hi => by rw [hp4.1.1 3 (by decide) (by decide) (by decide) (by decide) (by decide) (by decide)]⟩, M4 9 6, M4 10, M4 11, M4 12, hT, cap, Or.inl ⟨by omega, rfl⟩⟩))
set_option maxHeartbeats 4000000 in
set_option maxRecDepth 100000 in
theorem m_iw2 {K : Kt} (bl : Nat) (M : Mem) (hB : BkM M) (hC : ChOk 3 (M 23)) (hA : ∀ x, 0 ≤ x → x < M 0 7 → ((M 7 x = 1 ∧ askM M x) ∨ (M 7 x = 0 ∧ ¬ askM M x))) (C : Ctx (shM bl) nM RX11 cX11_isWrongTaken 4 (some .boolean) (lvl 0) (fun r M' => M = M' ∧ ((r = 1 ∧ TWm M (fun x => x) (M 23)) ∨ (r = 0 ∧ ¬ TWm M (fun x => x) (M 23)))) K) (row : Int) (hr : 0 ≤ row ∧ row < M 0 7) (hk1 : askM M row) (i a : Int) (hi : 0 ≤ i ∧ i ≤ M 3 row) (ha : a = wkf (fun x => x) (M 23) (M 2) row i.toNat) (hn : ¬ a = -1) (kk : ¬ tkn (fun x => x) (M 23) (M 2) (M 3) row → K 2 [(0, .inr 0), (1, .inl (row + 1))] [] M) : K 26 [(0, .inr 0), (1, .inl row), (2, .inl a), (3, .inl i)] [] M := by
  have b1 := hB.1; have b2 := hB.2.1; have hb := hB.2.2 row hr.1 hr.2
  have g := wkf_in (m := 3) Fo_id hC (by omega) hb.2.2.2.2.2 i.toNat (by omega)
  rw [← ha] at g
  refine k_iload_n C dX11_isWrongTaken_26 rfl rfl ?_
  refine k_aload_n C dX11_isWrongTaken_27 rfl rfl ?_
  refine k_getR C (j := 4) okC11 rfl (by decide) (by decide) rfl flX11_16 dX11_isWrongTaken_28 ?_
  refine k_iload_n C dX11_isWrongTaken_31 rfl rfl ?_
  refine k_iaload C rfl (by decide) (by decide) ⟨by omega, by omega⟩ dX11_isWrongTaken_32 (fun ld32 => ?_)
  refine k_icmp_ge C (tgt := 88) dX11_isWrongTaken_33 rfl (by omega) (by omega) (fun c33 => ?_) (fun c33 => ?_)
  · refine k_iload_n C dX11_isWrongTaken_88 rfl rfl ?_
    refine k_aload_n C dX11_isWrongTaken_89 rfl rfl ?_
    refine k_getR C (j := 4) okC11 rfl (by decide) (by decide) rfl flX11_16 dX11_isWrongTaken_90 ?_
    refine k_iload_n C dX11_isWrongTaken_93 rfl rfl ?_
    refine k_iaload C rfl (by decide) (by decide) ⟨by omega, by omega⟩ dX11_isWrongTaken_94 (fun ld94 => ?_)
    refine k_icmp_ne C (tgt := 100) dX11_isWrongTaken_95 rfl (by omega) (by omega) (fun c95 => ?_) (fun c95 => ?_)
    · refine k_iinc C dX11_isWrongTaken_100 (by decide) rfl ?_
      refine k_goto C (tgt := 2) dX11_isWrongTaken_103 rfl ?_
      refine k_cut2 C (lv' := [(0, _), (1, _)]) ⟨rfl, rfl, trivial⟩ ?_
      first | (exfalso; omega) | exact kk (fun t => t (wkf_m _ (i + 1).toNat (by omega) (wx (by omega))))
    · refine k_iconst C dX11_isWrongTaken_98 ?_
      exact k_zret C dX11_isWrongTaken_99 (by omega) (fun _ => by
      first
      | (exfalso; omega)
      | exact ⟨rfl, Or.inl ⟨rfl, row, hk1, by unfold tkn; rw [show M 3 row = i by omega, ← ha]; exact hn⟩⟩)
  · have q := hb.2.2.2.2.2 i hi.1 c33
    have o := hC (8 * a + M 2 (12 * row + i)) (by omega) (by omega)
    have ws := wkf_s (it := fun x => x) (ch := M 23) (ca := M 2) (r := row) hi.1 (by rw [← ha]; exact hn)
    have wx := wkf_x (it := fun x => x) (ch := M 23) (ca := M 2) (r := row) hi.1
    rw [← ha] at ws wx
    rw [rt_id] at ws
    refine k_aload_n C dX11_isWrongTaken_36 rfl rfl ?_
    refine k_getR C (j := 28) okC11 rfl (by decide) (by decide) rfl flX11_77 dX11_isWrongTaken_37 ?_
    refine k_bipush C dX11_isWrongTaken_40 (by decide) ?_
    refine k_iload_n C dX11_isWrongTaken_42 rfl rfl ?_
    refine k_imul C dX11_isWrongTaken_43 ?_
    refine k_aload_n C dX11_isWrongTaken_44 rfl rfl ?_
    refine k_getR C (j := 3) okC11 rfl (by decide) (by decide) rfl flX11_13 dX11_isWrongTaken_45 ?_
    refine k_bipush C dX11_isWrongTaken_48 (by decide) ?_
    refine k_iload_n C dX11_isWrongTaken_50 rfl rfl ?_
    refine k_imul C dX11_isWrongTaken_51 ?_
    refine k_iload_n C dX11_isWrongTaken_52 rfl rfl ?_
    refine k_iadd C dX11_isWrongTaken_53 ?_
    refine k_iaload C rfl (by decide) (by decide) ⟨by omega, by omega⟩ dX11_isWrongTaken_54 (fun ld54 => ?_)
    refine k_iadd C dX11_isWrongTaken_55 ?_
    refine k_iaload C rfl (by decide) (by decide) ⟨by omega, by omega⟩ dX11_isWrongTaken_56 (fun ld56 => ?_)
    refine k_if_lt C (tgt := 88) dX11_isWrongTaken_57 rfl (by omega) (fun c57 => ?_) (fun c57 => ?_)
    · refine k_iload_n C dX11_isWrongTaken_88 rfl rfl ?_
      refine k_aload_n C dX11_isWrongTaken_89 rfl rfl ?_
      refine k_getR C (j := 4) okC11 rfl (by decide) (by decide) rfl flX11_16 dX11_isWrongTaken_90 ?_
      refine k_iload_n C dX11_isWrongTaken_93 rfl rfl ?_
      refine k_iaload C rfl (by decide) (by decide) ⟨by omega, by omega⟩ dX11_isWrongTaken_94 (fun ld94 => ?_)
      refine k_icmp_ne C (tgt := 100) dX11_isWrongTaken_95 rfl (by omega) (by omega) (fun c95 => ?_) (fun c95 => ?_)
      · refine k_iinc C dX11_isWrongTaken_100 (by decide) rfl ?_
        refine k_goto C (tgt := 2) dX11_isWrongTaken_103 rfl ?_
        refine k_cut2 C (lv' := [(0, _), (1, _)]) ⟨rfl, rfl, trivial⟩ ?_
        first | (exfalso; omega) | exact kk (fun t => t (wkf_m _ (i + 1).toNat (by omega) (wx (by omega))))
      · refine k_iconst C dX11_isWrongTaken_98 ?_
        exact k_zret C dX11_isWrongTaken_99 (by omega) (fun _ => by
      first
      | (exfalso; omega)
      | exact ⟨rfl, Or.inl ⟨rfl, row, hk1, by unfold tkn; rw [show M 3 row = i by omega, ← ha]; exact hn⟩⟩)
    · refine k_aload_n C dX11_isWrongTaken_60 rfl rfl ?_
      refine k_getR C (j := 28) okC11 rfl (by decide) (by decide) rfl flX11_77 dX11_isWrongTaken_61 ?_
      refine k_bipush C dX11_isWrongTaken_64 (by decide) ?_
      refine k_iload_n C dX11_isWrongTaken_66 rfl rfl ?_
      refine k_imul C dX11_isWrongTaken_67 ?_
      refine k_aload_n C dX11_isWrongTaken_68 rfl rfl ?_
      refine k_getR C (j := 3) okC11 rfl (by decide) (by decide) rfl flX11_13 dX11_isWrongTaken_69 ?_
      refine k_bipush C dX11_isWrongTaken_72 (by decide) ?_
      refine k_iload_n C dX11_isWrongTaken_74 rfl rfl ?_
      refine k_imul C dX11_isWrongTaken_75 ?_
      refine k_iload_n C dX11_isWrongTaken_76 rfl rfl ?_
      refine k_iadd C dX11_isWrongTaken_77 ?_
      refine k_iaload C rfl (by decide) (by decide) ⟨by omega, by omega⟩ dX11_isWrongTaken_78 (fun ld78 => ?_)
      refine k_iadd C dX11_isWrongTaken_79 ?_
      refine k_iaload C rfl (by decide) (by decide) ⟨by omega, by omega⟩ dX11_isWrongTaken_80 (fun ld80 => ?_)
      refine k_istore_n C dX11_isWrongTaken_81 rfl (by decide) ?_
      refine k_iinc C dX11_isWrongTaken_82 (by decide) rfl ?_
      refine k_goto C (tgt := 26) dX11_isWrongTaken_85 rfl ?_
      refine k_cut2 C (lv' := [(0, _), (1, _), (2, _), (3, _)]) ⟨rfl, rfl, rfl, rfl, trivial⟩ ?_
      exact m_iw2 bl M hB hC hA C row hr hk1 (i + 1) _ (by omega) (by rw [ws (by omega)]) (by omega) kk
termination_by (M 3 row - i).toNat
decreasing_by all_goals omega
set_option maxHeartbeats 4000000 in
set_option maxRecDepth 100000 in
theorem m_iw1 {K : Kt} (bl : Nat) (M : Mem) (hB : BkM M) (hC : ChOk 3 (M 23)) (hA : ∀ x, 0 ≤ x → x < M 0 7 → ((M 7 x = 1 ∧ askM M x) ∨ (M 7 x = 0 ∧ ¬ askM M x))) (C : Ctx (shM bl) nM RX11 cX11_isWrongTaken 4 (some .boolean) (lvl 0) (fun r M' => M = M' ∧ ((r = 1 ∧ TWm M (fun x => x) (M 23)) ∨ (r = 0 ∧ ¬ TWm M (fun x => x) (M 23)))) K) (row : Int) (hr : 0 ≤ row ∧ row ≤ M 0 7) (hI : ∀ w, 0 ≤ w → w < row → askM M w → ¬ tkn (fun x => x) (M 23) (M 2) (M 3) w) : K 2 [(0, .inr 0), (1, .inl row)] [] M := by
  have b1 := hB.1; have b2 := hB.2.1; have hb := hB.2.2 row hr.1; have hAr := hA row hr.1
  refine k_iload_n C dX11_isWrongTaken_2 rfl rfl ?_
  refine k_aload_n C dX11_isWrongTaken_3 rfl rfl ?_
  refine k_getJ C 7 7 rfl okC11 rfl (by decide) (by decide) rfl flX11_147 dX11_isWrongTaken_4 (fun ld4 => ?_)
  refine k_icmp_ge C (tgt := 106) dX11_isWrongTaken_7 rfl (by omega) (by omega) (fun c7 => ?_) (fun c7 => ?_)
  · refine k_iconst C dX11_isWrongTaken_106 ?_
    exact k_zret C dX11_isWrongTaken_107 (by omega) (fun _ => ⟨rfl, Or.inr ⟨rfl, fun ⟨w, x, y⟩ => hI w x.1 (by have := x.2.1; omega) x y⟩⟩)
  · have hb := hb c7; have hAr := hAr c7
    refine k_aload_n C dX11_isWrongTaken_10 rfl rfl ?_
    refine k_getR C (j := 9) okC11 rfl (by decide) (by decide) rfl flX11_29 dX11_isWrongTaken_11 ?_
    refine k_iload_n C dX11_isWrongTaken_14 rfl rfl ?_
    refine k_zaload C rfl (by decide) (by decide) ⟨by omega, by omega⟩ dX11_isWrongTaken_15 (fun ld15 => ?_)
    refine k_if_ne C (tgt := 22) dX11_isWrongTaken_16 rfl (by omega) (fun c16 => ?_) (fun c16 => ?_)
    · refine k_iconst C dX11_isWrongTaken_22 ?_
      refine k_istore_n C dX11_isWrongTaken_23 rfl (by decide) ?_
      refine k_iconst C dX11_isWrongTaken_24 ?_
      refine k_istore_n C dX11_isWrongTaken_25 rfl (by decide) ?_
      refine k_cut2 C (lv' := [(0, _), (1, _), (2, _), (3, _)]) ⟨rfl, rfl, rfl, rfl, trivial⟩ ?_
      refine m_iw2 bl M hB hC hA C row ⟨hr.1, by omega⟩ (by rcases hAr with z | z; exact z.2; omega) 0 0 (by omega) rfl (by omega) (fun t => m_iw1 bl M hB hC hA C (row + 1) (by omega) (fun w x y z => ?_))
      by_cases e : w = row
      · rw [e]; exact t
      · exact hI w x (by omega) z
    · refine k_goto C (tgt := 100) dX11_isWrongTaken_19 rfl ?_
      refine k_iinc C dX11_isWrongTaken_100 (by decide) rfl ?_
      refine k_goto C (tgt := 2) dX11_isWrongTaken_103 rfl ?_
      refine k_cut2 C (lv' := [(0, _), (1, _)]) ⟨rfl, rfl, trivial⟩ ?_
      refine m_iw1 bl M hB hC hA C (row + 1) (by omega) (fun w x y z => ?_)
      by_cases e : w = row
      · subst e; rcases hAr with q | q; omega; exact absurd z q.2
      · exact hI w x (by omega) z
termination_by (M 0 7 - row).toNat
decreasing_by all_goals omega
set_option maxHeartbeats 4000000 in
set_option maxRecDepth 100000 in
theorem c_M_isWrongTaken (bl : Nat) (M : Mem) (hB : BkM M) (hC : ChOk 3 (M 23)) (hA : ∀ x, 0 ≤ x → x < M 0 7 → ((M 7 x = 1 ∧ askM M x) ∨ (M 7 x = 0 ∧ ¬ askM M x))) : Ct (shM bl) nM yX11_isWrongTaken cX11_isWrongTaken 4 (some .boolean) (lvl 0) [.inr 0] M (fun r M' => M = M' ∧ ((r = 1 ∧ TWm M (fun x => x) (M 23)) ∨ (r = 0 ∧ ¬ TWm M (fun x => x) (M 23)))) := by
  refine Ct_of (by decide +kernel) (Nat.le_of_ble_eq_true rfl) (fun K C => ?_)
  have b1 := hB.1
  refine k_iconst C dX11_isWrongTaken_0 ?_
  refine k_istore_n C dX11_isWrongTaken_1 rfl (by decide) ?_
  refine k_cut2 C (lv' := [(0, _), (1, _)]) ⟨rfl, rfl, trivial⟩ ?_
  exact m_iw1 bl M hB hC hA C 0 (by omega) (fun w x y => by omega)
def RWf (M N : Mem) : Prop := ∀ j, j ≠ 22 → j ≠ 23 → N j = M j
theorem RWf.e {M N : Mem} (h : RWf M N) : N 0 = M 0 ∧ N 2 = M 2 ∧ N 3 = M 3 ∧ N 4 = M 4 ∧ N 5 = M 5 ∧ N 7 = M 7 ∧ N 9 = M 9 ∧ N 10 = M 10 :=
  ⟨h 0 (by decide) (by decide), h 2 (by decide) (by decide), h 3 (by decide) (by decide), h 4 (by decide) (by decide), h 5 (by decide) (by decide), h 7 (by decide) (by decide), h 9 (by decide) (by decide), h 10 (by decide) (by decide)⟩
def RwT (M : Mem) : Prop := (1 ≤ M 0 13 ∧ M 0 13 ≤ 16) ∧ ∀ k, 1 ≤ k → k < M 0 13 → (0 ≤ M 9 k ∧ M 9 k < k) ∧ (0 ≤ M 10 k ∧ M 10 k < 8)
def RwJ (M N : Mem) (nd u : Int) : Prop := RWf M N ∧ ChOk 3 (N 23) ∧ (∀ k, 0 ≤ k → k < nd → 0 ≤ N 22 k ∧ N 22 k < 3) ∧ (0 ≤ u ∧ u ≤ 16)
abbrev cnm (M N : Mem) (a : Int) (f : Nat) (nd u : Int) : Prop := canP (TWm M (fun x => x)) (M 9) (M 10) a f nd (N 23) (N 22) u
def RwR (M N N' : Mem) (a : Int) (f : Nat) (nd u r : Int) : Prop := RWf M N' ∧ ((r = 1 ∧ cnm M N a f nd u) ∨ (r = 0 ∧ ¬ cnm M N a f nd u ∧ N' 23 = N 23 ∧ ∀ k, 0 ≤ k → k < nd → N' 22 k = N 22 k))
def AkA (M : Mem) : Prop := ∀ x, 0 ≤ x → x < M 0 7 → ((M 7 x = 1 ∧ askM M x) ∨ (M 7 x = 0 ∧ ¬ askM M x))
theorem RWf.bk {M N : Mem} (h : RWf M N) (hB : BkM M) : BkM N := by
  obtain ⟨a, b, c, d, e, -⟩ := h.e
  unfold BkM; rw [a, b, c, d, e]; exact hB
theorem RWf.ak {M N : Mem} (h : RWf M N) (hA : AkA M) : AkA N := by
  obtain ⟨a, b, c, d, e, f, -⟩ := h.e
  unfold AkA askM; rw [a, b, c, d, e, f]; exact hA
theorem RWf.tw {M N : Mem} (h : RWf M N) : TWm N = TWm M := by
  obtain ⟨a, b, c, d, e, -⟩ := h.e
  unfold TWm; rw [a, b, c, d, e]
set_option maxHeartbeats 4000000 in
set_option maxRecDepth 100000 in
theorem m_can2 {K : Kt} (bl : Nat) (M : Mem) (hB : BkM M) (hA : AkA M) (hT : RwT M) (a : Int) (ha : 1 ≤ a ∧ a ≤ 3) (f : Nat) (ih : ∀ (N : Mem) (nd u : Int), RwJ M N nd u → 1 ≤ nd → nd + f = M 0 13 → Ct (shM bl) nM yX11_can cX11_can 6 (some .boolean) (lvl (1 + f)) [.inr 0, .inl nd, .inl a, .inl u] N (fun r M' => RwR M N M' a f nd u r)) (B : Mem) (nd u : Int) (hI : RwJ M B nd u) (hnd : 1 ≤ nd ∧ nd + (f + 1 : Nat) = M 0 13) (e : Int) (he : e = 8 * B 22 (M 9 nd) + M 10 nd) (hg : B 23 e = -1) (C : Ctx (shM bl) nM RX11 cX11_can 6 (some .boolean) (lvl (1 + (f + 1))) (fun r M' => RwR M B M' a (f + 1) nd u r) K) (N : Mem) (hF : RWf M N) (s : Int) (hs : 0 ≤ s ∧ s ≤ a ∧ s ≤ u + 1) (h27 : ∀ i, i ≠ e → N 23 i = B 23 i) (h28 : ∀ k, 0 ≤ k → k < nd → N 22 k = B 22 k) (hno : ∀ t, 0 ≤ t → t < s → TWm M (fun x => x) (updI (B 23) e t) ∨ ¬ canP (TWm M (fun x => x)) (M 9) (M 10) a f (nd + 1) (updI (B 23) e t) (updI (B 22) nd t) (if t = u then u + 1 else u)) : K 69 [(0, .inr 0), (1, .inl nd), (2, .inl a), (3, .inl u), (4, .inl e), (5, .inl s)] [] N := by
  have t1 := hT.1
  obtain ⟨w1, w2⟩ := hT.2 nd hnd.1 (by omega)
  obtain ⟨f0, fC, fS, fU⟩ := id hI
  have so1 := fS (M 9 nd) w1.1 w1.2
  refine k_iload C dX11_can_69 rfl ?_
  refine k_iload_n C dX11_can_71 rfl rfl ?_
  refine k_icmp_ge C (tgt := 137) dX11_can_72 rfl (by omega) (by omega) (fun c72 => ?_) (fun c72 => ?_)
  · refine k_aload_n C dX11_can_137 rfl rfl ?_
    refine k_getR C (j := 28) okC11 rfl (by decide) (by decide) rfl flX11_77 dX11_can_138 ?_
    refine k_iload C dX11_can_141 rfl ?_
    refine k_iconst C dX11_can_143 ?_
    refine k_iastore C rfl (by decide) (by decide) ⟨by omega, by omega⟩ (by omega) dX11_can_144 ?_
    refine k_iconst C dX11_can_145 ?_
    exact k_zret C dX11_can_146 (by omega) (fun _ => by
        refine ⟨fun j p q => by rw [up_ne q]; exact hF j p q, Or.inr ⟨rfl, fun z => ?_, ?_, fun k p q => by rw [up_ne (by decide)]; exact h28 k p q⟩⟩
        · rcases z with ⟨z1, z2⟩ | ⟨z1, t, z2, z3, z4, z5, z6⟩
          · rw [← he] at z1; exact z1 hg
          · rw [← he] at z5 z6
            rcases hno t z2 (by omega) with y | y
            · exact z5 y
            · exact y z6
        · funext i
          rw [up_at]
          by_cases z : i = e
          · rw [if_pos z, z, hg]
          · rw [if_neg z]; exact h27 i z)
  · refine k_iload C dX11_can_75 rfl ?_
    refine k_iload_n C dX11_can_77 rfl rfl ?_
    refine k_icmp_gt C (tgt := 137) dX11_can_78 rfl (by omega) (by omega) (fun c78 => ?_) (fun c78 => ?_)
    · refine k_aload_n C dX11_can_137 rfl rfl ?_
      refine k_getR C (j := 28) okC11 rfl (by decide) (by decide) rfl flX11_77 dX11_can_138 ?_
      refine k_iload C dX11_can_141 rfl ?_
      refine k_iconst C dX11_can_143 ?_
      refine k_iastore C rfl (by decide) (by decide) ⟨by omega, by omega⟩ (by omega) dX11_can_144 ?_
      refine k_iconst C dX11_can_145 ?_
      exact k_zret C dX11_can_146 (by omega) (fun _ => by
        refine ⟨fun j p q => by rw [up_ne q]; exact hF j p q, Or.inr ⟨rfl, fun z => ?_, ?_, fun k p q => by rw [up_ne (by decide)]; exact h28 k p q⟩⟩
        · rcases z with ⟨z1, z2⟩ | ⟨z1, t, z2, z3, z4, z5, z6⟩
          · rw [← he] at z1; exact z1 hg
          · rw [← he] at z5 z6
            rcases hno t z2 (by omega) with y | y
            · exact z5 y
            · exact y z6
        · funext i
          rw [up_at]
          by_cases z : i = e
          · rw [if_pos z, z, hg]
          · rw [if_neg z]; exact h27 i z)
    · refine k_aload_n C dX11_can_81 rfl rfl ?_
      refine k_getR C (j := 28) okC11 rfl (by decide) (by decide) rfl flX11_77 dX11_can_82 ?_
      refine k_iload C dX11_can_85 rfl ?_
      refine k_iload C dX11_can_87 rfl ?_
      refine k_iastore C rfl (by decide) (by decide) ⟨by omega, by omega⟩ (by omega) dX11_can_89 ?_
      refine k_aload_n C dX11_can_90 rfl rfl ?_
      refine k_getR C (j := 27) okC11 rfl (by decide) (by decide) rfl flX11_74 dX11_can_91 ?_
      refine k_iload_n C dX11_can_94 rfl rfl ?_
      refine k_iload C dX11_can_95 rfl ?_
      refine k_iastore C rfl (by decide) (by decide) ⟨by omega, by omega⟩ (by omega) dX11_can_97 ?_
      have F2 : RWf M (up (up N 23 e s) 22 nd s) := fun j p q => by rw [up_ne p, up_ne q]; exact hF j p q
      have g27 : up (up N 23 e s) 22 nd s 23 = updI (B 23) e s := by
        funext i
        rw [up_ne (by decide), up_at]; unfold updI
        by_cases z : i = e
        · rw [if_pos z, if_pos z]
        · rw [if_neg z, if_neg z]; exact h27 i z
      have g28 : ∀ k, 0 ≤ k → k ≤ nd → up (up N 23 e s) 22 nd s 22 k = updI (B 22) nd s k := fun k p q => by
        rw [up_at, up_ne (by decide)]; unfold updI
        by_cases z : k = nd
        · rw [if_pos z, if_pos z]
        · rw [if_neg z, if_neg z]; exact h28 k p (by omega)
      have r28 : ∀ k, 0 ≤ k → k ≤ nd → 0 ≤ updI (B 22) nd s k ∧ updI (B 22) nd s k < 3 := fun k p q => by
        unfold updI
        by_cases z : k = nd
        · rw [if_pos z]; omega
        · rw [if_neg z]; exact fS k p (by omega)
      have C2 : ChOk 3 (updI (B 23) e s) := updI_chok fC (by omega)
      generalize up (up N 23 e s) 22 nd s = L at *
      have cq : ∀ u2, cnm M L a f (nd + 1) u2 ↔ canP (TWm M (fun x => x)) (M 9) (M 10) a f (nd + 1) (updI (B 23) e s) (updI (B 22) nd s) u2 := fun u2 => by
        have hpl : ∀ k, nd + 1 ≤ k → k < nd + 1 + f → (0 ≤ M 9 k ∧ M 9 k < k) ∧ (0 ≤ M 10 k ∧ M 10 k < 8) ∧ M 9 k = M 9 k ∧ M 10 k = M 10 k := fun k p q => by
          have := hT.2 k (by omega) (by omega)
          exact ⟨this.1, this.2, rfl, rfl⟩
        unfold cnm
        rw [g27]
        exact ⟨canP_cg hB ha.2 f (nd + 1) _ _ _ _ u2 hpl C2 (fun _ _ _ => rfl) (fun k p q => ⟨by rw [g28 k p (by omega)]; exact r28 k p (by omega), (g28 k p (by omega)).symm⟩), canP_cg hB ha.2 f (nd + 1) _ _ _ _ u2 hpl C2 (fun _ _ _ => rfl) (fun k p q => ⟨r28 k p (by omega), g28 k p (by omega)⟩)⟩
      refine k_aload_n C dX11_can_98 rfl rfl ?_
      refine k_callV C okX11_197 dX11_can_99 (c_M_isWrongTaken bl L (F2.bk hB) (by rw [g27]; exact C2) (F2.ak hA)) rfl rfl (by decide) rfl ⟨rfl, rfl, by show 0 + 1 ≤ 1 + (f + 1); omega, by show 8 + (4 + 11) + 64 * (0) ≤ 64 * (1 + (f + 1)); omega⟩ rfl (Nat.le_of_ble_eq_true rfl) (fun r99 M99 hr99 hp99 => ?_)
      obtain ⟨rfl, hp99⟩ := hp99
      rw [F2.tw, g27] at hp99
      refine k_if_ne C (tgt := 131) dX11_can_102 rfl (by omega) (fun c102 => ?_) (fun c102 => ?_)
      · refine k_iinc C dX11_can_131 (by decide) rfl ?_
        refine k_goto C (tgt := 69) dX11_can_134 rfl ?_
        refine k_cut2 C (lv' := [(0, _), (1, _), (2, _), (3, _), (4, _), (5, _)]) ⟨rfl, rfl, rfl, rfl, rfl, rfl, trivial⟩ ?_
        first
        | (rcases hp80 with z | ⟨z0, z1, z2, z3⟩
           · exfalso; omega
           · refine m_can2 bl M hB hA hT a ha f ih B nd u hI hnd e he hg C M123 F80 (s + 1) (by omega) (fun i hi => by rw [z2, g27, updI_ne hi]) (fun k p q => by rw [z3 k p (by omega), g28 k p (by omega), updI_ne (by omega)]) (fun t p q => ?_)
             by_cases y : t = s
             · rw [y]; exact Or.inr z1
             · exact hno t p (by omega))
        | (refine m_can2 bl M hB hA hT a ha f ih B nd u hI hnd e he hg C L F2 (s + 1) (by omega) (fun i hi => by rw [g27, updI_ne hi]) (fun k p q => by rw [g28 k p (by omega), updI_ne (by omega)]) (fun t p q => ?_)
           by_cases y : t = s
           · rw [y]
             rcases hp99 with z | z
             · exact Or.inl z.2
             · exfalso; omega
           · exact hno t p (by omega))
      · refine k_aload_n C dX11_can_105 rfl rfl ?_
        refine k_iload_n C dX11_can_106 rfl rfl ?_
        refine k_iconst C dX11_can_107 ?_
        refine k_iadd C dX11_can_108 ?_
        refine k_iload_n C dX11_can_109 rfl rfl ?_
        refine k_iload C dX11_can_110 rfl ?_
        refine k_iload_n C dX11_can_112 rfl rfl ?_
        refine k_icmp_ne C (tgt := 122) dX11_can_113 rfl (by omega) (by omega) (fun c113 => ?_) (fun c113 => ?_)
        · refine k_iload_n C dX11_can_122 rfl rfl ?_
          refine k_callV C okX11_200 dX11_can_123 (ih L (nd + 1) (u) ⟨F2, by rw [g27]; exact C2, fun k p q => by rw [g28 k p (by omega)]; exact r28 k p (by omega), by omega⟩ (by omega) (by omega)) rfl rfl (by decide) rfl ⟨rfl, rfl, by show 1 + f + 1 ≤ 1 + (f + 1); omega, by show 8 + (6 + 11) + 64 * (1 + f) ≤ 64 * (1 + (f + 1)); omega⟩ rfl (Nat.le_of_ble_eq_true rfl) (fun r123 M123 hr123 hp123 => ?_)
          obtain ⟨F80, hp80⟩ := hp123
          rw [cq, show (u) = if s = u then u + 1 else u by split <;> omega] at hp80
          refine k_if_eq C (tgt := 131) dX11_can_126 rfl (by omega) (fun c126 => ?_) (fun c126 => ?_)
          · refine k_iinc C dX11_can_131 (by decide) rfl ?_
            refine k_goto C (tgt := 69) dX11_can_134 rfl ?_
            refine k_cut2 C (lv' := [(0, _), (1, _), (2, _), (3, _), (4, _), (5, _)]) ⟨rfl, rfl, rfl, rfl, rfl, rfl, trivial⟩ ?_
            first
            | (rcases hp80 with z | ⟨z0, z1, z2, z3⟩
               · exfalso; omega
               · refine m_can2 bl M hB hA hT a ha f ih B nd u hI hnd e he hg C M123 F80 (s + 1) (by omega) (fun i hi => by rw [z2, g27, updI_ne hi]) (fun k p q => by rw [z3 k p (by omega), g28 k p (by omega), updI_ne (by omega)]) (fun t p q => ?_)
                 by_cases y : t = s
                 · rw [y]; exact Or.inr z1
                 · exact hno t p (by omega))
            | (refine m_can2 bl M hB hA hT a ha f ih B nd u hI hnd e he hg C L F2 (s + 1) (by omega) (fun i hi => by rw [g27, updI_ne hi]) (fun k p q => by rw [g28 k p (by omega), updI_ne (by omega)]) (fun t p q => ?_)
               by_cases y : t = s
               · rw [y]
                 rcases hp99 with z | z
                 · exact Or.inl z.2
                 · exfalso; omega
               · exact hno t p (by omega))
          · refine k_iconst C dX11_can_129 ?_
            exact k_zret C dX11_can_130 (by omega) (fun _ => by
          rcases hp80 with z | z
          · refine ⟨F80, Or.inl ⟨rfl, Or.inr ⟨by rw [← he]; exact hg, s, hs.1, by omega, by omega, ?_, by rw [← he]; exact z.2⟩⟩⟩
            rw [← he]
            rcases hp99 with y | y
            · exfalso; omega
            · exact y.2
          · exfalso; omega)
        · refine k_iload_n C dX11_can_116 rfl rfl ?_
          refine k_iconst C dX11_can_117 ?_
          refine k_iadd C dX11_can_118 ?_
          refine k_goto C (tgt := 123) dX11_can_119 rfl ?_
          refine k_callV C okX11_200 dX11_can_123 (ih L (nd + 1) (u + 1) ⟨F2, by rw [g27]; exact C2, fun k p q => by rw [g28 k p (by omega)]; exact r28 k p (by omega), by omega⟩ (by omega) (by omega)) rfl rfl (by decide) rfl ⟨rfl, rfl, by show 1 + f + 1 ≤ 1 + (f + 1); omega, by show 8 + (6 + 11) + 64 * (1 + f) ≤ 64 * (1 + (f + 1)); omega⟩ rfl (Nat.le_of_ble_eq_true rfl) (fun r123 M123 hr123 hp123 => ?_)
          obtain ⟨F80, hp80⟩ := hp123
          rw [cq, show (u + 1) = if s = u then u + 1 else u by split <;> omega] at hp80
          refine k_if_eq C (tgt := 131) dX11_can_126 rfl (by omega) (fun c126 => ?_) (fun c126 => ?_)
          · refine k_iinc C dX11_can_131 (by decide) rfl ?_
            refine k_goto C (tgt := 69) dX11_can_134 rfl ?_
            refine k_cut2 C (lv' := [(0, _), (1, _), (2, _), (3, _), (4, _), (5, _)]) ⟨rfl, rfl, rfl, rfl, rfl, rfl, trivial⟩ ?_
            first
            | (rcases hp80 with z | ⟨z0, z1, z2, z3⟩
               · exfalso; omega
               · refine m_can2 bl M hB hA hT a ha f ih B nd u hI hnd e he hg C M123 F80 (s + 1) (by omega) (fun i hi => by rw [z2, g27, updI_ne hi]) (fun k p q => by rw [z3 k p (by omega), g28 k p (by omega), updI_ne (by omega)]) (fun t p q => ?_)
                 by_cases y : t = s
                 · rw [y]; exact Or.inr z1
                 · exact hno t p (by omega))
            | (refine m_can2 bl M hB hA hT a ha f ih B nd u hI hnd e he hg C L F2 (s + 1) (by omega) (fun i hi => by rw [g27, updI_ne hi]) (fun k p q => by rw [g28 k p (by omega), updI_ne (by omega)]) (fun t p q => ?_)
               by_cases y : t = s
               · rw [y]
                 rcases hp99 with z | z
                 · exact Or.inl z.2
                 · exfalso; omega
               · exact hno t p (by omega))
          · refine k_iconst C dX11_can_129 ?_
            exact k_zret C dX11_can_130 (by omega) (fun _ => by
          rcases hp80 with z | z
          · refine ⟨F80, Or.inl ⟨rfl, Or.inr ⟨by rw [← he]; exact hg, s, hs.1, by omega, by omega, ?_, by rw [← he]; exact z.2⟩⟩⟩
            rw [← he]
            rcases hp99 with y | y
            · exfalso; omega
            · exact y.2
          · exfalso; omega)
termination_by (a - s).toNat
decreasing_by all_goals omega
set_option maxHeartbeats 4000000 in
set_option maxRecDepth 100000 in
theorem c_M_can (bl : Nat) (M : Mem) (hB : BkM M) (hA : AkA M) (hT : RwT M) (a : Int) (ha : 1 ≤ a ∧ a ≤ 3) : ∀ (f : Nat) (N : Mem) (nd u : Int), RwJ M N nd u → 1 ≤ nd → nd + f = M 0 13 → Ct (shM bl) nM yX11_can cX11_can 6 (some .boolean) (lvl (1 + f)) [.inr 0, .inl nd, .inl a, .inl u] N (fun r M' => RwR M N M' a f nd u r)
  | 0, N, nd, u, hI, h1, h2 => by
    have t1 := hT.1
    have n0 := hI.1.e.1
    have u1 := hI.2.2.2
    refine Ct_of (by decide +kernel) (Nat.le_of_ble_eq_true rfl) (fun K C => ?_)
    refine k_iload_n C dX11_can_0 rfl rfl ?_
    refine k_aload_n C dX11_can_1 rfl rfl ?_
    refine k_getJ C 13 13 rfl okC11 rfl (by decide) (by decide) rfl flX11_164 dX11_can_2 (fun ld2 => ?_)
    rw [n0]
    refine k_icmp_ne C (tgt := 10) dX11_can_5 rfl (by omega) (by omega) (fun c5 => ?_) (fun c5 => ?_)
    · exfalso; omega
    · refine k_iconst C dX11_can_8 ?_
      exact k_zret C dX11_can_9 (by omega) (fun _ => ⟨hI.1, Or.inl ⟨rfl, trivial⟩⟩)
  | f + 1, N, nd, u, hI, h1, h2 => by
    have t1 := hT.1
    obtain ⟨n0, n2, n3, n4, n5, n7, n9, n10⟩ := hI.1.e
    obtain ⟨w1, w2⟩ := hT.2 nd h1 (by omega)
    have so1 := hI.2.2.1 (M 9 nd) w1.1 w1.2
    have ch1 := hI.2.1 (8 * N 22 (M 9 nd) + M 10 nd) (by omega) (by omega)
    have u1 := hI.2.2.2
    refine Ct_of (by decide +kernel) (Nat.le_of_ble_eq_true rfl) (fun K C => ?_)
    refine k_iload_n C dX11_can_0 rfl rfl ?_
    refine k_aload_n C dX11_can_1 rfl rfl ?_
    refine k_getJ C 13 13 rfl okC11 rfl (by decide) (by decide) rfl flX11_164 dX11_can_2 (fun ld2 => ?_)
    rw [n0]
    refine k_icmp_ne C (tgt := 10) dX11_can_5 rfl (by omega) (by omega) (fun c5 => ?_) (fun c5 => ?_)
    · refine k_bipush C dX11_can_10 (by decide) ?_
      refine k_aload_n C dX11_can_12 rfl rfl ?_
      refine k_getR C (j := 27) okC11 rfl (by decide) (by decide) rfl flX11_74 dX11_can_13 ?_
      refine k_aload_n C dX11_can_16 rfl rfl ?_
      refine k_getR C (j := 11) okC11 rfl (by decide) (by decide) rfl flX11_35 dX11_can_17 ?_
      refine k_iload_n C dX11_can_20 rfl rfl ?_
      refine k_iaload C rfl (by decide) (by decide) ⟨by omega, by omega⟩ dX11_can_21 (fun ld21 => ?_)
      rw [n9] at ld21 ⊢
      refine k_iaload C rfl (by decide) (by decide) ⟨by omega, by omega⟩ dX11_can_22 (fun ld22 => ?_)
      refine k_imul C dX11_can_23 ?_
      refine k_aload_n C dX11_can_24 rfl rfl ?_
      refine k_getR C (j := 12) okC11 rfl (by decide) (by decide) rfl flX11_38 dX11_can_25 ?_
      refine k_iload_n C dX11_can_28 rfl rfl ?_
      refine k_iaload C rfl (by decide) (by decide) ⟨by omega, by omega⟩ dX11_can_29 (fun ld29 => ?_)
      rw [n10] at ld29 ⊢
      refine k_iadd C dX11_can_30 ?_
      refine k_istore C dX11_can_31 (by decide) ?_
      refine k_aload_n C dX11_can_33 rfl rfl ?_
      refine k_getR C (j := 28) okC11 rfl (by decide) (by decide) rfl flX11_77 dX11_can_34 ?_
      refine k_iload C dX11_can_37 rfl ?_
      refine k_iaload C rfl (by decide) (by decide) ⟨by omega, by omega⟩ dX11_can_39 (fun ld39 => ?_)
      refine k_if_lt C (tgt := 66) dX11_can_40 rfl (by omega) (fun c40 => ?_) (fun c40 => ?_)
      · refine k_iconst C dX11_can_66 ?_
        refine k_istore C dX11_can_67 (by decide) ?_
        refine k_cut2 C (lv' := [(0, _), (1, _), (2, _), (3, _), (4, _), (5, _)]) ⟨rfl, rfl, rfl, rfl, rfl, rfl, trivial⟩ ?_
        exact m_can2 bl M hB hA hT a ha f (c_M_can bl M hB hA hT a ha f) N nd u hI ⟨h1, h2⟩ (8 * N 22 (M 9 nd) + M 10 nd) rfl (by omega) C N hI.1 0 (by omega) (fun _ _ => rfl) (fun _ _ _ => rfl) (fun t p q => by omega)
      · refine k_aload_n C dX11_can_43 rfl rfl ?_
        refine k_getR C (j := 27) okC11 rfl (by decide) (by decide) rfl flX11_74 dX11_can_44 ?_
        refine k_iload_n C dX11_can_47 rfl rfl ?_
        refine k_aload_n C dX11_can_48 rfl rfl ?_
        refine k_getR C (j := 28) okC11 rfl (by decide) (by decide) rfl flX11_77 dX11_can_49 ?_
        refine k_iload C dX11_can_52 rfl ?_
        refine k_iaload C rfl (by decide) (by decide) ⟨by omega, by omega⟩ dX11_can_54 (fun ld54 => ?_)
        refine k_iastore C rfl (by decide) (by decide) ⟨by omega, by omega⟩ (by omega) dX11_can_55 ?_
        refine k_aload_n C dX11_can_56 rfl rfl ?_
        refine k_iload_n C dX11_can_57 rfl rfl ?_
        refine k_iconst C dX11_can_58 ?_
        refine k_iadd C dX11_can_59 ?_
        refine k_iload_n C dX11_can_60 rfl rfl ?_
        refine k_iload_n C dX11_can_61 rfl rfl ?_
        refine k_callV C okX11_200 dX11_can_62 (c_M_can bl M hB hA hT a ha f (up N 22 nd (N 23 (8 * N 22 (M 9 nd) + M 10 nd))) (nd + 1) u ⟨fun j p q => by rw [up_ne p]; exact hI.1 j p q, by rw [up_ne (by decide)]; exact hI.2.1, fun k p q => by rw [up_at]; by_cases z : k = nd; (rw [if_pos z]; omega); (rw [if_neg z]; exact hI.2.2.1 k p (by omega)), u1⟩ (by omega) (by omega)) rfl rfl (by decide) rfl ⟨rfl, rfl, by show 1 + f + 1 ≤ 1 + (f + 1); omega, by show 8 + (6 + 11) + 64 * (1 + f) ≤ 64 * (1 + (f + 1)); omega⟩ rfl (Nat.le_of_ble_eq_true rfl) (fun r62 M62 hr62 hp62 => ?_)
        have r62b : r62 = 0 ∨ r62 = 1 := by rcases hp62.2 with z | z; exact Or.inr z.1; exact Or.inl z.1
        exact k_zret C dX11_can_65 (by omega) (fun _ => by
        have g28 : up N 22 nd (N 23 (8 * N 22 (M 9 nd) + M 10 nd)) 22 = updI (N 22) nd (N 23 (8 * N 22 (M 9 nd) + M 10 nd)) := by funext i; rw [up_at]; rfl
        have g27 : up N 22 nd (N 23 (8 * N 22 (M 9 nd) + M 10 nd)) 23 = N 23 := up_ne (by decide)
        obtain ⟨z0, z⟩ := hp62
        unfold cnm at z
        rw [g27, g28] at z
        refine ⟨z0, ?_⟩
        rcases z with z | ⟨z1, z2, z3, z4⟩
        · exact Or.inl ⟨z.1, Or.inl ⟨by omega, z.2⟩⟩
        · refine Or.inr ⟨z1, fun y => ?_, z3, fun k p q => by rw [z4 k p (by omega), updI_ne (by omega)]⟩
          rcases y with y | y
          · exact z2 y.2
          · omega)
    · exfalso; omega
def LsM (M N : Mem) (r : Int) : Prop := ((∀ j, 0 < j → j < 6 ∨ 12 < j → j ≠ 22 → j ≠ 23 → N j = M j) ∧ ∀ i, i ≠ 13 → N 0 i = M 0 i) ∧ ∃ m ch pr lc, TrOk (M 0 7) (cuM M) (M 2) m ch pr lc ∧ m ≤ 721 ∧ LsP (TWm M (fun x => x)) pr lc m r
theorem tw_none {n : Int} {sz ri th ca g : Int → Int} (hB : BkOk n sz ri th ca) (h : ∀ i, 0 ≤ i → i < 8 → g i = -1) : ¬ TW n sz ri th ca (fun x => x) g := fun ⟨w, x, y⟩ => by
  have b := hB.2.2 w x.1 x.2.1
  have s1 := b.2.2.2.2.1 x.2.2.2.1
  have c := b.2.2.2.2.2 0 (by omega) (by omega)
  refine y (wkf_m (sz w).toNat 1 (by omega) ?_)
  show (if (0 : Int) = -1 then (-1 : Int) else _) = -1
  rw [if_neg (by decide)]
  show (if g (8 * 0 + ca (12 * w + ((0 : Nat) : Int))) = -1 then (-1 : Int) else _) = -1
  rw [if_pos]
  have e : (8 : Int) * 0 + ca (12 * w + ((0 : Nat) : Int)) = ca (12 * w + 0) := by rw [show 12 * w + ((0 : Nat) : Int) = 12 * w + 0 by omega]; omega
  rw [e]
  exact h _ c.1 c.2
set_option maxHeartbeats 4000000 in
set_option maxRecDepth 100000 in
theorem m_lst2 {K : Kt} (bl : Nat) (B : Mem) (hB : BkM B) (C : Ctx (shM bl) nM RX11 cX11_least 3 (some .int) (lvl 18) (fun r M' => LsM B M' r) K) (Q : Mem) (hQ : TrP B Q) (N : Mem) (hF : RWf Q N) (hm : Q 0 13 ≤ 16) (a : Int) (hno : ∀ t, 1 ≤ t → t < a → ¬ lsP (TWm B (fun x => x)) (Q 9) (Q 10) (Q 0 13) t) (ha : 1 ≤ a ∧ a ≤ 3) (i : Int) (hi : 0 ≤ i ∧ i ≤ 24) (hI : ∀ j, 0 ≤ j → j < i → N 23 j = -1) (kk : ∀ N2, RWf Q N2 → (∀ t, 1 ≤ t → t < a + 1 → ¬ lsP (TWm B (fun x => x)) (Q 9) (Q 10) (Q 0 13) t) → K 22 [(0, .inr 0), (1, .inl (a + 1))] [] N2) : K 29 [(0, .inr 0), (1, .inl a), (2, .inl i)] [] N := by
  have tf := hQ.1.e
  have hT := hQ.2.2.1
  have t1 := hT.1
  have hT2 : RwT Q := ⟨⟨t1, hm⟩, fun k p q => ⟨⟨(hT.2.1 k p q).1, (hT.2.1 k p q).2.1⟩, ⟨(hT.2.1 k p q).2.2.1, (hT.2.1 k p q).2.2.2.1⟩⟩⟩
  have BQ := hQ.1.bk hB
  have tw : TWm Q = TWm B := by unfold TWm; rw [tf.1, tf.2.1, tf.2.2.1, tf.2.2.2.1, tf.2.2.2.2]
  have AQ : AkA Q := by
    have akq : askM Q = askM B := by unfold askM; rw [tf.1, tf.2.1, tf.2.2.1, tf.2.2.2.1, tf.2.2.2.2]
    intro x p q
    rw [tf.1] at q
    rw [akq]; exact (hQ.2.1 x p q).2
  refine k_iload_n C dX11_least_29 rfl rfl ?_
  refine k_bipush C dX11_least_30 (by decide) ?_
  refine k_icmp_ge C (tgt := 48) dX11_least_32 rfl (by omega) (by omega) (fun c32 => ?_) (fun c32 => ?_)
  · refine k_aload_n C dX11_least_48 rfl rfl ?_
    refine k_getR C (j := 27) okC11 rfl (by decide) (by decide) rfl flX11_74 dX11_least_49 ?_
    refine k_iconst C dX11_least_52 ?_
    refine k_iconst C dX11_least_53 ?_
    refine k_iastore C rfl (by decide) (by decide) ⟨by omega, by omega⟩ (by omega) dX11_least_54 ?_
    have F2 : RWf Q (up N 22 0 0) := fun j p q => by rw [up_ne p]; exact hF j p q
    have g27 : ∀ i, 0 ≤ i → i < 24 → up N 22 0 0 23 i = -1 := fun i p q => by rw [up_ne (by decide)]; exact hI i p (by omega)
    have g28 : up N 22 0 0 22 0 = 0 := up_same
    generalize up N 22 0 0 = L at *
    have nw : ¬ TWm L (fun x => x) (L 23) := tw_none (F2.bk BQ) (fun i p q => g27 i p (by omega))
    have cq : cnm Q L a (Q 0 13 - 1).toNat 1 1 ↔ lsP (TWm B (fun x => x)) (Q 9) (Q 10) (Q 0 13) a := by
      unfold cnm lsP
      rw [tw]
      have hpl : ∀ k, (1 : Int) ≤ k → k < 1 + ((Q 0 13 - 1).toNat : Int) → (0 ≤ Q 9 k ∧ Q 9 k < k) ∧ (0 ≤ Q 10 k ∧ Q 10 k < 8) ∧ Q 9 k = Q 9 k ∧ Q 10 k = Q 10 k := fun k x y => by
        have := hT2.2 k x (by omega)
        exact ⟨this.1, this.2, rfl, rfl⟩
      exact ⟨canP_cg hB ha.2 _ 1 _ _ _ _ 1 hpl (fun i p q => Or.inl (g27 i p (by omega))) (fun i p q => (g27 i p q).symm) (fun k p q => by rw [show k = 0 by omega, g28]; exact ⟨by omega, rfl⟩), canP_cg hB ha.2 _ 1 _ _ _ _ 1 hpl (fun i p q => Or.inl rfl) (fun i p q => g27 i p q) (fun k p q => by rw [show k = 0 by omega, g28]; exact ⟨by omega, rfl⟩)⟩
    refine k_aload_n C dX11_least_55 rfl rfl ?_
    refine k_callV C okX11_197 dX11_least_56 (c_M_isWrongTaken bl L (F2.bk BQ) (fun i p q => Or.inl (g27 i p (by omega))) (F2.ak AQ)) rfl rfl (by decide) rfl (by decide) rfl (Nat.le_of_ble_eq_true rfl) (fun r56 M56 hr56 hp56 => ?_)
    obtain ⟨rfl, hp56⟩ := hp56
    refine k_if_ne C (tgt := 74) dX11_least_59 rfl (by omega) (fun c59 => ?_) (fun c59 => ?_)
    · refine k_iinc C dX11_least_74 (by decide) rfl ?_
      refine k_goto C (tgt := 22) dX11_least_77 rfl ?_
      refine k_cut2 C (lv' := [(0, _), (1, _)]) ⟨rfl, rfl, trivial⟩ ?_
      first
      | (exfalso; rcases hp56 with z | z; exact nw z.2; omega)
      | (rcases hp66 with z | z
         · exfalso; omega
         · refine kk M66 F66 (fun t p q => ?_)
           by_cases y : t = a
           · rw [y]; exact z.2.1
           · exact hno t p (by omega))
    · refine k_aload_n C dX11_least_62 rfl rfl ?_
      refine k_iconst C dX11_least_63 ?_
      refine k_iload_n C dX11_least_64 rfl rfl ?_
      refine k_iconst C dX11_least_65 ?_
      refine k_callV C okX11_200 dX11_least_66 (c_M_can bl Q BQ AQ hT2 a ha (Q 0 13 - 1).toNat L 1 1 ⟨F2, fun i p q => Or.inl (g27 i p (by omega)), fun k p q => by rw [show k = 0 by omega, g28]; omega, by omega⟩ (by omega) (by omega)) rfl rfl (by decide) rfl ⟨rfl, rfl, by show 1 + (Q 0 13 - 1).toNat + 1 ≤ 18; omega, by show 8 + (6 + 11) + 64 * (1 + (Q 0 13 - 1).toNat) ≤ 64 * (18); omega⟩ rfl (Nat.le_of_ble_eq_true rfl) (fun r66 M66 hr66 hp66 => ?_)
      obtain ⟨F66, hp66⟩ := hp66
      rw [cq] at hp66
      refine k_if_eq C (tgt := 74) dX11_least_69 rfl (by omega) (fun c69 => ?_) (fun c69 => ?_)
      · refine k_iinc C dX11_least_74 (by decide) rfl ?_
        refine k_goto C (tgt := 22) dX11_least_77 rfl ?_
        refine k_cut2 C (lv' := [(0, _), (1, _)]) ⟨rfl, rfl, trivial⟩ ?_
        first
        | (exfalso; rcases hp56 with z | z; exact nw z.2; omega)
        | (rcases hp66 with z | z
           · exfalso; omega
           · refine kk M66 F66 (fun t p q => ?_)
             by_cases y : t = a
             · rw [y]; exact z.2.1
             · exact hno t p (by omega))
      · refine k_iload_n C dX11_least_72 rfl rfl ?_
        exact k_iret C dX11_least_73 (by omega) (fun _ => by
        rcases hp66 with z | z
        · refine ⟨⟨fun j p q r s => ?_, fun i p => ?_⟩, Q 0 13, Q 8, Q 9, Q 10, hT, hQ.2.2.2, Or.inr ⟨hm, by omega, hno, fun _ => z.2⟩⟩
          · rw [F66 j r s]; exact hQ.1.1 j (by omega) (by omega) (by omega) (by omega) (by omega) (by omega) (by omega) (by omega)
          · rw [F66 0 (by decide) (by decide)]; exact hQ.1.2 i p
        · exfalso; omega)
  · refine k_aload_n C dX11_least_35 rfl rfl ?_
    refine k_getR C (j := 28) okC11 rfl (by decide) (by decide) rfl flX11_77 dX11_least_36 ?_
    refine k_iload_n C dX11_least_39 rfl rfl ?_
    refine k_iconst C dX11_least_40 ?_
    refine k_iastore C rfl (by decide) (by decide) ⟨by omega, by omega⟩ (by omega) dX11_least_41 ?_
    refine k_iinc C dX11_least_42 (by decide) rfl ?_
    refine k_goto C (tgt := 29) dX11_least_45 rfl ?_
    refine k_cut2 C (lv' := [(0, _), (1, _), (2, _)]) ⟨rfl, rfl, rfl, trivial⟩ ?_
    refine m_lst2 bl B hB C Q hQ _ (fun j p q => by rw [up_ne q]; exact hF j p q) hm a hno ha (i + 1) (by omega) (fun j p q => ?_) kk
    rw [up_at]
    by_cases z : j = i
    · rw [if_pos z]
    · rw [if_neg z]; exact hI j p (by omega)
termination_by (24 - i).toNat
decreasing_by all_goals omega
set_option maxHeartbeats 4000000 in
set_option maxRecDepth 100000 in
theorem m_lst1 {K : Kt} (bl : Nat) (B : Mem) (hB : BkM B) (C : Ctx (shM bl) nM RX11 cX11_least 3 (some .int) (lvl 18) (fun r M' => LsM B M' r) K) (Q : Mem) (hQ : TrP B Q) (N : Mem) (hF : RWf Q N) (hm : Q 0 13 ≤ 16) (a : Int) (hno : ∀ t, 1 ≤ t → t < a → ¬ lsP (TWm B (fun x => x)) (Q 9) (Q 10) (Q 0 13) t) (ha : 1 ≤ a ∧ a ≤ 4) : K 22 [(0, .inr 0), (1, .inl a)] [] N := by
  have tf := hQ.1.e
  have hT := hQ.2.2.1
  have t1 := hT.1
  have hT2 : RwT Q := ⟨⟨t1, hm⟩, fun k p q => ⟨⟨(hT.2.1 k p q).1, (hT.2.1 k p q).2.1⟩, ⟨(hT.2.1 k p q).2.2.1, (hT.2.1 k p q).2.2.2.1⟩⟩⟩
  have BQ := hQ.1.bk hB
  have tw : TWm Q = TWm B := by unfold TWm; rw [tf.1, tf.2.1, tf.2.2.1, tf.2.2.2.1, tf.2.2.2.2]
  have AQ : AkA Q := by
    have akq : askM Q = askM B := by unfold askM; rw [tf.1, tf.2.1, tf.2.2.1, tf.2.2.2.1, tf.2.2.2.2]
    intro x p q
    rw [tf.1] at q
    rw [akq]; exact (hQ.2.1 x p q).2
  refine k_iload_n C dX11_least_22 rfl rfl ?_
  refine k_iconst C dX11_least_23 ?_
  refine k_icmp_ge C (tgt := 80) dX11_least_24 rfl (by omega) (by omega) (fun c24 => ?_) (fun c24 => ?_)
  · refine k_iconst C dX11_least_80 ?_
    exact k_iret C dX11_least_81 (by omega) (fun _ => by
      refine ⟨⟨fun j p q r s => ?_, fun i p => ?_⟩, Q 0 13, Q 8, Q 9, Q 10, hT, hQ.2.2.2, Or.inr ⟨hm, by omega, fun t p q => hno t p (by omega), fun q => by omega⟩⟩
      · rw [hF j r s]; exact hQ.1.1 j (by omega) (by omega) (by omega) (by omega) (by omega) (by omega) (by omega) (by omega)
      · rw [hF 0 (by decide) (by decide)]; exact hQ.1.2 i p)
  · refine k_iconst C dX11_least_27 ?_
    refine k_istore_n C dX11_least_28 rfl (by decide) ?_
    refine k_cut2 C (lv' := [(0, _), (1, _), (2, _)]) ⟨rfl, rfl, rfl, trivial⟩ ?_
    exact m_lst2 bl B hB C Q hQ N hF hm a hno (by omega) 0 (by omega) (fun j p q => by omega) (fun N2 z1 z2 => m_lst1 bl B hB C Q hQ N2 z1 hm (a + 1) z2 (by omega))
termination_by (4 - a).toNat
decreasing_by all_goals omega
set_option maxHeartbeats 4000000 in
set_option maxRecDepth 100000 in
theorem m_least {K : Kt} (bl : Nat) (B : Mem) (hB : BkM B) (C : Ctx (shM bl) nM RX11 cX11_least 3 (some .int) (lvl 18) (fun r M' => LsM B M' r) K) : K 5 [(0, .inr 0)] [] B := by
  refine k_aload_n C dX11_least_5 rfl rfl ?_
  refine k_callV C okX11_177 dX11_least_6 (c_M_tree bl B hB) rfl rfl (by decide) rfl (by decide) rfl (Nat.le_of_ble_eq_true rfl) (fun r6 M6 hr6 hp6 => ?_)
  refine k_aload_n C dX11_least_9 rfl rfl ?_
  refine k_getJ C 13 13 rfl okC11 rfl (by decide) (by decide) rfl flX11_164 dX11_least_10 (fun ld10 => ?_)
  refine k_bipush C dX11_least_13 (by decide) ?_
  refine k_icmp_le C (tgt := 20) dX11_least_15 rfl (by omega) (by omega) (fun c15 => ?_) (fun c15 => ?_)
  · refine k_iconst C dX11_least_20 ?_
    refine k_istore_n C dX11_least_21 rfl (by decide) ?_
    refine k_cut2 C (lv' := [(0, _), (1, _)]) ⟨rfl, rfl, trivial⟩ ?_
    exact m_lst1 bl B hB C M6 hp6 M6 (fun _ _ _ => rfl) (by omega) 1 (fun t p q => by omega) (by omega)
  · refine k_iconst C dX11_least_18 ?_
    exact k_iret C dX11_least_19 (by omega) (fun _ => ⟨⟨fun j p q r s => hp6.1.1 j (by omega) (by omega) (by omega) (by omega) (by omega) (by omega) (by omega) (by omega), fun i p => hp6.1.2 i p⟩, M6 0 13, M6 8, M6 9, M6 10, hp6.2.2.1, hp6.2.2.2, Or.inl ⟨by omega, rfl⟩⟩)
set_option maxHeartbeats 4000000 in
set_option maxRecDepth 100000 in
theorem c_M_least (bl : Nat) (M : Mem) (hB : BkM M) : Ct (shM bl) nM yX11_least cX11_least 3 (some .int) (lvl 18) [.inr 0] M (fun r M' => LsM (th0 M) M' r) := by
  refine Ct_of (by decide +kernel) (Nat.le_of_ble_eq_true rfl) (fun K C => ?_)
  refine k_aload_n C dX11_least_0 rfl rfl ?_
  refine k_iconst C dX11_least_1 ?_
  refine k_putJ C 0 0 rfl okC11 rfl (by decide) (by decide) rfl rfl rfl (by omega) flX11_133 dX11_least_2 ?_
  exact m_least bl (th0 M) (th0_B hB) C
