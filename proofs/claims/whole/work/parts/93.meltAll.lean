/-! UsageDesk$Melter: meltsWithKept, meltAll -/
theorem shI_end {it it' : Int → Int} {m : Int} (hF : Fo m it) (h : shI it it' m m) : Fo m it' ∧ ∀ y, 0 ≤ y → y < m → rt it' y = rt it y := by
  have hF' := shI_fo hF h (Int.le_refl m)
  refine ⟨hF', fun y a b => ?_⟩
  have r := rt_ok hF a b
  have e := h.1 y a b
  have e2 := h.1 (rt it y) r.1 (by omega)
  rw [rt_go hF' a b, e]
  exact rt_self (by rw [e2]; exact rt_self r.2.2)
abbrev TWc (M : Mem) : (Int → Int) → (Int → Int) → Prop := TW (M 3 6) (M 5) (M 6) (M 7) (M 4)
theorem CF.b {M N : Mem} (h : CF M N) : N 3 = M 3 ∧ N 4 = M 4 ∧ N 5 = M 5 ∧ N 6 = M 6 ∧ N 7 = M 7 ∧ N 8 = M 8 ∧ N 9 = M 9 ∧ N 17 = M 17 ∧ N 18 = M 18 := by
  have e (j : Nat) (a : j ≠ 10 ∧ j ≠ 15 ∧ j ≠ 16 ∧ j ≠ 19 ∧ j ≠ 20 ∧ j ≠ 21 ∧ j ≠ 22) := h.1 j a.1 a.2.1 a.2.2.1 a.2.2.2.1 a.2.2.2.2.1 a.2.2.2.2.2.1 a.2.2.2.2.2.2
  exact ⟨e 3 (by decide), e 4 (by decide), e 5 (by decide), e 6 (by decide), e 7 (by decide), e 8 (by decide), e 9 (by decide), e 17 (by decide), e 18 (by decide)⟩
theorem CF.bk {M N : Mem} (h : CF M N) (hB : BkC M) : BkC N := by
  obtain ⟨a, b, c, d, e, f, g⟩ := h.b
  unfold BkC; rw [a, b, c, d, e]; exact hB
theorem CF.bn {M N : Mem} (h : CF M N) (hB : BndI M M (M 3 6)) : BndI N N (N 3 6) := by
  obtain ⟨a, b, c, d, e, f, g⟩ := h.b
  unfold BndI askC; rw [a, b, c, d, e, f]; exact hB
theorem CF.tw {M N : Mem} (h : CF M N) : TWc N = TWc M := by
  obtain ⟨a, b, c, d, e, f, g⟩ := h.b
  unfold TWc; rw [a, b, c, d, e]
def MwP (m : Int) (M N : Mem) (kept it ch : Int → Int) (k r : Int) : Prop := CF M N ∧ ((r = 1 ∧ ∃ R, tryK (TWc M) kept k it ch (M 15 9).toNat 0 = some R ∧ CG m N R.1 R.2) ∨ (r = 0 ∧ tryK (TWc M) kept k it ch (M 15 9).toNat 0 = none ∧ CG m N it ch))
set_option maxHeartbeats 4000000 in
set_option maxRecDepth 100000 in
theorem l_mwk {K : Kt} (M : Mem) (m : Int) (hm : M 9 6 = m ∧ m ≤ 721) (c0 it ch kept : Int → Int) (k : Int) (hL : LI m c0 it ch kept (M 15 9) k) (hk : 0 ≤ k ∧ k < m ∧ it k = k) (hkp : ∀ i, 0 ≤ i → i < M 15 9 → M 17 i = kept i) (hB : BkC M) (hb : BndI M M (M 3 6)) (C : Ctx shC nC RX6 cX6_meltsWithKept 3 (some .boolean) (lvl 4) (fun r M' => MwP m M M' kept it ch k r) K) (N : Mem) (hF : CF M N) (hG : CG m N it ch) (i : Int) (hi : 0 ≤ i ∧ i ≤ M 15 9) (ht : tryK (TWc M) kept k it ch (M 15 9 - i).toNat i = tryK (TWc M) kept k it ch (M 15 9).toNat 0) : K 2 [(0, .inr 15), (1, .inl k), (2, .inl i)] [] N := by
  have n15 := hF.2 9 (by decide) (by decide) (by decide)
  have n17 : N 17 = M 17 := hF.b.2.2.2.2.2.2.2.1
  have hmany := hL.2.2.2.2.1
  refine k_iload_n C dX6_meltsWithKept_2 rfl rfl ?_
  refine k_aload_n C dX6_meltsWithKept_3 rfl rfl ?_
  refine k_getJ C 9 9 rfl okC6 rfl (by decide) (by decide) rfl flX6_52 dX6_meltsWithKept_4 (fun ld4 => ?_)
  rw [n15]
  refine k_icmp_ge C (tgt := 50) dX6_meltsWithKept_7 rfl (by omega) (by omega) (fun c7 => ?_) (fun c7 => ?_)
  · refine k_iconst C dX6_meltsWithKept_50 ?_
    exact k_zret C dX6_meltsWithKept_51 (by omega) (fun _ => by
      first
      | (exfalso; omega)
      | exact ⟨hF, Or.inr ⟨rfl, by rw [← ht, show (M 15 9 - i).toNat = 0 by omega]; rfl, hG⟩⟩)
  · refine k_iload_n C dX6_meltsWithKept_10 rfl rfl ?_
    refine k_bipush C dX6_meltsWithKept_11 (by decide) ?_
    refine k_icmp_ge C (tgt := 50) dX6_meltsWithKept_13 rfl (by omega) (by omega) (fun c13 => ?_) (fun c13 => ?_)
    · refine k_iconst C dX6_meltsWithKept_50 ?_
      exact k_zret C dX6_meltsWithKept_51 (by omega) (fun _ => by
      first
      | (exfalso; omega)
      | exact ⟨hF, Or.inr ⟨rfl, by rw [← ht, show (M 15 9 - i).toNat = 0 by omega]; rfl, hG⟩⟩)
    · obtain ⟨I1, I2⟩ := LI_mi hL hk.2.1 (i := i) ⟨hi.1, c7⟩
      obtain ⟨R1, R2, R3, R4, R5, R6⟩ := mst_one I1 hL.2.2.2.1 I2 hk.2.2
      refine k_aload_n C dX6_meltsWithKept_16 rfl rfl ?_
      refine k_aload_n C dX6_meltsWithKept_17 rfl rfl ?_
      refine k_getR C (j := 3) okC6 rfl (by decide) (by decide) rfl flX6_15 dX6_meltsWithKept_18 ?_
      refine k_iload_n C dX6_meltsWithKept_21 rfl rfl ?_
      refine k_iaload C rfl (by decide) (by decide) ⟨by omega, by omega⟩ dX6_meltsWithKept_22 (fun ld22 => ?_)
      rw [n17, hkp i hi.1 c7]
      refine k_iload_n C dX6_meltsWithKept_23 rfl rfl ?_
      refine k_callV C okX6_77 dX6_meltsWithKept_24 (c_melt N m hm.2 it ch (kept i) k hG I1) rfl rfl (by decide) rfl (by decide) rfl (Nat.le_of_ble_eq_true rfl) (fun r24 M24 hr24 hp24 => ?_)
      have hF24 := hF.t hp24.1
      have G24 := hp24.2.2.1
      have m9 : M24 9 6 = m := by rw [hF24.b.2.2.2.2.2.2.1]; exact hm.1
      have tq : TWc M24 (M24 16) (M24 10) ↔ TWc M (mst 721 it ch [(kept i, k)]).1 (mst 721 it ch [(kept i, k)]).2 := by rw [hF24.tw]; exact TW_cg hB R1 R2 (by omega) G24.2.1 G24.2.2
      refine k_aload_n C dX6_meltsWithKept_27 rfl rfl ?_
      refine k_callV C okX6_81 dX6_meltsWithKept_28 (c_takesB M24 m ⟨by omega, hm.2⟩ (hF24.bk hB) G24.1 (fun i a b => by rw [G24.2.2 i a b]; exact R2 i a b) (hF24.bn hb)) rfl rfl (by decide) rfl (by decide) rfl (Nat.le_of_ble_eq_true rfl) (fun r28 M28 hr28 hp28 => ?_)
      obtain ⟨rfl, hp28⟩ := hp28
      refine k_if_ne C (tgt := 40) dX6_meltsWithKept_31 rfl (by omega) (fun c31 => ?_) (fun c31 => ?_)
      · refine k_aload_n C dX6_meltsWithKept_40 rfl rfl ?_
        refine k_callV C okX6_88 dX6_meltsWithKept_41 (c_takeBack N M24 hp24.2.1 ⟨hp24.2.2.2.1, hp24.2.2.2.2.1, hp24.2.2.2.2.2.1, hp24.2.2.2.2.2.2⟩) rfl rfl (by decide) rfl (by decide) rfl (Nat.le_of_ble_eq_true rfl) (fun r41 M41 hr41 hp41 => ?_)
        refine k_iinc C dX6_meltsWithKept_44 (by decide) rfl ?_
        refine k_goto C (tgt := 2) dX6_meltsWithKept_47 rfl ?_
        refine k_cut2 C (lv' := [(0, _), (1, _), (2, _)]) ⟨rfl, rfl, rfl, trivial⟩ ?_
        have tt : TWc M (mst 721 it ch [(kept i, k)]).1 (mst 721 it ch [(kept i, k)]).2 := tq.1 (by rcases hp28 with z | z; exact z.2; omega)
        refine l_mwk M m hm c0 it ch kept k hL hk hkp hB hb C M41 ⟨fun j a b c d e f g => by rw [hp41.2.2 j a c]; exact hF24.1 j a b c d e f g, fun z a b c => by rw [hp41.2.2 15 (by decide) (by decide)]; exact hF24.2 z a b c⟩ (by unfold CG; rw [hp41.1, hp41.2.1]; exact hG) (i + 1) (by omega) (by rw [← ht, show (M 15 9 - i).toNat = (M 15 9 - (i + 1)).toNat + 1 by omega, tryK_no tt])
      · refine k_aload_n C dX6_meltsWithKept_34 rfl rfl ?_
        refine k_callV C okX6_85 dX6_meltsWithKept_35 (c_short M24 (by rw [m9]; omega) (by rw [m9]; exact G24.1)) rfl rfl (by decide) rfl (by decide) rfl (Nat.le_of_ble_eq_true rfl) (fun r35 M35 hr35 hp35 => ?_)
        rw [m9] at hp35
        have en := shI_end G24.1 hp35.2
        refine k_iconst C dX6_meltsWithKept_38 ?_
        exact k_zret C dX6_meltsWithKept_39 (by omega) (fun _ => by
      have tt : ¬ TWc M (mst 721 it ch [(kept i, k)]).1 (mst 721 it ch [(kept i, k)]).2 := fun q => by
        have := tq.2 q
        rcases hp28 with z | z
        · omega
        · exact z.2 this
      refine ⟨⟨fun j a b c d e f g => by rw [hp35.1 j c]; exact hF24.1 j a b c d e f g, fun z a b c => by rw [hp35.1 15 (by decide)]; exact hF24.2 z a b c⟩, Or.inl ⟨rfl, mst 721 it ch [(kept i, k)], by rw [← ht, show (M 15 9 - i).toNat = (M 15 9 - (i + 1)).toNat + 1 by omega, tryK_yes tt], en.1, fun x a b => by rw [en.2 x a b]; exact G24.2.1 x a b, by rw [hp35.1 10 (by decide)]; exact G24.2.2⟩⟩)
termination_by (M 15 9 - i).toNat
decreasing_by all_goals omega
set_option maxHeartbeats 4000000 in
set_option maxRecDepth 100000 in
theorem c_mwk (M : Mem) (m : Int) (hm : M 9 6 = m ∧ m ≤ 721) (c0 it ch kept : Int → Int) (k : Int) (hL : LI m c0 it ch kept (M 15 9) k) (hk : 0 ≤ k ∧ k < m ∧ it k = k) (hkp : ∀ i, 0 ≤ i → i < M 15 9 → M 17 i = kept i) (hB : BkC M) (hb : BndI M M (M 3 6)) (hG : CG m M it ch) : Ct shC nC yX6_meltsWithKept cX6_meltsWithKept 3 (some .boolean) (lvl 4) [.inr 15, .inl k] M (fun r M' => MwP m M M' kept it ch k r) := by
  refine Ct_of (by decide +kernel) (Nat.le_of_ble_eq_true rfl) (fun K C => ?_)
  have hmany := hL.2.2.2.2.1
  refine k_iconst C dX6_meltsWithKept_0 ?_
  refine k_istore_n C dX6_meltsWithKept_1 rfl (by decide) ?_
  refine k_cut2 C (lv' := [(0, _), (1, _), (2, _)]) ⟨rfl, rfl, rfl, trivial⟩ ?_
  exact l_mwk M m hm c0 it ch kept k hL hk hkp hB hb C M ⟨fun _ _ _ _ _ _ _ _ => rfl, fun _ _ _ _ => rfl⟩ hG 0 (by omega) (by rw [show M 15 9 - 0 = M 15 9 by omega])
/-- the frame of meltAll -/
def AF (M N : Mem) : Prop := (∀ j, j ≠ 3 → j ≠ 8 → j ≠ 10 → j ≠ 15 → j ≠ 16 → j ≠ 17 → j ≠ 18 → j ≠ 19 → j ≠ 20 → j ≠ 21 → j ≠ 22 → N j = M j) ∧ (∀ i, i ≠ 5 → N 3 i = M 3 i) ∧ ∀ i, i ≠ 9 → i ≠ 10 → i ≠ 11 → i ≠ 12 → N 15 i = M 15 i
theorem AF.c {M N L : Mem} (h : AF M N) (h2 : CF N L) : AF M L :=
  ⟨fun j a b c d e f g p q r s => by rw [h2.1 j c d e p q r s]; exact h.1 j a b c d e f g p q r s, fun i hi => by rw [h2.b.1]; exact h.2.1 i hi, fun i a b c d => by rw [h2.2 i b c d]; exact h.2.2 i a b c d⟩
theorem AF.b {M N : Mem} (h : AF M N) : N 3 6 = M 3 6 ∧ N 4 = M 4 ∧ N 5 = M 5 ∧ N 6 = M 6 ∧ N 7 = M 7 ∧ N 9 = M 9 := by
  have e (j : Nat) (a : j ≠ 3 ∧ j ≠ 8 ∧ j ≠ 10 ∧ j ≠ 15 ∧ j ≠ 16 ∧ j ≠ 17 ∧ j ≠ 18 ∧ j ≠ 19 ∧ j ≠ 20 ∧ j ≠ 21 ∧ j ≠ 22) := h.1 j a.1 a.2.1 a.2.2.1 a.2.2.2.1 a.2.2.2.2.1 a.2.2.2.2.2.1 a.2.2.2.2.2.2.1 a.2.2.2.2.2.2.2.1 a.2.2.2.2.2.2.2.2.1 a.2.2.2.2.2.2.2.2.2.1 a.2.2.2.2.2.2.2.2.2.2
  exact ⟨h.2.1 6 (by decide), e 4 (by decide), e 5 (by decide), e 6 (by decide), e 7 (by decide), e 9 (by decide)⟩
theorem AF.bk {M N : Mem} (h : AF M N) (hB : BkC M) : BkC N := by
  obtain ⟨a, b, c, d, e, f⟩ := h.b
  unfold BkC; rw [a, b, c, d, e]; exact hB
theorem AF.tw {M N : Mem} (h : AF M N) : TWc N = TWc M := by
  obtain ⟨a, b, c, d, e, f⟩ := h.b
  unfold TWc; rw [a, b, c, d, e]
theorem AF.u {M N : Mem} (h : AF M N) {k : Nat} {i v : Int} (hk : k = 16 ∨ k = 17 ∨ k = 18) : AF M (up N k i v) :=
  ⟨fun j a b c d e f g p q r s => by rw [up_ne (by rcases hk with z | z | z <;> rw [z] <;> assumption)]; exact h.1 j a b c d e f g p q r s, fun x hx => by rw [up_ne (by rcases hk with z | z | z <;> rw [z] <;> decide)]; exact h.2.1 x hx, fun x a b c d => by rw [up_ne (by rcases hk with z | z | z <;> rw [z] <;> decide)]; exact h.2.2 x a b c d⟩
theorem AF.k {M N : Mem} (h : AF M N) {v : Int} : AF M (up N 15 9 v) :=
  ⟨fun j a b c d e f g p q r s => by rw [up_ne d]; exact h.1 j a b c d e f g p q r s, fun x hx => by rw [up_ne (by decide)]; exact h.2.1 x hx, fun x a b c d => by rw [up_at, if_neg a]; exact h.2.2 x a b c d⟩
def MaP (m : Int) (c0 : Int → Int) (M N : Mem) (r : Int) : Prop := AF M N ∧ ((r = 1 ∧ ∃ R, lrn (TWc M) (m - 1).toNat 1 (fun x => x) c0 (fun _ => 0) 1 = some R ∧ CG m N R.1.1 R.1.2 ∧ N 15 9 = R.2.2 ∧ (∀ i, 0 ≤ i → i < R.2.2 → N 17 i = R.2.1 i) ∧ (∀ x, 0 ≤ x → x < m → N 18 x = -1)) ∨ (r = 0 ∧ lrn (TWc M) (m - 1).toNat 1 (fun x => x) c0 (fun _ => 0) 1 = none))
set_option maxHeartbeats 4000000 in
set_option maxRecDepth 100000 in
theorem l_ma2 {K : Kt} (M : Mem) (m : Int) (hm : M 9 6 = m ∧ 1 ≤ m ∧ m ≤ 721) (c0 : Int → Int) (hc0 : ∀ i, 0 ≤ i → i < 8 * m → M 10 i = c0 i) (hL0 : LI m c0 (fun x => x) c0 (fun _ => 0) 1 1) (hB : BkC M) (C : Ctx shC nC RX6 cX6_meltAll 2 (some .boolean) (lvl 5) (fun r M' => MaP m c0 M M' r) K) (N : Mem) (hF : AF M N) (hb : BndI N N (N 3 6)) (h18 : ∀ x, 0 ≤ x → x < m → N 18 x = -1) (it ch kept : Int → Int) (k : Int) (hk : 1 ≤ k ∧ k ≤ m) (hG : CG m N it ch) (hL : LI m c0 it ch kept (N 15 9) k) (hkp : ∀ i, 0 ≤ i → i < N 15 9 → N 17 i = kept i) (ht : lrn (TWc M) (m - k).toNat k it ch kept (N 15 9) = lrn (TWc M) (m - 1).toNat 1 (fun x => x) c0 (fun _ => 0) 1) : K 61 [(0, .inr 15), (1, .inl k)] [] N := by
  have n9 : N 9 6 = m := by rw [hF.b.2.2.2.2.2]; exact hm.1
  have hmany := hL.2.2.2.2.1
  have fl : (m - k).toNat = (m - (k + 1)).toNat + 1 ∨ k = m := by omega
  refine k_iload_n C dX6_meltAll_61 rfl rfl ?_
  refine k_aload_n C dX6_meltAll_62 rfl rfl ?_
  refine k_getR C (j := 1) okC6 rfl (by decide) (by decide) rfl flX6_37 dX6_meltAll_63 ?_
  refine k_getJ C 6 6 rfl okC9 rfl (by decide) (by decide) rfl flX6_46 dX6_meltAll_66 (fun ld66 => ?_)
  rw [n9]
  refine k_icmp_ge C (tgt := 137) dX6_meltAll_69 rfl (by omega) (by omega) (fun c69 => ?_) (fun c69 => ?_)
  · refine k_iconst C dX6_meltAll_137 ?_
    exact k_zret C dX6_meltAll_138 (by omega) (fun _ => by
      first
      | (exfalso; omega)
      | exact ⟨hF, Or.inl ⟨rfl, ((it, ch), kept, N 15 9), by rw [← ht, show (m - k).toNat = 0 by omega]; rfl, hG, rfl, hkp, h18⟩⟩)
  · refine k_iload_n C dX6_meltAll_72 rfl rfl ?_
    refine k_sipush C dX6_meltAll_73 (by decide) ?_
    refine k_icmp_ge C (tgt := 137) dX6_meltAll_76 rfl (by omega) (by omega) (fun c76 => ?_) (fun c76 => ?_)
    · refine k_iconst C dX6_meltAll_137 ?_
      exact k_zret C dX6_meltAll_138 (by omega) (fun _ => by
      first
      | (exfalso; omega)
      | exact ⟨hF, Or.inl ⟨rfl, ((it, ch), kept, N 15 9), by rw [← ht, show (m - k).toNat = 0 by omega]; rfl, hG, rfl, hkp, h18⟩⟩)
    · refine k_aload_n C dX6_meltAll_79 rfl rfl ?_
      refine k_getR C (j := 2) okC6 rfl (by decide) (by decide) rfl flX6_9 dX6_meltAll_80 ?_
      refine k_iload_n C dX6_meltAll_83 rfl rfl ?_
      refine k_iaload C rfl (by decide) (by decide) ⟨by omega, by omega⟩ dX6_meltAll_84 (fun ld84 => ?_)
      have rr := rt_root hG.1 (x := k) (by omega) c69
      have rr2 := rt_root hL.1 (x := k) (by omega) c69
      rw [hG.2.1 k (by omega) c69, rr2] at rr
      refine k_iload_n C dX6_meltAll_85 rfl rfl ?_
      refine k_icmp_ne C (tgt := 131) dX6_meltAll_86 rfl (by omega) (by omega) (fun c86 => ?_) (fun c86 => ?_)
      · refine k_iinc C dX6_meltAll_131 (by decide) rfl ?_
        refine k_goto C (tgt := 61) dX6_meltAll_134 rfl ?_
        refine k_cut2 C (lv' := [(0, _), (1, _)]) ⟨rfl, rfl, trivial⟩ ?_
        first
        | (have hx : ¬ it k = k := fun q => c86 (rr.1 q)
           exact l_ma2 M m hm c0 hc0 hL0 hB C N hF hb h18 it ch kept (k + 1) (by omega) hG (LI_skip hL hx) hkp (by rw [← ht, show (m - k).toNat = (m - (k + 1)).toNat + 1 by omega, lrn_skip hx]))
        | (have hx : it k = k := rr.2 c86
           rcases hp91 with ⟨z1, R, z2, z3⟩ | ⟨z1, z2, z3⟩
           · refine l_ma2 M m hm c0 hc0 hL0 hB C M91 (hF.c F91) (F91.bn hb) (by rw [b91.2.2.2.2.2.2.2.2]; exact h18) R.1 R.2 kept (k + 1) (by omega) z3 ?_ (by rw [k91, b91.2.2.2.2.2.2.2.1]; exact hkp) (by rw [k91, ← ht, show (m - k).toNat = (m - (k + 1)).toNat + 1 by omega, lrn_some hx z2])
             rw [k91]; exact tryK_ok hL (by omega) hx _ 0 (by omega) (by omega) z2
           · exfalso; omega)
        | (have hx : it k = k := rr.2 c86
           rcases hp91 with ⟨z1, R, z2, z3⟩ | ⟨z1, z2, z3⟩
           · exfalso; omega
           · have n30 : ¬ N 15 9 = 30 := by omega
             have e15 : up (up M91 17 (N 15 9) k) 15 9 (N 15 9 + 1) 15 9 = N 15 9 + 1 := up_same
             have e17 : ∀ i, up (up M91 17 (N 15 9) k) 15 9 (N 15 9 + 1) 17 i = if i = N 15 9 then k else N 17 i := fun i => by rw [up_ne (show (17 : Nat) ≠ 15 by decide), up_at, b91.2.2.2.2.2.2.2.1]
             have eo : ∀ j, j ≠ 15 → j ≠ 17 → up (up M91 17 (N 15 9) k) 15 9 (N 15 9 + 1) j = M91 j := fun j a b => by rw [up_ne a, up_ne b]
             have F2 : AF M (up (up M91 17 (N 15 9) k) 15 9 (N 15 9 + 1)) := ((hF.c F91).u (by decide)).k
             generalize up (up M91 17 (N 15 9) k) 15 9 (N 15 9 + 1) = L at *
             refine l_ma2 M m hm c0 hc0 hL0 hB C L F2 ?_ (by rw [eo 18 (by decide) (by decide), b91.2.2.2.2.2.2.2.2]; exact h18) it ch (updI kept (N 15 9) k) (k + 1) (by omega) (by unfold CG; rw [eo 16 (by decide) (by decide), eo 10 (by decide) (by decide)]; exact z3) (by rw [e15]; exact LI_keep hL (by omega) n30) (fun i a b => ?_) (by rw [e15, ← ht, show (m - k).toNat = (m - (k + 1)).toNat + 1 by omega, lrn_keep hx z2 n30])
             · have q := F91.bn hb
               unfold BndI askC
               rw [eo 3 (by decide) (by decide), eo 4 (by decide) (by decide), eo 5 (by decide) (by decide), eo 6 (by decide) (by decide), eo 7 (by decide) (by decide), eo 8 (by decide) (by decide)]
               exact q
             · rw [e17]
               unfold updI
               by_cases z : i = N 15 9
               · rw [if_pos z, if_pos z]
               · rw [if_neg z, if_neg z]; exact hkp i a (by omega))
      · refine k_aload_n C dX6_meltAll_89 rfl rfl ?_
        refine k_iload_n C dX6_meltAll_90 rfl rfl ?_
        refine k_callV C okX6_55 dX6_meltAll_91 (c_mwk N m ⟨n9, hm.2.2⟩ c0 it ch kept k hL ⟨by omega, by omega, rr.2 c86⟩ hkp (hF.bk hB) hb hG) rfl rfl (by decide) rfl (by decide) rfl (Nat.le_of_ble_eq_true rfl) (fun r91 M91 hr91 hp91 => ?_)
        obtain ⟨F91, hp91⟩ := hp91
        have k91 := F91.2 9 (by decide) (by decide) (by decide)
        have b91 := F91.b
        rw [hF.tw] at hp91
        refine k_if_eq C (tgt := 100) dX6_meltAll_94 rfl (by omega) (fun c94 => ?_) (fun c94 => ?_)
        · refine k_aload_n C dX6_meltAll_100 rfl rfl ?_
          refine k_getJ C 9 9 rfl okC6 rfl (by decide) (by decide) rfl flX6_52 dX6_meltAll_101 (fun ld101 => ?_)
          rw [k91]
          refine k_bipush C dX6_meltAll_104 (by decide) ?_
          refine k_icmp_lt C (tgt := 111) dX6_meltAll_106 rfl (by omega) (by omega) (fun c106 => ?_) (fun c106 => ?_)
          · refine k_aload_n C dX6_meltAll_111 rfl rfl ?_
            refine k_getR C (j := 3) okC6 rfl (by decide) (by decide) rfl flX6_15 dX6_meltAll_112 ?_
            refine k_aload_n C dX6_meltAll_115 rfl rfl ?_
            refine k_getJ C 9 9 rfl okC6 rfl (by decide) (by decide) rfl flX6_52 dX6_meltAll_116 (fun ld116 => ?_)
            rw [k91]
            refine k_iload_n C dX6_meltAll_119 rfl rfl ?_
            refine k_iastore C rfl (by decide) (by decide) ⟨by omega, by omega⟩ (by omega) dX6_meltAll_120 ?_
            refine k_aload_n C dX6_meltAll_121 rfl rfl ?_
            refine k_dup C dX6_meltAll_122 ?_
            refine k_getJ C 9 9 rfl okC6 rfl (by decide) (by decide) rfl flX6_52 dX6_meltAll_123 (fun ld123 => ?_)
            rw [up_ne (show (15 : Nat) ≠ 17 by decide), k91]
            refine k_iconst C dX6_meltAll_126 ?_
            refine k_iadd C dX6_meltAll_127 ?_
            refine k_putJ C 9 9 rfl okC6 rfl (by decide) (by decide) rfl rfl rfl (by omega) flX6_52 dX6_meltAll_128 ?_
            refine k_iinc C dX6_meltAll_131 (by decide) rfl ?_
            refine k_goto C (tgt := 61) dX6_meltAll_134 rfl ?_
            refine k_cut2 C (lv' := [(0, _), (1, _)]) ⟨rfl, rfl, trivial⟩ ?_
            first
            | (have hx : ¬ it k = k := fun q => c86 (rr.1 q)
               exact l_ma2 M m hm c0 hc0 hL0 hB C N hF hb h18 it ch kept (k + 1) (by omega) hG (LI_skip hL hx) hkp (by rw [← ht, show (m - k).toNat = (m - (k + 1)).toNat + 1 by omega, lrn_skip hx]))
            | (have hx : it k = k := rr.2 c86
               rcases hp91 with ⟨z1, R, z2, z3⟩ | ⟨z1, z2, z3⟩
               · refine l_ma2 M m hm c0 hc0 hL0 hB C M91 (hF.c F91) (F91.bn hb) (by rw [b91.2.2.2.2.2.2.2.2]; exact h18) R.1 R.2 kept (k + 1) (by omega) z3 ?_ (by rw [k91, b91.2.2.2.2.2.2.2.1]; exact hkp) (by rw [k91, ← ht, show (m - k).toNat = (m - (k + 1)).toNat + 1 by omega, lrn_some hx z2])
                 rw [k91]; exact tryK_ok hL (by omega) hx _ 0 (by omega) (by omega) z2
               · exfalso; omega)
            | (have hx : it k = k := rr.2 c86
               rcases hp91 with ⟨z1, R, z2, z3⟩ | ⟨z1, z2, z3⟩
               · exfalso; omega
               · have n30 : ¬ N 15 9 = 30 := by omega
                 have e15 : up (up M91 17 (N 15 9) k) 15 9 (N 15 9 + 1) 15 9 = N 15 9 + 1 := up_same
                 have e17 : ∀ i, up (up M91 17 (N 15 9) k) 15 9 (N 15 9 + 1) 17 i = if i = N 15 9 then k else N 17 i := fun i => by rw [up_ne (show (17 : Nat) ≠ 15 by decide), up_at, b91.2.2.2.2.2.2.2.1]
                 have eo : ∀ j, j ≠ 15 → j ≠ 17 → up (up M91 17 (N 15 9) k) 15 9 (N 15 9 + 1) j = M91 j := fun j a b => by rw [up_ne a, up_ne b]
                 have F2 : AF M (up (up M91 17 (N 15 9) k) 15 9 (N 15 9 + 1)) := ((hF.c F91).u (by decide)).k
                 generalize up (up M91 17 (N 15 9) k) 15 9 (N 15 9 + 1) = L at *
                 refine l_ma2 M m hm c0 hc0 hL0 hB C L F2 ?_ (by rw [eo 18 (by decide) (by decide), b91.2.2.2.2.2.2.2.2]; exact h18) it ch (updI kept (N 15 9) k) (k + 1) (by omega) (by unfold CG; rw [eo 16 (by decide) (by decide), eo 10 (by decide) (by decide)]; exact z3) (by rw [e15]; exact LI_keep hL (by omega) n30) (fun i a b => ?_) (by rw [e15, ← ht, show (m - k).toNat = (m - (k + 1)).toNat + 1 by omega, lrn_keep hx z2 n30])
                 · have q := F91.bn hb
                   unfold BndI askC
                   rw [eo 3 (by decide) (by decide), eo 4 (by decide) (by decide), eo 5 (by decide) (by decide), eo 6 (by decide) (by decide), eo 7 (by decide) (by decide), eo 8 (by decide) (by decide)]
                   exact q
                 · rw [e17]
                   unfold updI
                   by_cases z : i = N 15 9
                   · rw [if_pos z, if_pos z]
                   · rw [if_neg z, if_neg z]; exact hkp i a (by omega))
          · refine k_iconst C dX6_meltAll_109 ?_
            exact k_zret C dX6_meltAll_110 (by omega) (fun _ => by
      have hx : it k = k := rr.2 c86
      rcases hp91 with ⟨z1, R, z2, z3⟩ | ⟨z1, z2, z3⟩
      · exfalso; omega
      · exact ⟨hF.c F91, Or.inr ⟨rfl, by rw [← ht, show (m - k).toNat = (m - (k + 1)).toNat + 1 by omega, lrn_full hx z2 (by omega)]⟩⟩)
        · refine k_goto C (tgt := 131) dX6_meltAll_97 rfl ?_
          refine k_iinc C dX6_meltAll_131 (by decide) rfl ?_
          refine k_goto C (tgt := 61) dX6_meltAll_134 rfl ?_
          refine k_cut2 C (lv' := [(0, _), (1, _)]) ⟨rfl, rfl, trivial⟩ ?_
          first
          | (have hx : ¬ it k = k := fun q => c86 (rr.1 q)
             exact l_ma2 M m hm c0 hc0 hL0 hB C N hF hb h18 it ch kept (k + 1) (by omega) hG (LI_skip hL hx) hkp (by rw [← ht, show (m - k).toNat = (m - (k + 1)).toNat + 1 by omega, lrn_skip hx]))
          | (have hx : it k = k := rr.2 c86
             rcases hp91 with ⟨z1, R, z2, z3⟩ | ⟨z1, z2, z3⟩
             · refine l_ma2 M m hm c0 hc0 hL0 hB C M91 (hF.c F91) (F91.bn hb) (by rw [b91.2.2.2.2.2.2.2.2]; exact h18) R.1 R.2 kept (k + 1) (by omega) z3 ?_ (by rw [k91, b91.2.2.2.2.2.2.2.1]; exact hkp) (by rw [k91, ← ht, show (m - k).toNat = (m - (k + 1)).toNat + 1 by omega, lrn_some hx z2])
               rw [k91]; exact tryK_ok hL (by omega) hx _ 0 (by omega) (by omega) z2
             · exfalso; omega)
          | (have hx : it k = k := rr.2 c86
             rcases hp91 with ⟨z1, R, z2, z3⟩ | ⟨z1, z2, z3⟩
             · exfalso; omega
             · have n30 : ¬ N 15 9 = 30 := by omega
               have e15 : up (up M91 17 (N 15 9) k) 15 9 (N 15 9 + 1) 15 9 = N 15 9 + 1 := up_same
               have e17 : ∀ i, up (up M91 17 (N 15 9) k) 15 9 (N 15 9 + 1) 17 i = if i = N 15 9 then k else N 17 i := fun i => by rw [up_ne (show (17 : Nat) ≠ 15 by decide), up_at, b91.2.2.2.2.2.2.2.1]
               have eo : ∀ j, j ≠ 15 → j ≠ 17 → up (up M91 17 (N 15 9) k) 15 9 (N 15 9 + 1) j = M91 j := fun j a b => by rw [up_ne a, up_ne b]
               have F2 : AF M (up (up M91 17 (N 15 9) k) 15 9 (N 15 9 + 1)) := ((hF.c F91).u (by decide)).k
               generalize up (up M91 17 (N 15 9) k) 15 9 (N 15 9 + 1) = L at *
               refine l_ma2 M m hm c0 hc0 hL0 hB C L F2 ?_ (by rw [eo 18 (by decide) (by decide), b91.2.2.2.2.2.2.2.2]; exact h18) it ch (updI kept (N 15 9) k) (k + 1) (by omega) (by unfold CG; rw [eo 16 (by decide) (by decide), eo 10 (by decide) (by decide)]; exact z3) (by rw [e15]; exact LI_keep hL (by omega) n30) (fun i a b => ?_) (by rw [e15, ← ht, show (m - k).toNat = (m - (k + 1)).toNat + 1 by omega, lrn_keep hx z2 n30])
               · have q := F91.bn hb
                 unfold BndI askC
                 rw [eo 3 (by decide) (by decide), eo 4 (by decide) (by decide), eo 5 (by decide) (by decide), eo 6 (by decide) (by decide), eo 7 (by decide) (by decide), eo 8 (by decide) (by decide)]
                 exact q
               · rw [e17]
                 unfold updI
                 by_cases z : i = N 15 9
                 · rw [if_pos z, if_pos z]
                 · rw [if_neg z, if_neg z]; exact hkp i a (by omega))
termination_by (m - k).toNat
decreasing_by all_goals omega
set_option maxHeartbeats 4000000 in
set_option maxRecDepth 100000 in
theorem l_ma1 {K : Kt} (M : Mem) (m : Int) (hm : M 9 6 = m ∧ 1 ≤ m ∧ m ≤ 721) (c0 : Int → Int) (hc0 : ∀ i, 0 ≤ i → i < 8 * m → M 10 i = c0 i) (hL0 : LI m c0 (fun x => x) c0 (fun _ => 0) 1 1) (hB : BkC M) (C : Ctx shC nC RX6 cX6_meltAll 2 (some .boolean) (lvl 5) (fun r M' => MaP m c0 M M' r) K) (N : Mem) (hF : AF M N) (hb : BndI N N (N 3 6)) (h10 : N 10 = M 10) (x : Int) (hx : 0 ≤ x ∧ x ≤ m) (h16 : ∀ y, 0 ≤ y → y < x → N 16 y = y) (h18 : ∀ y, 0 ≤ y → y < x → N 18 y = -1) : K 9 [(0, .inr 15), (1, .inl x)] [] N := by
  have n9 : N 9 6 = m := by rw [hF.b.2.2.2.2.2]; exact hm.1
  refine k_iload_n C dX6_meltAll_9 rfl rfl ?_
  refine k_aload_n C dX6_meltAll_10 rfl rfl ?_
  refine k_getR C (j := 1) okC6 rfl (by decide) (by decide) rfl flX6_37 dX6_meltAll_11 ?_
  refine k_getJ C 6 6 rfl okC9 rfl (by decide) (by decide) rfl flX6_46 dX6_meltAll_14 (fun ld14 => ?_)
  rw [n9]
  refine k_icmp_ge C (tgt := 47) dX6_meltAll_17 rfl (by omega) (by omega) (fun c17 => ?_) (fun c17 => ?_)
  · refine k_aload_n C dX6_meltAll_47 rfl rfl ?_
    refine k_getR C (j := 3) okC6 rfl (by decide) (by decide) rfl flX6_15 dX6_meltAll_48 ?_
    refine k_iconst C dX6_meltAll_51 ?_
    refine k_iconst C dX6_meltAll_52 ?_
    refine k_iastore C rfl (by decide) (by decide) ⟨by omega, by omega⟩ (by omega) dX6_meltAll_53 ?_
    refine k_aload_n C dX6_meltAll_54 rfl rfl ?_
    refine k_iconst C dX6_meltAll_55 ?_
    refine k_putJ C 9 9 rfl okC6 rfl (by decide) (by decide) rfl rfl rfl (by omega) flX6_52 dX6_meltAll_56 ?_
    refine k_iconst C dX6_meltAll_59 ?_
    refine k_istore_n C dX6_meltAll_60 rfl (by decide) ?_
    refine k_cut2 C (lv' := [(0, _), (1, _)]) ⟨rfl, rfl, trivial⟩ ?_
    first
    | (exfalso; omega)
    | (have ex : x = m := by omega
       subst ex
       have e15 : up (up N 17 0 0) 15 9 1 15 9 = 1 := up_same
       have e17 : up (up N 17 0 0) 15 9 1 17 0 = 0 := by rw [up_ne (show (17 : Nat) ≠ 15 by decide)]; exact up_same
       have eo : ∀ j, j ≠ 15 → j ≠ 17 → up (up N 17 0 0) 15 9 1 j = N j := fun j a b => by rw [up_ne a, up_ne b]
       have F2 : AF M (up (up N 17 0 0) 15 9 1) := (hF.u (by decide)).k
       generalize up (up N 17 0 0) 15 9 1 = L at *
       refine l_ma2 M x hm c0 hc0 hL0 hB C L F2 ?_ (by rw [eo 18 (by decide) (by decide)]; exact h18) (fun x => x) c0 (fun _ => 0) 1 (by omega) ⟨?_, ?_, ?_⟩ (by rw [e15]; exact hL0) (fun i a b => ?_) (by rw [e15])
       · unfold BndI askC
         rw [eo 3 (by decide) (by decide), eo 4 (by decide) (by decide), eo 5 (by decide) (by decide), eo 6 (by decide) (by decide), eo 7 (by decide) (by decide), eo 8 (by decide) (by decide)]
         exact hb
       · intro y a b; rw [eo 16 (by decide) (by decide), h16 y a b]; omega
       · intro y a b; rw [eo 16 (by decide) (by decide), rt_self (h16 y a b)]; exact (rt_self rfl).symm
       · intro i a b; rw [eo 10 (by decide) (by decide), h10]; exact hc0 i a b
       · rw [show i = 0 by omega]; exact e17)
  · refine k_iload_n C dX6_meltAll_20 rfl rfl ?_
    refine k_sipush C dX6_meltAll_21 (by decide) ?_
    refine k_icmp_ge C (tgt := 47) dX6_meltAll_24 rfl (by omega) (by omega) (fun c24 => ?_) (fun c24 => ?_)
    · refine k_aload_n C dX6_meltAll_47 rfl rfl ?_
      refine k_getR C (j := 3) okC6 rfl (by decide) (by decide) rfl flX6_15 dX6_meltAll_48 ?_
      refine k_iconst C dX6_meltAll_51 ?_
      refine k_iconst C dX6_meltAll_52 ?_
      refine k_iastore C rfl (by decide) (by decide) ⟨by omega, by omega⟩ (by omega) dX6_meltAll_53 ?_
      refine k_aload_n C dX6_meltAll_54 rfl rfl ?_
      refine k_iconst C dX6_meltAll_55 ?_
      refine k_putJ C 9 9 rfl okC6 rfl (by decide) (by decide) rfl rfl rfl (by omega) flX6_52 dX6_meltAll_56 ?_
      refine k_iconst C dX6_meltAll_59 ?_
      refine k_istore_n C dX6_meltAll_60 rfl (by decide) ?_
      refine k_cut2 C (lv' := [(0, _), (1, _)]) ⟨rfl, rfl, trivial⟩ ?_
      first
      | (exfalso; omega)
      | (have ex : x = m := by omega
         subst ex
         have e15 : up (up N 17 0 0) 15 9 1 15 9 = 1 := up_same
         have e17 : up (up N 17 0 0) 15 9 1 17 0 = 0 := by rw [up_ne (show (17 : Nat) ≠ 15 by decide)]; exact up_same
         have eo : ∀ j, j ≠ 15 → j ≠ 17 → up (up N 17 0 0) 15 9 1 j = N j := fun j a b => by rw [up_ne a, up_ne b]
         have F2 : AF M (up (up N 17 0 0) 15 9 1) := (hF.u (by decide)).k
         generalize up (up N 17 0 0) 15 9 1 = L at *
         refine l_ma2 M x hm c0 hc0 hL0 hB C L F2 ?_ (by rw [eo 18 (by decide) (by decide)]; exact h18) (fun x => x) c0 (fun _ => 0) 1 (by omega) ⟨?_, ?_, ?_⟩ (by rw [e15]; exact hL0) (fun i a b => ?_) (by rw [e15])
         · unfold BndI askC
           rw [eo 3 (by decide) (by decide), eo 4 (by decide) (by decide), eo 5 (by decide) (by decide), eo 6 (by decide) (by decide), eo 7 (by decide) (by decide), eo 8 (by decide) (by decide)]
           exact hb
         · intro y a b; rw [eo 16 (by decide) (by decide), h16 y a b]; omega
         · intro y a b; rw [eo 16 (by decide) (by decide), rt_self (h16 y a b)]; exact (rt_self rfl).symm
         · intro i a b; rw [eo 10 (by decide) (by decide), h10]; exact hc0 i a b
         · rw [show i = 0 by omega]; exact e17)
    · refine k_aload_n C dX6_meltAll_27 rfl rfl ?_
      refine k_getR C (j := 2) okC6 rfl (by decide) (by decide) rfl flX6_9 dX6_meltAll_28 ?_
      refine k_iload_n C dX6_meltAll_31 rfl rfl ?_
      refine k_iload_n C dX6_meltAll_32 rfl rfl ?_
      refine k_iastore C rfl (by decide) (by decide) ⟨by omega, by omega⟩ (by omega) dX6_meltAll_33 ?_
      refine k_aload_n C dX6_meltAll_34 rfl rfl ?_
      refine k_getR C (j := 4) okC6 rfl (by decide) (by decide) rfl flX6_18 dX6_meltAll_35 ?_
      refine k_iload_n C dX6_meltAll_38 rfl rfl ?_
      refine k_iconst C dX6_meltAll_39 ?_
      refine k_iastore C rfl (by decide) (by decide) ⟨by omega, by omega⟩ (by omega) dX6_meltAll_40 ?_
      refine k_iinc C dX6_meltAll_41 (by decide) rfl ?_
      refine k_goto C (tgt := 9) dX6_meltAll_44 rfl ?_
      refine k_cut2 C (lv' := [(0, _), (1, _)]) ⟨rfl, rfl, trivial⟩ ?_
      refine l_ma1 M m hm c0 hc0 hL0 hB C _ ((hF.u (by decide)).u (by decide)) ?_ (by rw [up_ne (by decide), up_ne (by decide)]; exact h10) (x + 1) (by omega) (fun y a b => ?_) (fun y a b => ?_)
      · unfold BndI askC
        rw [up_ne (show (3 : Nat) ≠ 18 by decide), up_ne (show (3 : Nat) ≠ 16 by decide), up_ne (show (4 : Nat) ≠ 18 by decide), up_ne (show (4 : Nat) ≠ 16 by decide), up_ne (show (5 : Nat) ≠ 18 by decide), up_ne (show (5 : Nat) ≠ 16 by decide), up_ne (show (6 : Nat) ≠ 18 by decide), up_ne (show (6 : Nat) ≠ 16 by decide), up_ne (show (7 : Nat) ≠ 18 by decide), up_ne (show (7 : Nat) ≠ 16 by decide), up_ne (show (8 : Nat) ≠ 18 by decide), up_ne (show (8 : Nat) ≠ 16 by decide)]
        exact hb
      · rw [up_ne (show (16 : Nat) ≠ 18 by decide), up_at]; by_cases z : y = x
        · rw [if_pos z, z]
        · rw [if_neg z]; exact h16 y a (by omega)
      · rw [up_at, up_ne (show (18 : Nat) ≠ 16 by decide)]; by_cases z : y = x
        · rw [if_pos z]
        · rw [if_neg z]; exact h18 y a (by omega)
termination_by (m - x).toNat
decreasing_by all_goals omega
set_option maxHeartbeats 4000000 in
set_option maxRecDepth 100000 in
theorem c_meltAll (M : Mem) (m : Int) (hm : M 9 6 = m ∧ 1 ≤ m ∧ m ≤ 721) (c0 : Int → Int) (hc0 : ∀ i, 0 ≤ i → i < 8 * m → M 10 i = c0 i) (hL0 : LI m c0 (fun x => x) c0 (fun _ => 0) 1 1) (hB : BkC M) : Ct shC nC yX6_meltAll cX6_meltAll 2 (some .boolean) (lvl 5) [.inr 15] M (fun r M' => MaP m c0 M M' r) := by
  refine Ct_of (by decide +kernel) (Nat.le_of_ble_eq_true rfl) (fun K C => ?_)
  refine k_aload_n C dX6_meltAll_0 rfl rfl ?_
  refine k_getR C (j := 0) okC6 rfl (by decide) (by decide) rfl flX6_33 dX6_meltAll_1 ?_
  refine k_callV C okX6_41 dX6_meltAll_4 (c_Book_gather M hB) rfl rfl (by decide) rfl (by decide) rfl (Nat.le_of_ble_eq_true rfl) (fun r4 M4 hr4 hp4 => ?_)
  refine k_iconst C dX6_meltAll_7 ?_
  refine k_istore_n C dX6_meltAll_8 rfl (by decide) ?_
  refine k_cut2 C (lv' := [(0, _), (1, _)]) ⟨rfl, rfl, trivial⟩ ?_
  have F : AF M M4 := ⟨fun j a b c d e f g p q r s => hp4.1.1 j b a, hp4.1.2, fun i _ _ _ _ => by rw [hp4.1.1 15 (by decide) (by decide)]⟩
  refine l_ma1 M m hm c0 hc0 hL0 hB C M4 F ?_ (hp4.1.1 10 (by decide) (by decide)) 0 (by omega) (fun y a b => by omega) (fun y a b => by omega)
  have q := hp4.2
  obtain ⟨a, b, c, d, e, f⟩ := F.b
  unfold BndI askC at q ⊢
  rw [a, b, c, d, e]; exact q
