/-! MELTING: is a wrong row taken? -/
def wkf (it ch ca : Int → Int) (r : Int) : Nat → Int
  | 0 => 0
  | l + 1 => if wkf it ch ca r l = -1 then -1 else if ch (8 * wkf it ch ca r l + ca (12 * r + l)) = -1 then -1 else rt it (ch (8 * wkf it ch ca r l + ca (12 * r + l)))
def tkn (it ch ca sz : Int → Int) (r : Int) : Prop := ¬ wkf it ch ca r (sz r).toNat = -1
def TW (n : Int) (sz ri th ca it ch : Int → Int) : Prop := ∃ w, ask n sz ri th ca w ∧ tkn it ch ca sz w
theorem wkf_s {it ch ca : Int → Int} {r : Int} {k : Int} (hk : 0 ≤ k) (h : ¬ wkf it ch ca r k.toNat = -1) (h2 : ¬ ch (8 * wkf it ch ca r k.toNat + ca (12 * r + k)) = -1) : wkf it ch ca r (k + 1).toNat = rt it (ch (8 * wkf it ch ca r k.toNat + ca (12 * r + k))) := by
  rw [show (k + 1).toNat = k.toNat + 1 by omega, wkf, if_neg h, show ((k.toNat : Nat) : Int) = k by omega, if_neg h2]
theorem wkf_x {it ch ca : Int → Int} {r : Int} {k : Int} (hk : 0 ≤ k) (h2 : ch (8 * wkf it ch ca r k.toNat + ca (12 * r + k)) = -1) : wkf it ch ca r (k + 1).toNat = -1 := by
  rw [show (k + 1).toNat = k.toNat + 1 by omega, wkf, show ((k.toNat : Nat) : Int) = k by omega, if_pos h2]
  split <;> rfl
theorem wkf_m {it ch ca : Int → Int} {r : Int} : ∀ (d l : Nat), l ≤ d → wkf it ch ca r l = -1 → wkf it ch ca r d = -1
  | 0, l, h, e => by rw [show l = 0 by omega] at e; exact e
  | d + 1, l, h, e => by
    by_cases z : l = d + 1
    · rw [z] at e; exact e
    · rw [wkf, if_pos (wkf_m d l (by omega) e)]
theorem wkf_in {m : Int} {it ch ca : Int → Int} {r s : Int} (hF : Fo m it) (hC : ChOk m ch) (hm : 1 ≤ m) (hca : ∀ i, 0 ≤ i → i < s → 0 ≤ ca (12 * r + i) ∧ ca (12 * r + i) < 8) : ∀ l : Nat, (l : Int) ≤ s → wkf it ch ca r l = -1 ∨ (0 ≤ wkf it ch ca r l ∧ wkf it ch ca r l < m)
  | 0, _ => Or.inr ⟨Int.le_refl _, by show (0 : Int) < m; omega⟩
  | l + 1, h => by
    have ih := wkf_in hF hC hm hca l (by omega)
    have q := hca l (by omega) (by omega)
    rw [wkf]
    by_cases e : wkf it ch ca r l = -1
    · rw [if_pos e]; exact Or.inl rfl
    · rw [if_neg e]
      have c := hC (8 * wkf it ch ca r l + ca (12 * r + l)) (by omega) (by omega)
      by_cases e2 : ch (8 * wkf it ch ca r l + ca (12 * r + l)) = -1
      · rw [if_pos e2]; exact Or.inl rfl
      · rw [if_neg e2]
        have := rt_ok hF (x := ch (8 * wkf it ch ca r l + ca (12 * r + l))) (by omega) (by omega)
        omega
theorem wkf_cg {m : Int} {it ch it' ch' ca : Int → Int} {r s : Int} (hF : Fo m it) (hC : ChOk m ch) (hm : 1 ≤ m) (hca : ∀ i, 0 ≤ i → i < s → 0 ≤ ca (12 * r + i) ∧ ca (12 * r + i) < 8) (h1 : ∀ x, 0 ≤ x → x < m → rt it' x = rt it x) (h2 : ∀ i, 0 ≤ i → i < 8 * m → ch' i = ch i) : ∀ l : Nat, (l : Int) ≤ s → wkf it' ch' ca r l = wkf it ch ca r l
  | 0, _ => rfl
  | l + 1, h => by
    have ih := wkf_cg hF hC hm hca h1 h2 l (by omega)
    have q := hca l (by omega) (by omega)
    have g := wkf_in hF hC hm hca l (by omega)
    rw [wkf, wkf, ih]
    by_cases e : wkf it ch ca r l = -1
    · rw [if_pos e, if_pos e]
    · rw [if_neg e, if_neg e, h2 _ (by omega) (by omega)]
      have c := hC (8 * wkf it ch ca r l + ca (12 * r + l)) (by omega) (by omega)
      by_cases e2 : ch (8 * wkf it ch ca r l + ca (12 * r + l)) = -1
      · rw [if_pos e2, if_pos e2]
      · rw [if_neg e2, if_neg e2, h1 _ (by omega) (by omega)]
theorem TW_cg {m n : Int} {sz ri th ca it ch it' ch' : Int → Int} (hB : BkOk n sz ri th ca) (hF : Fo m it) (hC : ChOk m ch) (hm : 1 ≤ m) (h1 : ∀ x, 0 ≤ x → x < m → rt it' x = rt it x) (h2 : ∀ i, 0 ≤ i → i < 8 * m → ch' i = ch i) : TW n sz ri th ca it' ch' ↔ TW n sz ri th ca it ch := by
  have k : ∀ w, ask n sz ri th ca w → (tkn it' ch' ca sz w ↔ tkn it ch ca sz w) := fun w a => by
    have b := hB.2.2 w a.1 a.2.1
    unfold tkn
    rw [wkf_cg hF hC hm (s := sz w) b.2.2.2.2.2 h1 h2 (sz w).toNat (by omega)]
  exact ⟨fun ⟨w, a, b⟩ => ⟨w, a, (k w a).1 b⟩, fun ⟨w, a, b⟩ => ⟨w, a, (k w a).2 b⟩⟩
set_option maxHeartbeats 4000000 in
set_option maxRecDepth 100000 in
theorem l_takesRow {K : Kt} (M : Mem) (m : Int) (hm : 1 ≤ m ∧ m ≤ 721) (hB : BkC M) (hF : Fo m (M 16)) (hC : ChOk m (M 10)) (row : Int) (hr : 0 ≤ row ∧ row < M 3 6) (C : Ctx shC nC RX6 cX6_takesRow 5 (some .boolean) (lvl 2) (fun r M' => M = M' ∧ ((r = 1 ∧ tkn (M 16) (M 10) (M 4) (M 5) row) ∨ (r = 0 ∧ ¬ tkn (M 16) (M 10) (M 4) (M 5) row))) K) (i a : Int) (hi : 0 ≤ i ∧ i ≤ M 5 row) (ha : a = wkf (M 16) (M 10) (M 4) row i.toNat) (hn : ¬ a = -1) : K 14 [(0, .inr 15), (1, .inl row), (2, .inl a), (3, .inl (M 5 row)), (4, .inl i)] [] M := by
  have b1 := hB.1; have b2 := hB.2.1; have hb := hB.2.2 row hr.1 hr.2
  have g := wkf_in hF hC hm.1 hb.2.2.2.2.2 i.toNat (by omega)
  rw [← ha] at g
  refine k_iload C dX6_takesRow_14 rfl ?_
  refine k_iload_n C dX6_takesRow_16 rfl rfl ?_
  refine k_icmp_ge C (tgt := 56) dX6_takesRow_17 rfl (by omega) (by omega) (fun c17 => ?_) (fun c17 => ?_)
  · refine k_iconst C dX6_takesRow_56 ?_
    exact k_zret C dX6_takesRow_57 (by omega) (fun _ => ⟨rfl, Or.inl ⟨rfl, by unfold tkn; rw [show M 5 row = i by omega, ← ha]; exact hn⟩⟩)
  · have q := hb.2.2.2.2.2 i hi.1 c17
    have o := hC (8 * a + M 4 (12 * row + i)) (by omega) (by omega)
    have ws := wkf_s (it := M 16) (ch := M 10) (ca := M 4) (r := row) hi.1 (by rw [← ha]; exact hn)
    have wx := wkf_x (it := M 16) (ch := M 10) (ca := M 4) (r := row) hi.1
    rw [← ha] at ws wx
    refine k_aload_n C dX6_takesRow_20 rfl rfl ?_
    refine k_aload_n C dX6_takesRow_21 rfl rfl ?_
    refine k_getR C (j := 1) okC6 rfl (by decide) (by decide) rfl flX6_37 dX6_takesRow_22 ?_
    refine k_iload_n C dX6_takesRow_25 rfl rfl ?_
    refine k_aload_n C dX6_takesRow_26 rfl rfl ?_
    refine k_getR C (j := 0) okC6 rfl (by decide) (by decide) rfl flX6_33 dX6_takesRow_27 ?_
    refine k_iload_n C dX6_takesRow_30 rfl rfl ?_
    refine k_iload C dX6_takesRow_31 rfl ?_
    refine k_callV C okX6_129 dX6_takesRow_33 (c_Book_callAt M row i (by omega) (by omega)) rfl rfl (by decide) rfl (by decide) rfl (Nat.le_of_ble_eq_true rfl) (fun r33 M33 hr33 hp33 => ?_)
    obtain ⟨rfl, rfl⟩ := hp33
    refine k_callV C okX6_65 dX6_takesRow_36 (c_Tree_childOf M a (M 4 (12 * row + i)) (by omega) (by omega)) rfl rfl (by decide) rfl (by decide) rfl (Nat.le_of_ble_eq_true rfl) (fun r36 M36 hr36 hp36 => ?_)
    obtain ⟨rfl, hp36⟩ := hp36
    have e36 : r36 = M 10 (8 * a + M 4 (12 * row + i)) := by omega
    subst e36
    refine k_callV C okX6_69 dX6_takesRow_39 (c_standing M m hm.2 hF (M 10 (8 * a + M 4 (12 * row + i))) (by omega)) rfl rfl (by decide) rfl (by decide) rfl (Nat.le_of_ble_eq_true rfl) (fun r39 M39 hr39 hp39 => ?_)
    obtain ⟨rfl, hp39⟩ := hp39
    refine k_istore_n C dX6_takesRow_42 rfl (by decide) ?_
    refine k_iload_n C dX6_takesRow_43 rfl rfl ?_
    refine k_iconst C dX6_takesRow_44 ?_
    refine k_icmp_ne C (tgt := 50) dX6_takesRow_45 rfl (by omega) (by omega) (fun c45 => ?_) (fun c45 => ?_)
    · refine k_iinc C dX6_takesRow_50 (by decide) rfl ?_
      refine k_goto C (tgt := 14) dX6_takesRow_53 rfl ?_
      refine k_cut2 C (lv' := [(0, _), (1, _), (2, _), (3, _), (4, _)]) ⟨rfl, rfl, rfl, rfl, rfl, trivial⟩ ?_
      exact l_takesRow M m hm hB hF hC row hr C (i + 1) _ (by omega) (by rcases hp39 with z | z; omega; rw [ws (by omega)]; exact z.2) (by omega)
    · refine k_iconst C dX6_takesRow_48 ?_
      exact k_zret C dX6_takesRow_49 (by omega) (fun _ => ⟨rfl, Or.inr ⟨rfl, fun t => t (wkf_m _ (i + 1).toNat (by omega) (wx (by
        rcases hp39 with z | z
        · exact z.1
        · have := rt_ok hF (x := M 10 (8 * a + M 4 (12 * row + i))) z.1 (by omega)
          omega)))⟩⟩)
termination_by (M 5 row - i).toNat
decreasing_by all_goals omega
set_option maxHeartbeats 4000000 in
set_option maxRecDepth 100000 in
theorem c_takesRow (M : Mem) (m : Int) (hm : 1 ≤ m ∧ m ≤ 721) (hB : BkC M) (hF : Fo m (M 16)) (hC : ChOk m (M 10)) (row : Int) (hr : 0 ≤ row ∧ row < M 3 6) : Ct shC nC yX6_takesRow cX6_takesRow 5 (some .boolean) (lvl 2) [.inr 15, .inl row] M (fun r M' => M = M' ∧ ((r = 1 ∧ tkn (M 16) (M 10) (M 4) (M 5) row) ∨ (r = 0 ∧ ¬ tkn (M 16) (M 10) (M 4) (M 5) row))) := by
  refine Ct_of (by decide +kernel) (Nat.le_of_ble_eq_true rfl) (fun K C => ?_)
  have b1 := hB.1; have b2 := hB.2.1; have hb := hB.2.2 row hr.1 hr.2
  refine k_iconst C dX6_takesRow_0 ?_
  refine k_istore_n C dX6_takesRow_1 rfl (by decide) ?_
  refine k_aload_n C dX6_takesRow_2 rfl rfl ?_
  refine k_getR C (j := 0) okC6 rfl (by decide) (by decide) rfl flX6_33 dX6_takesRow_3 ?_
  refine k_iload_n C dX6_takesRow_6 rfl rfl ?_
  refine k_callV C okX6_126 dX6_takesRow_7 (c_Book_sizeOf M row (by omega)) rfl rfl (by decide) rfl (by decide) rfl (Nat.le_of_ble_eq_true rfl) (fun r7 M7 hr7 hp7 => ?_)
  obtain ⟨rfl, rfl⟩ := hp7
  refine k_istore_n C dX6_takesRow_10 rfl (by decide) ?_
  refine k_iconst C dX6_takesRow_11 ?_
  refine k_istore C dX6_takesRow_12 (by decide) ?_
  refine k_cut2 C (lv' := [(0, _), (1, _), (2, _), (3, _), (4, _)]) ⟨rfl, rfl, rfl, rfl, rfl, trivial⟩ ?_
  exact l_takesRow M m hm hB hF hC row hr C 0 0 (by omega) rfl (by omega)
set_option maxHeartbeats 4000000 in
set_option maxRecDepth 100000 in
theorem l_takesB {K : Kt} (M : Mem) (m : Int) (hm : 1 ≤ m ∧ m ≤ 721) (hB : BkC M) (hF : Fo m (M 16)) (hC : ChOk m (M 10)) (hb : BndI M M (M 3 6)) (C : Ctx shC nC RX6 cX6_takesBindingRow 2 (some .boolean) (lvl 3) (fun r M' => M = M' ∧ ((r = 1 ∧ TW (M 3 6) (M 5) (M 6) (M 7) (M 4) (M 16) (M 10)) ∨ (r = 0 ∧ ¬ TW (M 3 6) (M 5) (M 6) (M 7) (M 4) (M 16) (M 10)))) K) (i : Int) (hi : 0 ≤ i ∧ i ≤ M 3 5) (hI : ∀ j, 0 ≤ j → j < i → ¬ tkn (M 16) (M 10) (M 4) (M 5) (M 8 j)) : K 2 [(0, .inr 15), (1, .inl i)] [] M := by
  have b1 := hB.1; have b2 := hB.2.1
  obtain ⟨p1, p2, p3, p4⟩ := id hb
  refine k_iload_n C dX6_takesBindingRow_2 rfl rfl ?_
  refine k_aload_n C dX6_takesBindingRow_3 rfl rfl ?_
  refine k_getR C (j := 0) okC6 rfl (by decide) (by decide) rfl flX6_33 dX6_takesBindingRow_4 ?_
  refine k_getJ C 5 5 rfl okC0 rfl (by decide) (by decide) rfl flX6_117 dX6_takesBindingRow_7 (fun ld7 => ?_)
  refine k_icmp_ge C (tgt := 43) dX6_takesBindingRow_10 rfl (by omega) (by omega) (fun c10 => ?_) (fun c10 => ?_)
  · refine k_iconst C dX6_takesBindingRow_43 ?_
    exact k_zret C dX6_takesBindingRow_44 (by omega) (fun _ => by
      first
      | (exfalso; omega)
      | exact ⟨rfl, Or.inr ⟨rfl, fun ⟨w, x, y⟩ => by obtain ⟨j, z1, z2, z3⟩ := p4 w x.2.1 x; exact hI j z1 (by omega) (by rw [z3]; exact y)⟩⟩)
  · refine k_iload_n C dX6_takesBindingRow_13 rfl rfl ?_
    refine k_bipush C dX6_takesBindingRow_14 (by decide) ?_
    refine k_icmp_ge C (tgt := 43) dX6_takesBindingRow_16 rfl (by omega) (by omega) (fun c16 => ?_) (fun c16 => ?_)
    · refine k_iconst C dX6_takesBindingRow_43 ?_
      exact k_zret C dX6_takesBindingRow_44 (by omega) (fun _ => by
      first
      | (exfalso; omega)
      | exact ⟨rfl, Or.inr ⟨rfl, fun ⟨w, x, y⟩ => by obtain ⟨j, z1, z2, z3⟩ := p4 w x.2.1 x; exact hI j z1 (by omega) (by rw [z3]; exact y)⟩⟩)
    · have ak := p3 i hi.1 c10
      have ak1 := ak.1; have ak2 := ak.2.1
      refine k_aload_n C dX6_takesBindingRow_19 rfl rfl ?_
      refine k_aload_n C dX6_takesBindingRow_20 rfl rfl ?_
      refine k_getR C (j := 0) okC6 rfl (by decide) (by decide) rfl flX6_33 dX6_takesBindingRow_21 ?_
      refine k_getR C (j := 4) okC0 rfl (by decide) (by decide) rfl flX6_120 dX6_takesBindingRow_24 ?_
      refine k_iload_n C dX6_takesBindingRow_27 rfl rfl ?_
      refine k_iaload C rfl (by decide) (by decide) ⟨by omega, by omega⟩ dX6_takesBindingRow_28 (fun ld28 => ?_)
      refine k_callV C okX6_123 dX6_takesBindingRow_29 (c_takesRow M m hm hB hF hC (M 8 i) ⟨ak1, ak2⟩) rfl rfl (by decide) rfl (by decide) rfl (Nat.le_of_ble_eq_true rfl) (fun r29 M29 hr29 hp29 => ?_)
      obtain ⟨rfl, hp29⟩ := hp29
      refine k_if_eq C (tgt := 37) dX6_takesBindingRow_32 rfl (by omega) (fun c32 => ?_) (fun c32 => ?_)
      · refine k_iinc C dX6_takesBindingRow_37 (by decide) rfl ?_
        refine k_goto C (tgt := 2) dX6_takesBindingRow_40 rfl ?_
        refine k_cut2 C (lv' := [(0, _), (1, _)]) ⟨rfl, rfl, trivial⟩ ?_
        refine l_takesB M m hm hB hF hC hb C (i + 1) (by omega) (fun j x y => ?_)
        by_cases e : j = i
        · subst e; rcases hp29 with z | z; omega; exact z.2
        · exact hI j x (by omega)
      · refine k_iconst C dX6_takesBindingRow_35 ?_
        exact k_zret C dX6_takesBindingRow_36 (by omega) (fun _ => ⟨rfl, Or.inl ⟨rfl, M 8 i, ak, by rcases hp29 with z | z; exact z.2; omega⟩⟩)
termination_by (M 3 5 - i).toNat
decreasing_by all_goals omega
set_option maxHeartbeats 4000000 in
set_option maxRecDepth 100000 in
theorem c_takesB (M : Mem) (m : Int) (hm : 1 ≤ m ∧ m ≤ 721) (hB : BkC M) (hF : Fo m (M 16)) (hC : ChOk m (M 10)) (hb : BndI M M (M 3 6)) : Ct shC nC yX6_takesBindingRow cX6_takesBindingRow 2 (some .boolean) (lvl 3) [.inr 15] M (fun r M' => M = M' ∧ ((r = 1 ∧ TW (M 3 6) (M 5) (M 6) (M 7) (M 4) (M 16) (M 10)) ∨ (r = 0 ∧ ¬ TW (M 3 6) (M 5) (M 6) (M 7) (M 4) (M 16) (M 10)))) := by
  refine Ct_of (by decide +kernel) (Nat.le_of_ble_eq_true rfl) (fun K C => ?_)
  have p1 := hb.1
  refine k_iconst C dX6_takesBindingRow_0 ?_
  refine k_istore_n C dX6_takesBindingRow_1 rfl (by decide) ?_
  refine k_cut2 C (lv' := [(0, _), (1, _)]) ⟨rfl, rfl, trivial⟩ ?_
  exact l_takesB M m hm hB hF hC hb C 0 (by omega) (fun j x y => by omega)
set_option maxHeartbeats 4000000 in
set_option maxRecDepth 100000 in
theorem m_tw2 {K : Kt} (bl : Nat) (M : Mem) (m : Int) (hm : 1 ≤ m ∧ m ≤ 721) (hB : BkM M) (hF : Fo m (M 13)) (hC : ChOk m (M 14)) (hA : ∀ x, 0 ≤ x → x < M 0 7 → ((M 7 x = 1 ∧ askM M x) ∨ (M 7 x = 0 ∧ ¬ askM M x))) (C : Ctx (shM bl) nM RX11 cX11_takesWrong 4 (some .boolean) (lvl 1) (fun r M' => M = M' ∧ ((r = 1 ∧ TW (M 0 7) (M 3) (M 4) (M 5) (M 2) (M 13) (M 14)) ∨ (r = 0 ∧ ¬ TW (M 0 7) (M 3) (M 4) (M 5) (M 2) (M 13) (M 14)))) K) (row : Int) (hr : 0 ≤ row ∧ row < M 0 7) (hk1 : askM M row) (i a : Int) (hi : 0 ≤ i ∧ i ≤ M 3 row) (ha : a = wkf (M 13) (M 14) (M 2) row i.toNat) (hn : ¬ a = -1) (kk : ¬ tkn (M 13) (M 14) (M 2) (M 3) row → K 2 [(0, .inr 0), (1, .inl (row + 1))] [] M) : K 26 [(0, .inr 0), (1, .inl row), (2, .inl a), (3, .inl i)] [] M := by
  have b1 := hB.1; have b2 := hB.2.1; have hb := hB.2.2 row hr.1 hr.2
  have g := wkf_in hF hC hm.1 hb.2.2.2.2.2 i.toNat (by omega)
  rw [← ha] at g
  refine k_iload_n C dX11_takesWrong_26 rfl rfl ?_
  refine k_aload_n C dX11_takesWrong_27 rfl rfl ?_
  refine k_getR C (j := 4) okC11 rfl (by decide) (by decide) rfl flX11_16 dX11_takesWrong_28 ?_
  refine k_iload_n C dX11_takesWrong_31 rfl rfl ?_
  refine k_iaload C rfl (by decide) (by decide) ⟨by omega, by omega⟩ dX11_takesWrong_32 (fun ld32 => ?_)
  refine k_icmp_ge C (tgt := 92) dX11_takesWrong_33 rfl (by omega) (by omega) (fun c33 => ?_) (fun c33 => ?_)
  · refine k_iload_n C dX11_takesWrong_92 rfl rfl ?_
    refine k_aload_n C dX11_takesWrong_93 rfl rfl ?_
    refine k_getR C (j := 4) okC11 rfl (by decide) (by decide) rfl flX11_16 dX11_takesWrong_94 ?_
    refine k_iload_n C dX11_takesWrong_97 rfl rfl ?_
    refine k_iaload C rfl (by decide) (by decide) ⟨by omega, by omega⟩ dX11_takesWrong_98 (fun ld98 => ?_)
    refine k_icmp_ne C (tgt := 104) dX11_takesWrong_99 rfl (by omega) (by omega) (fun c99 => ?_) (fun c99 => ?_)
    · refine k_iinc C dX11_takesWrong_104 (by decide) rfl ?_
      refine k_goto C (tgt := 2) dX11_takesWrong_107 rfl ?_
      refine k_cut2 C (lv' := [(0, _), (1, _)]) ⟨rfl, rfl, trivial⟩ ?_
      first | (exfalso; omega) | exact kk (fun t => t (wkf_m _ (i + 1).toNat (by omega) (wx (by omega))))
    · refine k_iconst C dX11_takesWrong_102 ?_
      exact k_zret C dX11_takesWrong_103 (by omega) (fun _ => by
      first
      | (exfalso; omega)
      | exact ⟨rfl, Or.inl ⟨rfl, row, hk1, by unfold tkn; rw [show M 3 row = i by omega, ← ha]; exact hn⟩⟩)
  · have q := hb.2.2.2.2.2 i hi.1 c33
    have o := hC (8 * a + M 2 (12 * row + i)) (by omega) (by omega)
    have ws := wkf_s (it := M 13) (ch := M 14) (ca := M 2) (r := row) hi.1 (by rw [← ha]; exact hn)
    have wx := wkf_x (it := M 13) (ch := M 14) (ca := M 2) (r := row) hi.1
    rw [← ha] at ws wx
    refine k_aload_n C dX11_takesWrong_36 rfl rfl ?_
    refine k_getR C (j := 17) okC11 rfl (by decide) (by decide) rfl flX11_50 dX11_takesWrong_37 ?_
    refine k_bipush C dX11_takesWrong_40 (by decide) ?_
    refine k_iload_n C dX11_takesWrong_42 rfl rfl ?_
    refine k_imul C dX11_takesWrong_43 ?_
    refine k_aload_n C dX11_takesWrong_44 rfl rfl ?_
    refine k_getR C (j := 3) okC11 rfl (by decide) (by decide) rfl flX11_13 dX11_takesWrong_45 ?_
    refine k_bipush C dX11_takesWrong_48 (by decide) ?_
    refine k_iload_n C dX11_takesWrong_50 rfl rfl ?_
    refine k_imul C dX11_takesWrong_51 ?_
    refine k_iload_n C dX11_takesWrong_52 rfl rfl ?_
    refine k_iadd C dX11_takesWrong_53 ?_
    refine k_iaload C rfl (by decide) (by decide) ⟨by omega, by omega⟩ dX11_takesWrong_54 (fun ld54 => ?_)
    refine k_iadd C dX11_takesWrong_55 ?_
    refine k_iaload C rfl (by decide) (by decide) ⟨by omega, by omega⟩ dX11_takesWrong_56 (fun ld56 => ?_)
    refine k_if_lt C (tgt := 92) dX11_takesWrong_57 rfl (by omega) (fun c57 => ?_) (fun c57 => ?_)
    · refine k_iload_n C dX11_takesWrong_92 rfl rfl ?_
      refine k_aload_n C dX11_takesWrong_93 rfl rfl ?_
      refine k_getR C (j := 4) okC11 rfl (by decide) (by decide) rfl flX11_16 dX11_takesWrong_94 ?_
      refine k_iload_n C dX11_takesWrong_97 rfl rfl ?_
      refine k_iaload C rfl (by decide) (by decide) ⟨by omega, by omega⟩ dX11_takesWrong_98 (fun ld98 => ?_)
      refine k_icmp_ne C (tgt := 104) dX11_takesWrong_99 rfl (by omega) (by omega) (fun c99 => ?_) (fun c99 => ?_)
      · refine k_iinc C dX11_takesWrong_104 (by decide) rfl ?_
        refine k_goto C (tgt := 2) dX11_takesWrong_107 rfl ?_
        refine k_cut2 C (lv' := [(0, _), (1, _)]) ⟨rfl, rfl, trivial⟩ ?_
        first | (exfalso; omega) | exact kk (fun t => t (wkf_m _ (i + 1).toNat (by omega) (wx (by omega))))
      · refine k_iconst C dX11_takesWrong_102 ?_
        exact k_zret C dX11_takesWrong_103 (by omega) (fun _ => by
      first
      | (exfalso; omega)
      | exact ⟨rfl, Or.inl ⟨rfl, row, hk1, by unfold tkn; rw [show M 3 row = i by omega, ← ha]; exact hn⟩⟩)
    · refine k_aload_n C dX11_takesWrong_60 rfl rfl ?_
      refine k_aload_n C dX11_takesWrong_61 rfl rfl ?_
      refine k_getR C (j := 17) okC11 rfl (by decide) (by decide) rfl flX11_50 dX11_takesWrong_62 ?_
      refine k_bipush C dX11_takesWrong_65 (by decide) ?_
      refine k_iload_n C dX11_takesWrong_67 rfl rfl ?_
      refine k_imul C dX11_takesWrong_68 ?_
      refine k_aload_n C dX11_takesWrong_69 rfl rfl ?_
      refine k_getR C (j := 3) okC11 rfl (by decide) (by decide) rfl flX11_13 dX11_takesWrong_70 ?_
      refine k_bipush C dX11_takesWrong_73 (by decide) ?_
      refine k_iload_n C dX11_takesWrong_75 rfl rfl ?_
      refine k_imul C dX11_takesWrong_76 ?_
      refine k_iload_n C dX11_takesWrong_77 rfl rfl ?_
      refine k_iadd C dX11_takesWrong_78 ?_
      refine k_iaload C rfl (by decide) (by decide) ⟨by omega, by omega⟩ dX11_takesWrong_79 (fun ld79 => ?_)
      refine k_iadd C dX11_takesWrong_80 ?_
      refine k_iaload C rfl (by decide) (by decide) ⟨by omega, by omega⟩ dX11_takesWrong_81 (fun ld81 => ?_)
      refine k_callV C okX11_170 dX11_takesWrong_82 (c_M_leastOf bl M m (by omega) hF (M 14 (8 * a + M 2 (12 * row + i))) (by omega)) rfl rfl (by decide) rfl (by decide) rfl (Nat.le_of_ble_eq_true rfl) (fun r82 M82 hr82 hp82 => ?_)
      obtain ⟨rfl, hp82⟩ := hp82
      refine k_istore_n C dX11_takesWrong_85 rfl (by decide) ?_
      refine k_iinc C dX11_takesWrong_86 (by decide) rfl ?_
      refine k_goto C (tgt := 26) dX11_takesWrong_89 rfl ?_
      refine k_cut2 C (lv' := [(0, _), (1, _), (2, _), (3, _)]) ⟨rfl, rfl, rfl, rfl, trivial⟩ ?_
      have rr := rt_ok hF (x := M 14 (8 * a + M 2 (12 * row + i))) (by omega) (by omega)
      exact m_tw2 bl M m hm hB hF hC hA C row hr hk1 (i + 1) _ (by omega) (by rw [ws (by omega)]; exact hp82) (by omega) kk
termination_by (M 3 row - i).toNat
decreasing_by all_goals omega
set_option maxHeartbeats 4000000 in
set_option maxRecDepth 100000 in
theorem m_tw1 {K : Kt} (bl : Nat) (M : Mem) (m : Int) (hm : 1 ≤ m ∧ m ≤ 721) (hB : BkM M) (hF : Fo m (M 13)) (hC : ChOk m (M 14)) (hA : ∀ x, 0 ≤ x → x < M 0 7 → ((M 7 x = 1 ∧ askM M x) ∨ (M 7 x = 0 ∧ ¬ askM M x))) (C : Ctx (shM bl) nM RX11 cX11_takesWrong 4 (some .boolean) (lvl 1) (fun r M' => M = M' ∧ ((r = 1 ∧ TW (M 0 7) (M 3) (M 4) (M 5) (M 2) (M 13) (M 14)) ∨ (r = 0 ∧ ¬ TW (M 0 7) (M 3) (M 4) (M 5) (M 2) (M 13) (M 14)))) K) (row : Int) (hr : 0 ≤ row ∧ row ≤ M 0 7) (hI : ∀ w, 0 ≤ w → w < row → askM M w → ¬ tkn (M 13) (M 14) (M 2) (M 3) w) : K 2 [(0, .inr 0), (1, .inl row)] [] M := by
  have b1 := hB.1; have b2 := hB.2.1; have hb := hB.2.2 row hr.1; have hAr := hA row hr.1
  refine k_iload_n C dX11_takesWrong_2 rfl rfl ?_
  refine k_aload_n C dX11_takesWrong_3 rfl rfl ?_
  refine k_getJ C 7 7 rfl okC11 rfl (by decide) (by decide) rfl flX11_147 dX11_takesWrong_4 (fun ld4 => ?_)
  refine k_icmp_ge C (tgt := 110) dX11_takesWrong_7 rfl (by omega) (by omega) (fun c7 => ?_) (fun c7 => ?_)
  · refine k_iconst C dX11_takesWrong_110 ?_
    exact k_zret C dX11_takesWrong_111 (by omega) (fun _ => ⟨rfl, Or.inr ⟨rfl, fun ⟨w, x, y⟩ => hI w x.1 (by have := x.2.1; omega) x y⟩⟩)
  · have hb := hb c7; have hAr := hAr c7
    refine k_aload_n C dX11_takesWrong_10 rfl rfl ?_
    refine k_getR C (j := 9) okC11 rfl (by decide) (by decide) rfl flX11_29 dX11_takesWrong_11 ?_
    refine k_iload_n C dX11_takesWrong_14 rfl rfl ?_
    refine k_zaload C rfl (by decide) (by decide) ⟨by omega, by omega⟩ dX11_takesWrong_15 (fun ld15 => ?_)
    refine k_if_ne C (tgt := 22) dX11_takesWrong_16 rfl (by omega) (fun c16 => ?_) (fun c16 => ?_)
    · refine k_iconst C dX11_takesWrong_22 ?_
      refine k_istore_n C dX11_takesWrong_23 rfl (by decide) ?_
      refine k_iconst C dX11_takesWrong_24 ?_
      refine k_istore_n C dX11_takesWrong_25 rfl (by decide) ?_
      refine k_cut2 C (lv' := [(0, _), (1, _), (2, _), (3, _)]) ⟨rfl, rfl, rfl, rfl, trivial⟩ ?_
      refine m_tw2 bl M m hm hB hF hC hA C row ⟨hr.1, by omega⟩ (by rcases hAr with z | z; exact z.2; omega) 0 0 (by omega) rfl (by omega) (fun t => m_tw1 bl M m hm hB hF hC hA C (row + 1) (by omega) (fun w x y z => ?_))
      by_cases e : w = row
      · rw [e]; exact t
      · exact hI w x (by omega) z
    · refine k_goto C (tgt := 104) dX11_takesWrong_19 rfl ?_
      refine k_iinc C dX11_takesWrong_104 (by decide) rfl ?_
      refine k_goto C (tgt := 2) dX11_takesWrong_107 rfl ?_
      refine k_cut2 C (lv' := [(0, _), (1, _)]) ⟨rfl, rfl, trivial⟩ ?_
      refine m_tw1 bl M m hm hB hF hC hA C (row + 1) (by omega) (fun w x y z => ?_)
      by_cases e : w = row
      · subst e; rcases hAr with q | q; omega; exact absurd z q.2
      · exact hI w x (by omega) z
termination_by (M 0 7 - row).toNat
decreasing_by all_goals omega
set_option maxHeartbeats 4000000 in
set_option maxRecDepth 100000 in
theorem c_M_takesWrong (bl : Nat) (M : Mem) (m : Int) (hm : 1 ≤ m ∧ m ≤ 721) (hB : BkM M) (hF : Fo m (M 13)) (hC : ChOk m (M 14)) (hA : ∀ x, 0 ≤ x → x < M 0 7 → ((M 7 x = 1 ∧ askM M x) ∨ (M 7 x = 0 ∧ ¬ askM M x))) : Ct (shM bl) nM yX11_takesWrong cX11_takesWrong 4 (some .boolean) (lvl 1) [.inr 0] M (fun r M' => M = M' ∧ ((r = 1 ∧ TW (M 0 7) (M 3) (M 4) (M 5) (M 2) (M 13) (M 14)) ∨ (r = 0 ∧ ¬ TW (M 0 7) (M 3) (M 4) (M 5) (M 2) (M 13) (M 14)))) := by
  refine Ct_of (by decide +kernel) (Nat.le_of_ble_eq_true rfl) (fun K C => ?_)
  have b1 := hB.1
  refine k_iconst C dX11_takesWrong_0 ?_
  refine k_istore_n C dX11_takesWrong_1 rfl (by decide) ?_
  refine k_cut2 C (lv' := [(0, _), (1, _)]) ⟨rfl, rfl, trivial⟩ ?_
  exact m_tw1 bl M m hm hB hF hC hA C 0 (by omega) (fun w x y => by omega)
