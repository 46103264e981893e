/-! UsageDesk: learn (Melter.writeInto, Law.countRow, Law.countOver) -/
def WF (M N : Mem) : Prop := (∀ j, j ≠ 18 → j ≠ 23 → j ≠ 24 → j ≠ 25 → N j = M j) ∧ ∀ i, i ≠ 2 → N 23 i = M 23 i
/-- a slot of the law as it must be -/
def LwS (it ch kept : Int → Int) (many : Int) (nx : Int → Int) (s c : Int) : Prop := (ch (8 * kept s + c) = -1 ∧ nx (8 * s + c) = -1) ∨ (¬ ch (8 * kept s + c) = -1 ∧ 0 ≤ nx (8 * s + c) ∧ nx (8 * s + c) < many ∧ kept (nx (8 * s + c)) = rt it (ch (8 * kept s + c)))
def WiP (M N : Mem) (it ch kept : Int → Int) (many : Int) : Prop := WF M N ∧ N 23 2 = many ∧ LwP it ch kept many (N 24) ∧ (∀ i, 8 * many ≤ i → i < 240 → N 24 i = -1) ∧ ∀ i, 0 ≤ i → i < 240 → N 25 i = 0
set_option maxHeartbeats 4000000 in
set_option maxRecDepth 100000 in
theorem l_wi3 {K : Kt} (M : Mem) (m : Int) (hm : m ≤ 721) (c0 it ch kept : Int → Int) (hL : LI m c0 it ch kept (M 15 9) m) (hG : CG m M it ch) (hkp : ∀ i, 0 ≤ i → i < M 15 9 → M 17 i = kept i) (C : Ctx shC nC RX6 cX6_writeInto 5 none (lvl 2) (fun _ M' => WiP M M' it ch kept (M 15 9)) K) (N : Mem) (hF : WF M N) (h18 : ∀ i, 0 ≤ i → i < M 15 9 → N 18 (kept i) = i) (h23 : N 23 2 = M 15 9) (h25 : ∀ i, 0 ≤ i → i < 240 → N 25 i = 0) (s c : Int) (hs : 0 ≤ s ∧ s < M 15 9) (hc : 0 ≤ c ∧ c ≤ 8) (hI : ∀ s2 c2, 0 ≤ s2 → 0 ≤ c2 → c2 < 8 → (s2 < s ∨ (s2 = s ∧ c2 < c)) → LwS it ch kept (M 15 9) (N 24) s2 c2) (hO : ∀ i, 8 * s + c ≤ i → i < 240 → N 24 i = -1) (kk : ∀ N2, WF M N2 → (∀ i, 0 ≤ i → i < M 15 9 → N2 18 (kept i) = i) → N2 23 2 = M 15 9 → (∀ i, 0 ≤ i → i < 240 → N2 25 i = 0) → (∀ s2 c2, 0 ≤ s2 → 0 ≤ c2 → c2 < 8 → s2 < s + 1 → LwS it ch kept (M 15 9) (N2 24) s2 c2) → (∀ i, 8 * (s + 1) ≤ i → i < 240 → N2 24 i = -1) → K 57 [(0, .inr 15), (1, .inr 23), (2, .inl (s + 1))] [] N2) : K 73 [(0, .inr 15), (1, .inr 23), (2, .inl s), (3, .inl c)] [] N := by
  have hmany := hL.2.2.2.2.1
  have e15 : N 15 = M 15 := hF.1 15 (by decide) (by decide) (by decide) (by decide)
  have e17 : N 17 = M 17 := hF.1 17 (by decide) (by decide) (by decide) (by decide)
  have e16 : N 16 = M 16 := hF.1 16 (by decide) (by decide) (by decide) (by decide)
  have e10 : N 10 = M 10 := hF.1 10 (by decide) (by decide) (by decide) (by decide)
  have ks := hL.2.2.2.2.2.1 s hs.1 hs.2
  refine k_iload_n C dX6_writeInto_73 rfl rfl ?_
  refine k_bipush C dX6_writeInto_74 (by decide) ?_
  refine k_icmp_ge C (tgt := 131) dX6_writeInto_76 rfl (by omega) (by omega) (fun c76 => ?_) (fun c76 => ?_)
  · refine k_iinc C dX6_writeInto_131 (by decide) rfl ?_
    refine k_goto C (tgt := 57) dX6_writeInto_134 rfl ?_
    refine k_cut2 C (lv' := [(0, _), (1, _), (2, _)]) ⟨rfl, rfl, rfl, trivial⟩ ?_
    have e8 : c = 8 := by omega
    subst e8
    exact kk N hF h18 h23 h25 (fun s2 c2 a b d e => hI s2 c2 a b d (by omega)) (fun i a b => hO i (by omega) b)
  · have oc := hL.2.1 (8 * kept s + c) (by omega) (by omega)
    have ec : N 10 (8 * kept s + c) = ch (8 * kept s + c) := by rw [e10]; exact hG.2.2 _ (by omega) (by omega)
    refine k_aload_n C dX6_writeInto_79 rfl rfl ?_
    refine k_aload_n C dX6_writeInto_80 rfl rfl ?_
    refine k_getR C (j := 1) okC6 rfl (by decide) (by decide) rfl flX6_37 dX6_writeInto_81 ?_
    refine k_aload_n C dX6_writeInto_84 rfl rfl ?_
    refine k_getR C (j := 3) okC6 rfl (by decide) (by decide) rfl flX6_15 dX6_writeInto_85 ?_
    refine k_iload_n C dX6_writeInto_88 rfl rfl ?_
    refine k_iaload C rfl (by decide) (by decide) ⟨by omega, by omega⟩ dX6_writeInto_89 (fun ld89 => ?_)
    rw [e17, hkp s hs.1 hs.2] at ld89 ⊢
    refine k_iload_n C dX6_writeInto_90 rfl rfl ?_
    refine k_callV C okX6_65 dX6_writeInto_91 (c_Tree_childOf N (kept s) c (by omega) (by omega)) rfl rfl (by decide) rfl (by decide) rfl (Nat.le_of_ble_eq_true rfl) (fun r91 M91 hr91 hp91 => ?_)
    obtain ⟨rfl, hp91⟩ := hp91
    have e91 : r91 = ch (8 * kept s + c) := by omega
    subst e91
    refine k_callV C okX6_69 dX6_writeInto_94 (c_standing N m hm (by rw [e16]; exact hG.1) (ch (8 * kept s + c)) (by omega)) rfl rfl (by decide) rfl (by decide) rfl (Nat.le_of_ble_eq_true rfl) (fun r94 M94 hr94 hp94 => ?_)
    obtain ⟨rfl, hp94⟩ := hp94
    refine k_istore C dX6_writeInto_97 (by decide) ?_
    refine k_iload C dX6_writeInto_99 rfl ?_
    refine k_if_lt C (tgt := 125) dX6_writeInto_101 rfl (by omega) (fun c101 => ?_) (fun c101 => ?_)
    · refine k_iinc C dX6_writeInto_125 (by decide) rfl ?_
      refine k_goto C (tgt := 73) dX6_writeInto_128 rfl ?_
      refine k_cut2 C (lv' := [(0, _), (1, _), (2, _), (3, _)]) ⟨rfl, rfl, rfl, rfl, trivial⟩ ?_
      first
      | (refine l_wi3 M m hm c0 it ch kept hL hG hkp C (up N 24 (8 * s + c) i0) ⟨fun j a b d e => by rw [up_ne d]; exact hF.1 j a b d e, fun i hi => by rw [up_ne (by decide)]; exact hF.2 i hi⟩ (by rw [up_ne (by decide)]; exact h18) (by rw [up_ne (by decide)]; exact h23) (by rw [up_ne (by decide)]; exact h25) s (c + 1) hs (by omega) (fun s2 c2 a b d e => ?_) (fun i a b => ?_) kk
         · by_cases z : s2 = s ∧ c2 = c
           · obtain ⟨rfl, rfl⟩ := z; right; rw [up_same]; exact ⟨by omega, i1, i2, i3⟩
           · unfold LwS; rw [up_at, if_neg (by omega)]; exact hI s2 c2 a b d (by omega)
         · rw [up_at, if_neg (by omega)]; exact hO i (by omega) b)
      | (have z0 : ch (8 * kept s + c) = -1 := by
            rcases hp94 with z | z
            · exact z.1
            · have rr := rt_ok hL.1 (x := ch (8 * kept s + c)) z.1 (by omega)
              have : r94 = rt it (ch (8 * kept s + c)) := by rw [z.2, e16]; exact hG.2.1 _ z.1 (by omega)
              omega
         refine l_wi3 M m hm c0 it ch kept hL hG hkp C N hF h18 h23 h25 s (c + 1) hs (by omega) (fun s2 c2 a b d e => ?_) (fun i a b => hO i (by omega) b) kk
         by_cases z : s2 = s ∧ c2 = c
         · obtain ⟨rfl, rfl⟩ := z; left; exact ⟨z0, hO _ (by omega) (by omega)⟩
         · exact hI s2 c2 a b d (by omega))
    · refine k_iload C dX6_writeInto_104 rfl ?_
      refine k_sipush C dX6_writeInto_106 (by decide) ?_
      refine k_icmp_ge C (tgt := 125) dX6_writeInto_109 rfl (by omega) (by omega) (fun c109 => ?_) (fun c109 => ?_)
      · refine k_iinc C dX6_writeInto_125 (by decide) rfl ?_
        refine k_goto C (tgt := 73) dX6_writeInto_128 rfl ?_
        refine k_cut2 C (lv' := [(0, _), (1, _), (2, _), (3, _)]) ⟨rfl, rfl, rfl, rfl, trivial⟩ ?_
        first
        | (refine l_wi3 M m hm c0 it ch kept hL hG hkp C (up N 24 (8 * s + c) i0) ⟨fun j a b d e => by rw [up_ne d]; exact hF.1 j a b d e, fun i hi => by rw [up_ne (by decide)]; exact hF.2 i hi⟩ (by rw [up_ne (by decide)]; exact h18) (by rw [up_ne (by decide)]; exact h23) (by rw [up_ne (by decide)]; exact h25) s (c + 1) hs (by omega) (fun s2 c2 a b d e => ?_) (fun i a b => ?_) kk
           · by_cases z : s2 = s ∧ c2 = c
             · obtain ⟨rfl, rfl⟩ := z; right; rw [up_same]; exact ⟨by omega, i1, i2, i3⟩
             · unfold LwS; rw [up_at, if_neg (by omega)]; exact hI s2 c2 a b d (by omega)
           · rw [up_at, if_neg (by omega)]; exact hO i (by omega) b)
        | (have z0 : ch (8 * kept s + c) = -1 := by
            rcases hp94 with z | z
            · exact z.1
            · have rr := rt_ok hL.1 (x := ch (8 * kept s + c)) z.1 (by omega)
              have : r94 = rt it (ch (8 * kept s + c)) := by rw [z.2, e16]; exact hG.2.1 _ z.1 (by omega)
              omega
           refine l_wi3 M m hm c0 it ch kept hL hG hkp C N hF h18 h23 h25 s (c + 1) hs (by omega) (fun s2 c2 a b d e => ?_) (fun i a b => hO i (by omega) b) kk
           by_cases z : s2 = s ∧ c2 = c
           · obtain ⟨rfl, rfl⟩ := z; left; exact ⟨z0, hO _ (by omega) (by omega)⟩
           · exact hI s2 c2 a b d (by omega))
      · refine k_aload_n C dX6_writeInto_112 rfl rfl ?_
        refine k_iload_n C dX6_writeInto_113 rfl rfl ?_
        refine k_iload_n C dX6_writeInto_114 rfl rfl ?_
        refine k_aload_n C dX6_writeInto_115 rfl rfl ?_
        refine k_getR C (j := 4) okC6 rfl (by decide) (by decide) rfl flX6_18 dX6_writeInto_116 ?_
        refine k_iload C dX6_writeInto_119 rfl ?_
        have rr := rt_ok hL.1 (x := ch (8 * kept s + c)) (by omega) (by omega)
        have e97 : r94 = rt it (ch (8 * kept s + c)) := by rcases hp94 with z | z; omega; rw [z.2, e16]; exact hG.2.1 _ z.1 (by omega)
        obtain ⟨i0, i1, i2, i3⟩ := hL.2.2.2.2.2.2.2.1 (rt it (ch (8 * kept s + c))) rr.1 (by omega) rr.2.2
        refine k_iaload C rfl (by decide) (by decide) ⟨by omega, by omega⟩ dX6_writeInto_121 (fun ld121 => ?_)
        have v18 : N 18 r94 = i0 := by rw [e97, ← i3]; exact h18 i0 i1 i2
        rw [v18] at ld121 ⊢
        refine k_callV C okX6_73 dX6_writeInto_122 (c_Law_setStep N s c i0 (by omega) (by omega) (by omega)) rfl rfl (by decide) rfl (by decide) rfl (Nat.le_of_ble_eq_true rfl) (fun r122 M122 hr122 hp122 => ?_)
        subst hp122
        refine k_iinc C dX6_writeInto_125 (by decide) rfl ?_
        refine k_goto C (tgt := 73) dX6_writeInto_128 rfl ?_
        refine k_cut2 C (lv' := [(0, _), (1, _), (2, _), (3, _)]) ⟨rfl, rfl, rfl, rfl, trivial⟩ ?_
        first
        | (refine l_wi3 M m hm c0 it ch kept hL hG hkp C (up N 24 (8 * s + c) i0) ⟨fun j a b d e => by rw [up_ne d]; exact hF.1 j a b d e, fun i hi => by rw [up_ne (by decide)]; exact hF.2 i hi⟩ (by rw [up_ne (by decide)]; exact h18) (by rw [up_ne (by decide)]; exact h23) (by rw [up_ne (by decide)]; exact h25) s (c + 1) hs (by omega) (fun s2 c2 a b d e => ?_) (fun i a b => ?_) kk
           · by_cases z : s2 = s ∧ c2 = c
             · obtain ⟨rfl, rfl⟩ := z; right; rw [up_same]; exact ⟨by omega, i1, i2, i3⟩
             · unfold LwS; rw [up_at, if_neg (by omega)]; exact hI s2 c2 a b d (by omega)
           · rw [up_at, if_neg (by omega)]; exact hO i (by omega) b)
        | (have z0 : ch (8 * kept s + c) = -1 := by
            rcases hp94 with z | z
            · exact z.1
            · have rr := rt_ok hL.1 (x := ch (8 * kept s + c)) z.1 (by omega)
              have : r94 = rt it (ch (8 * kept s + c)) := by rw [z.2, e16]; exact hG.2.1 _ z.1 (by omega)
              omega
           refine l_wi3 M m hm c0 it ch kept hL hG hkp C N hF h18 h23 h25 s (c + 1) hs (by omega) (fun s2 c2 a b d e => ?_) (fun i a b => hO i (by omega) b) kk
           by_cases z : s2 = s ∧ c2 = c
           · obtain ⟨rfl, rfl⟩ := z; left; exact ⟨z0, hO _ (by omega) (by omega)⟩
           · exact hI s2 c2 a b d (by omega))
termination_by (8 - c).toNat
decreasing_by all_goals omega
set_option maxHeartbeats 4000000 in
set_option maxRecDepth 100000 in
theorem l_wi2 {K : Kt} (M : Mem) (m : Int) (hm : m ≤ 721) (c0 it ch kept : Int → Int) (hL : LI m c0 it ch kept (M 15 9) m) (hG : CG m M it ch) (hkp : ∀ i, 0 ≤ i → i < M 15 9 → M 17 i = kept i) (C : Ctx shC nC RX6 cX6_writeInto 5 none (lvl 2) (fun _ M' => WiP M M' it ch kept (M 15 9)) K) (N : Mem) (hF : WF M N) (h18 : ∀ i, 0 ≤ i → i < M 15 9 → N 18 (kept i) = i) (h23 : N 23 2 = M 15 9) (h25 : ∀ i, 0 ≤ i → i < 240 → N 25 i = 0) (s : Int) (hs : 0 ≤ s ∧ s ≤ M 15 9) (hI : ∀ s2 c2, 0 ≤ s2 → 0 ≤ c2 → c2 < 8 → s2 < s → LwS it ch kept (M 15 9) (N 24) s2 c2) (hO : ∀ i, 8 * s ≤ i → i < 240 → N 24 i = -1) : K 57 [(0, .inr 15), (1, .inr 23), (2, .inl s)] [] N := by
  have hmany := hL.2.2.2.2.1
  have e15 : N 15 = M 15 := hF.1 15 (by decide) (by decide) (by decide) (by decide)
  have e17 : N 17 = M 17 := hF.1 17 (by decide) (by decide) (by decide) (by decide)
  have e16 : N 16 = M 16 := hF.1 16 (by decide) (by decide) (by decide) (by decide)
  have e10 : N 10 = M 10 := hF.1 10 (by decide) (by decide) (by decide) (by decide)
  refine k_iload_n C dX6_writeInto_57 rfl rfl ?_
  refine k_aload_n C dX6_writeInto_58 rfl rfl ?_
  refine k_getJ C 9 9 rfl okC6 rfl (by decide) (by decide) rfl flX6_52 dX6_writeInto_59 (fun ld59 => ?_)
  rw [e15]
  refine k_icmp_ge C (tgt := 137) dX6_writeInto_62 rfl (by omega) (by omega) (fun c62 => ?_) (fun c62 => ?_)
  · exact k_vret C dX6_writeInto_137 (fun _ => by
      first
      | (exfalso; omega)
      | exact ⟨hF, h23, fun s2 c2 a b d e => hI s2 c2 a d e (by omega), fun i a b => hO i (by omega) b, h25⟩)
  · refine k_iload_n C dX6_writeInto_65 rfl rfl ?_
    refine k_bipush C dX6_writeInto_66 (by decide) ?_
    refine k_icmp_ge C (tgt := 137) dX6_writeInto_68 rfl (by omega) (by omega) (fun c68 => ?_) (fun c68 => ?_)
    · exact k_vret C dX6_writeInto_137 (fun _ => by
      first
      | (exfalso; omega)
      | exact ⟨hF, h23, fun s2 c2 a b d e => hI s2 c2 a d e (by omega), fun i a b => hO i (by omega) b, h25⟩)
    · refine k_iconst C dX6_writeInto_71 ?_
      refine k_istore_n C dX6_writeInto_72 rfl (by decide) ?_
      refine k_cut2 C (lv' := [(0, _), (1, _), (2, _), (3, _)]) ⟨rfl, rfl, rfl, rfl, trivial⟩ ?_
      exact l_wi3 M m hm c0 it ch kept hL hG hkp C N hF h18 h23 h25 s 0 (by omega) (by omega) (fun s2 c2 a b d e => hI s2 c2 a b d (by omega)) (fun i a b => hO i (by omega) b) (fun N2 z1 z2 z3 z4 z5 z6 => l_wi2 M m hm c0 it ch kept hL hG hkp C N2 z1 z2 z3 z4 (s + 1) (by omega) z5 z6)
termination_by (M 15 9 - s).toNat
decreasing_by all_goals omega
set_option maxHeartbeats 4000000 in
set_option maxRecDepth 100000 in
theorem l_wi1 {K : Kt} (M : Mem) (m : Int) (hm : m ≤ 721) (c0 it ch kept : Int → Int) (hL : LI m c0 it ch kept (M 15 9) m) (hG : CG m M it ch) (hkp : ∀ i, 0 ≤ i → i < M 15 9 → M 17 i = kept i) (C : Ctx shC nC RX6 cX6_writeInto 5 none (lvl 2) (fun _ M' => WiP M M' it ch kept (M 15 9)) K) (N : Mem) (hF : WF M N) (s : Int) (hs : 0 ≤ s ∧ s ≤ M 15 9) (h18 : ∀ i, 0 ≤ i → i < s → N 18 (kept i) = i) (h24 : N 24 = M 24 ∧ N 25 = M 25 ∧ N 23 = M 23) : K 2 [(0, .inr 15), (1, .inr 23), (2, .inl s)] [] N := by
  have hmany := hL.2.2.2.2.1
  have e15 : N 15 = M 15 := hF.1 15 (by decide) (by decide) (by decide) (by decide)
  have e17 : N 17 = M 17 := hF.1 17 (by decide) (by decide) (by decide) (by decide)
  have e16 : N 16 = M 16 := hF.1 16 (by decide) (by decide) (by decide) (by decide)
  have e10 : N 10 = M 10 := hF.1 10 (by decide) (by decide) (by decide) (by decide)
  have ks := hL.2.2.2.2.2.1 s hs.1
  refine k_iload_n C dX6_writeInto_2 rfl rfl ?_
  refine k_aload_n C dX6_writeInto_3 rfl rfl ?_
  refine k_getJ C 9 9 rfl okC6 rfl (by decide) (by decide) rfl flX6_52 dX6_writeInto_4 (fun ld4 => ?_)
  rw [e15]
  refine k_icmp_ge C (tgt := 47) dX6_writeInto_7 rfl (by omega) (by omega) (fun c7 => ?_) (fun c7 => ?_)
  · refine k_aload_n C dX6_writeInto_47 rfl rfl ?_
    refine k_aload_n C dX6_writeInto_48 rfl rfl ?_
    refine k_getJ C 9 9 rfl okC6 rfl (by decide) (by decide) rfl flX6_52 dX6_writeInto_49 (fun ld49 => ?_)
    rw [e15]
    refine k_callV C okX6_59 dX6_writeInto_52 (c_Law_clear N (M 15 9) (by omega)) rfl rfl (by decide) rfl (by decide) rfl (Nat.le_of_ble_eq_true rfl) (fun r52 M52 hr52 hp52 => ?_)
    subst hp52
    refine k_iconst C dX6_writeInto_55 ?_
    refine k_istore_n C dX6_writeInto_56 rfl (by decide) ?_
    refine k_cut2 C (lv' := [(0, _), (1, _), (2, _)]) ⟨rfl, rfl, rfl, trivial⟩ ?_
    first
    | (exfalso; omega)
    | (have es : s = M 15 9 := by omega
       refine l_wi2 M m hm c0 it ch kept hL hG hkp C _ ⟨fun j a b d e => by rw [up_ne b, fillM_ne e, fillM_ne d]; exact hF.1 j a b d e, fun i hi => by rw [up_at, if_neg hi, fillM_ne (by decide), fillM_ne (by decide)]; exact hF.2 i hi⟩ (by rw [up_ne (by decide), fillM_ne (by decide), fillM_ne (by decide)]; intro i a b; exact h18 i a (by omega)) up_same (fun i a b => by rw [up_ne (by decide)]; exact fillM_in ⟨a, b⟩) 0 (by omega) (fun s2 c2 a b d e => by omega) (fun i a b => by rw [up_ne (by decide), fillM_ne (by decide)]; exact fillM_in ⟨by omega, b⟩))
  · refine k_iload_n C dX6_writeInto_10 rfl rfl ?_
    refine k_bipush C dX6_writeInto_11 (by decide) ?_
    refine k_icmp_ge C (tgt := 47) dX6_writeInto_13 rfl (by omega) (by omega) (fun c13 => ?_) (fun c13 => ?_)
    · refine k_aload_n C dX6_writeInto_47 rfl rfl ?_
      refine k_aload_n C dX6_writeInto_48 rfl rfl ?_
      refine k_getJ C 9 9 rfl okC6 rfl (by decide) (by decide) rfl flX6_52 dX6_writeInto_49 (fun ld49 => ?_)
      rw [e15]
      refine k_callV C okX6_59 dX6_writeInto_52 (c_Law_clear N (M 15 9) (by omega)) rfl rfl (by decide) rfl (by decide) rfl (Nat.le_of_ble_eq_true rfl) (fun r52 M52 hr52 hp52 => ?_)
      subst hp52
      refine k_iconst C dX6_writeInto_55 ?_
      refine k_istore_n C dX6_writeInto_56 rfl (by decide) ?_
      refine k_cut2 C (lv' := [(0, _), (1, _), (2, _)]) ⟨rfl, rfl, rfl, trivial⟩ ?_
      first
      | (exfalso; omega)
      | (have es : s = M 15 9 := by omega
         refine l_wi2 M m hm c0 it ch kept hL hG hkp C _ ⟨fun j a b d e => by rw [up_ne b, fillM_ne e, fillM_ne d]; exact hF.1 j a b d e, fun i hi => by rw [up_at, if_neg hi, fillM_ne (by decide), fillM_ne (by decide)]; exact hF.2 i hi⟩ (by rw [up_ne (by decide), fillM_ne (by decide), fillM_ne (by decide)]; intro i a b; exact h18 i a (by omega)) up_same (fun i a b => by rw [up_ne (by decide)]; exact fillM_in ⟨a, b⟩) 0 (by omega) (fun s2 c2 a b d e => by omega) (fun i a b => by rw [up_ne (by decide), fillM_ne (by decide)]; exact fillM_in ⟨by omega, b⟩))
    · have ks := ks c7
      refine k_aload_n C dX6_writeInto_16 rfl rfl ?_
      refine k_getR C (j := 3) okC6 rfl (by decide) (by decide) rfl flX6_15 dX6_writeInto_17 ?_
      refine k_iload_n C dX6_writeInto_20 rfl rfl ?_
      refine k_iaload C rfl (by decide) (by decide) ⟨by omega, by omega⟩ dX6_writeInto_21 (fun ld21 => ?_)
      rw [e17, hkp s hs.1 c7] at ld21 ⊢
      refine k_istore_n C dX6_writeInto_22 rfl (by decide) ?_
      refine k_iload_n C dX6_writeInto_23 rfl rfl ?_
      refine k_if_lt C (tgt := 41) dX6_writeInto_24 rfl (by omega) (fun c24 => ?_) (fun c24 => ?_)
      · refine k_iinc C dX6_writeInto_41 (by decide) rfl ?_
        refine k_goto C (tgt := 2) dX6_writeInto_44 rfl ?_
        refine k_cut2 C (lv' := [(0, _), (1, _), (2, _)]) ⟨rfl, rfl, rfl, trivial⟩ ?_
        first
        | (exfalso; omega)
        | (refine l_wi1 M m hm c0 it ch kept hL hG hkp C _ ⟨fun j a b d e => by rw [up_ne a]; exact hF.1 j a b d e, fun i hi => by rw [up_ne (by decide)]; exact hF.2 i hi⟩ (s + 1) (by omega) (fun i a b => ?_) (by rw [up_ne (by decide), up_ne (by decide), up_ne (by decide)]; exact h24)
           rw [up_at]
           by_cases z : i = s
           · rw [z, if_pos rfl]
           · rw [if_neg (fun q => z (kp_one hL ⟨a, by omega⟩ ⟨hs.1, c7⟩ q))]; exact h18 i a (by omega))
      · refine k_iload_n C dX6_writeInto_27 rfl rfl ?_
        refine k_sipush C dX6_writeInto_28 (by decide) ?_
        refine k_icmp_ge C (tgt := 41) dX6_writeInto_31 rfl (by omega) (by omega) (fun c31 => ?_) (fun c31 => ?_)
        · refine k_iinc C dX6_writeInto_41 (by decide) rfl ?_
          refine k_goto C (tgt := 2) dX6_writeInto_44 rfl ?_
          refine k_cut2 C (lv' := [(0, _), (1, _), (2, _)]) ⟨rfl, rfl, rfl, trivial⟩ ?_
          first
          | (exfalso; omega)
          | (refine l_wi1 M m hm c0 it ch kept hL hG hkp C _ ⟨fun j a b d e => by rw [up_ne a]; exact hF.1 j a b d e, fun i hi => by rw [up_ne (by decide)]; exact hF.2 i hi⟩ (s + 1) (by omega) (fun i a b => ?_) (by rw [up_ne (by decide), up_ne (by decide), up_ne (by decide)]; exact h24)
             rw [up_at]
             by_cases z : i = s
             · rw [z, if_pos rfl]
             · rw [if_neg (fun q => z (kp_one hL ⟨a, by omega⟩ ⟨hs.1, c7⟩ q))]; exact h18 i a (by omega))
        · refine k_aload_n C dX6_writeInto_34 rfl rfl ?_
          refine k_getR C (j := 4) okC6 rfl (by decide) (by decide) rfl flX6_18 dX6_writeInto_35 ?_
          refine k_iload_n C dX6_writeInto_38 rfl rfl ?_
          refine k_iload_n C dX6_writeInto_39 rfl rfl ?_
          refine k_iastore C rfl (by decide) (by decide) ⟨by omega, by omega⟩ (by omega) dX6_writeInto_40 ?_
          refine k_iinc C dX6_writeInto_41 (by decide) rfl ?_
          refine k_goto C (tgt := 2) dX6_writeInto_44 rfl ?_
          refine k_cut2 C (lv' := [(0, _), (1, _), (2, _)]) ⟨rfl, rfl, rfl, trivial⟩ ?_
          first
          | (exfalso; omega)
          | (refine l_wi1 M m hm c0 it ch kept hL hG hkp C _ ⟨fun j a b d e => by rw [up_ne a]; exact hF.1 j a b d e, fun i hi => by rw [up_ne (by decide)]; exact hF.2 i hi⟩ (s + 1) (by omega) (fun i a b => ?_) (by rw [up_ne (by decide), up_ne (by decide), up_ne (by decide)]; exact h24)
             rw [up_at]
             by_cases z : i = s
             · rw [z, if_pos rfl]
             · rw [if_neg (fun q => z (kp_one hL ⟨a, by omega⟩ ⟨hs.1, c7⟩ q))]; exact h18 i a (by omega))
termination_by (M 15 9 - s).toNat
decreasing_by all_goals omega
set_option maxHeartbeats 4000000 in
set_option maxRecDepth 100000 in
theorem c_writeInto (M : Mem) (m : Int) (hm : m ≤ 721) (c0 it ch kept : Int → Int) (hL : LI m c0 it ch kept (M 15 9) m) (hG : CG m M it ch) (hkp : ∀ i, 0 ≤ i → i < M 15 9 → M 17 i = kept i) : Ct shC nC yX6_writeInto cX6_writeInto 5 none (lvl 2) [.inr 15, .inr 23] M (fun _ M' => WiP M M' it ch kept (M 15 9)) := by
  refine Ct_of (by decide +kernel) (Nat.le_of_ble_eq_true rfl) (fun K C => ?_)
  have hmany := hL.2.2.2.2.1
  refine k_iconst C dX6_writeInto_0 ?_
  refine k_istore_n C dX6_writeInto_1 rfl (by decide) ?_
  refine k_cut2 C (lv' := [(0, _), (1, _), (2, _)]) ⟨rfl, rfl, rfl, trivial⟩ ?_
  exact l_wi1 M m hm c0 it ch kept hL hG hkp C M ⟨fun _ _ _ _ _ => rfl, fun _ _ => rfl⟩ 0 (by omega) (fun i a b => by omega) ⟨rfl, rfl, rfl⟩
set_option maxHeartbeats 4000000 in
set_option maxRecDepth 100000 in
theorem l_countRow {K : Kt} (M : Mem) (row size b : Int) (hr : 0 ≤ row ∧ row < 60) (hz : 0 ≤ size ∧ size ≤ 12) (hL : M 23 2 ≤ 30) (hca : ∀ i, 0 ≤ i → i < size → 0 ≤ M 4 (12 * row + i) ∧ M 4 (12 * row + i) < 8) (hst : ∀ l : Nat, (l : Int) ≤ size → 0 ≤ (crw (M 24) (M 25) (M 4) row l).2 ∧ (crw (M 24) (M 25) (M 4) row l).2 < M 23 2) (htm : ∀ i, 0 ≤ i → i < 240 → 0 ≤ M 25 i ∧ M 25 i ≤ b) (hb : b ≤ 1000) (C : Ctx shC nC RX4 cX4_countRow 8 none (lvl 2) (fun _ M' => (∀ j, j ≠ 25 → M' j = M j) ∧ M' 25 = (crw (M 24) (M 25) (M 4) row size.toNat).1) K) (N : Mem) (hF : ∀ j, j ≠ 25 → N j = M j) (i s : Int) (hi : 0 ≤ i ∧ i ≤ size) (hs : s = (crw (M 24) (M 25) (M 4) row i.toNat).2) (h25 : N 25 = (crw (M 24) (M 25) (M 4) row i.toNat).1) : K 6 [(0, .inr 23), (1, .inr 3), (2, .inl row), (3, .inl size), (4, .inl s), (5, .inl i)] [] N := by
  have e4 := hF 4 (by decide)
  have e24 := hF 24 (by decide)
  have e23 := hF 23 (by decide)
  have s1 := hst i.toNat (by omega)
  rw [← hs] at s1
  refine k_iload C dX4_countRow_6 rfl ?_
  refine k_iload_n C dX4_countRow_8 rfl rfl ?_
  refine k_icmp_ge C (tgt := 72) dX4_countRow_9 rfl (by omega) (by omega) (fun c9 => ?_) (fun c9 => ?_)
  · exact k_vret C dX4_countRow_72 (fun _ => by
      first
      | (exfalso; omega)
      | exact ⟨hF, by rw [h25, show i = size by omega]⟩)
  · refine k_iload C dX4_countRow_12 rfl ?_
    refine k_bipush C dX4_countRow_14 (by decide) ?_
    refine k_icmp_ge C (tgt := 72) dX4_countRow_16 rfl (by omega) (by omega) (fun c16 => ?_) (fun c16 => ?_)
    · exact k_vret C dX4_countRow_72 (fun _ => by
      first
      | (exfalso; omega)
      | exact ⟨hF, by rw [h25, show i = size by omega]⟩)
    · have q := hca i hi.1 c9
      have s2 := hst (i + 1).toNat (by omega)
      have nx : (crw (M 24) (M 25) (M 4) row (i + 1).toNat).2 = M 24 (8 * s + M 4 (12 * row + i)) := by rw [show (i + 1).toNat = i.toNat + 1 by omega, crw, ← hs, show ((i.toNat : Nat) : Int) = i by omega]
      rw [nx] at s2
      have tr := crw_rg (nx := M 24) (ca := M 4) (r := row) htm i.toNat (8 * s + M 4 (12 * row + i)) (by omega) (by omega)
      rw [← h25] at tr
      have n25 : (crw (M 24) (M 25) (M 4) row (i + 1).toNat).1 = updI (N 25) (8 * s + M 4 (12 * row + i)) (N 25 (8 * s + M 4 (12 * row + i)) + 1) := by rw [show (i + 1).toNat = i.toNat + 1 by omega, crw, ← hs, ← h25, show ((i.toNat : Nat) : Int) = i by omega]
      refine k_aload_n C dX4_countRow_19 rfl rfl ?_
      refine k_iload_n C dX4_countRow_20 rfl rfl ?_
      refine k_iload C dX4_countRow_21 rfl ?_
      refine k_callV C okX4_49 dX4_countRow_23 (c_Book_callAt N row i hr (by omega)) rfl rfl (by decide) rfl (by decide) rfl (Nat.le_of_ble_eq_true rfl) (fun r23 M23 hr23 hp23 => ?_)
      obtain ⟨rfl, hp23⟩ := hp23
      rw [e4] at hp23
      subst hp23
      refine k_istore C dX4_countRow_26 (by decide) ?_
      refine k_aload_n C dX4_countRow_28 rfl rfl ?_
      refine k_iload C dX4_countRow_29 rfl ?_
      refine k_iload C dX4_countRow_31 rfl ?_
      refine k_callV C okX4_53 dX4_countRow_33 (c_Law_after N s (M 4 (12 * row + i)) (by omega) (by omega)) rfl rfl (by decide) rfl (by decide) rfl (Nat.le_of_ble_eq_true rfl) (fun r33 M33 hr33 hp33 => ?_)
      obtain ⟨rfl, hp33⟩ := hp33
      rw [e23, e24] at hp33
      have e33 : r33 = M 24 (8 * s + M 4 (12 * row + i)) := by omega
      subst e33
      refine k_istore C dX4_countRow_36 (by decide) ?_
      refine k_iload C dX4_countRow_38 rfl ?_
      refine k_iconst C dX4_countRow_40 ?_
      refine k_icmp_ne C (tgt := 45) dX4_countRow_41 rfl (by omega) (by omega) (fun c41 => ?_) (fun c41 => ?_)
      · refine k_aload_n C dX4_countRow_45 rfl rfl ?_
        refine k_getR C (j := 1) okC4 rfl (by decide) (by decide) rfl flX4_15 dX4_countRow_46 ?_
        refine k_iload C dX4_countRow_49 rfl ?_
        refine k_bipush C dX4_countRow_51 (by decide) ?_
        refine k_imul C dX4_countRow_53 ?_
        refine k_iload C dX4_countRow_54 rfl ?_
        refine k_iadd C dX4_countRow_56 ?_
        rw [show s * 8 + M 4 (12 * row + i) = 8 * s + M 4 (12 * row + i) by omega]
        refine k_dup2 C dX4_countRow_57 ?_
        refine k_iaload C rfl (by decide) (by decide) ⟨by omega, by omega⟩ dX4_countRow_58 (fun ld58 => ?_)
        refine k_iconst C dX4_countRow_59 ?_
        refine k_iadd C dX4_countRow_60 ?_
        refine k_iastore C rfl (by decide) (by decide) ⟨by omega, by omega⟩ (by omega) dX4_countRow_61 ?_
        refine k_iload C dX4_countRow_62 rfl ?_
        refine k_istore C dX4_countRow_64 (by decide) ?_
        refine k_iinc C dX4_countRow_66 (by decide) rfl ?_
        refine k_goto C (tgt := 6) dX4_countRow_69 rfl ?_
        refine k_cut2 C (lv' := [(0, _), (1, _), (2, _), (3, _), (4, _), (5, _)]) ⟨rfl, rfl, rfl, rfl, rfl, rfl, trivial⟩ ?_
        exact l_countRow M row size b hr hz hL hca hst htm hb C _ (fun j a => by rw [up_ne a]; exact hF j a) (i + 1) _ (by omega) nx.symm (by rw [n25]; funext j; rw [up_at]; rfl)
      · exact k_vret C dX4_countRow_44 (fun _ => by exfalso; omega)
termination_by (size - i).toNat
decreasing_by all_goals omega
set_option maxHeartbeats 4000000 in
set_option maxRecDepth 100000 in
theorem c_countRow (M : Mem) (row size b : Int) (hr : 0 ≤ row ∧ row < 60) (hz : 0 ≤ size ∧ size ≤ 12) (hL : M 23 2 ≤ 30) (hca : ∀ i, 0 ≤ i → i < size → 0 ≤ M 4 (12 * row + i) ∧ M 4 (12 * row + i) < 8) (hst : ∀ l : Nat, (l : Int) ≤ size → 0 ≤ (crw (M 24) (M 25) (M 4) row l).2 ∧ (crw (M 24) (M 25) (M 4) row l).2 < M 23 2) (htm : ∀ i, 0 ≤ i → i < 240 → 0 ≤ M 25 i ∧ M 25 i ≤ b) (hb : b ≤ 1000) : Ct shC nC yX4_countRow cX4_countRow 8 none (lvl 2) [.inr 23, .inr 3, .inl row, .inl size] M (fun _ M' => (∀ j, j ≠ 25 → M' j = M j) ∧ M' 25 = (crw (M 24) (M 25) (M 4) row size.toNat).1) := by
  refine Ct_of (by decide +kernel) (Nat.le_of_ble_eq_true rfl) (fun K C => ?_)
  refine k_iconst C dX4_countRow_0 ?_
  refine k_istore C dX4_countRow_1 (by decide) ?_
  refine k_iconst C dX4_countRow_3 ?_
  refine k_istore C dX4_countRow_4 (by decide) ?_
  refine k_cut2 C (lv' := [(0, _), (1, _), (2, _), (3, _), (4, _), (5, _)]) ⟨rfl, rfl, rfl, rfl, rfl, rfl, trivial⟩ ?_
  exact l_countRow M row size b hr hz hL hca hst htm hb C M (fun _ _ => rfl) 0 0 (by omega) rfl rfl
set_option maxHeartbeats 4000000 in
set_option maxRecDepth 100000 in
theorem l_countOver {K : Kt} (M : Mem) (hB : BkC M) (hL : M 23 2 ≤ 30) (hcu : ∀ r, 0 ≤ r → r < M 3 6 → (0 ≤ M 13 r ∧ M 13 r ≤ 12) ∧ (∀ i, 0 ≤ i → i < M 13 r → 0 ≤ M 4 (12 * r + i) ∧ M 4 (12 * r + i) < 8) ∧ ∀ (tm : Int → Int) (l : Nat), (l : Int) ≤ M 13 r → 0 ≤ (crw (M 24) tm (M 4) r l).2 ∧ (crw (M 24) tm (M 4) r l).2 < M 23 2) (h0 : ∀ i, 0 ≤ i → i < 240 → M 25 i = 0) (C : Ctx shC nC RX4 cX4_countOver 4 none (lvl 3) (fun _ M' => (∀ j, j ≠ 25 → M' j = M j) ∧ M' 25 = cfo (M 24) (M 4) (M 13) (M 25) (M 3 6).toNat) K) (N : Mem) (hF : ∀ j, j ≠ 25 → N j = M j) (r : Int) (hr : 0 ≤ r ∧ r ≤ M 3 6) (h25 : N 25 = cfo (M 24) (M 4) (M 13) (M 25) r.toNat) (hb : ∀ i, 0 ≤ i → i < 240 → 0 ≤ N 25 i ∧ N 25 i ≤ 12 * r) : K 2 [(0, .inr 23), (1, .inr 3), (2, .inr 9), (3, .inl r)] [] N := by
  have b1 := hB.1; have b2 := hB.2.1
  have e3 := hF 3 (by decide)
  have e4 := hF 4 (by decide)
  have e13 := hF 13 (by decide)
  have e24 := hF 24 (by decide)
  have e23 := hF 23 (by decide)
  refine k_iload_n C dX4_countOver_2 rfl rfl ?_
  refine k_aload_n C dX4_countOver_3 rfl rfl ?_
  refine k_getJ C 6 6 rfl okC0 rfl (by decide) (by decide) rfl flX4_35 dX4_countOver_4 (fun ld4 => ?_)
  rw [e3]
  refine k_icmp_ge C (tgt := 34) dX4_countOver_7 rfl (by omega) (by omega) (fun c7 => ?_) (fun c7 => ?_)
  · exact k_vret C dX4_countOver_34 (fun _ => by
      first
      | (exfalso; omega)
      | exact ⟨hF, by rw [h25, show r = M 3 6 by omega]⟩)
  · refine k_iload_n C dX4_countOver_10 rfl rfl ?_
    refine k_bipush C dX4_countOver_11 (by decide) ?_
    refine k_icmp_ge C (tgt := 34) dX4_countOver_13 rfl (by omega) (by omega) (fun c13 => ?_) (fun c13 => ?_)
    · exact k_vret C dX4_countOver_34 (fun _ => by
      first
      | (exfalso; omega)
      | exact ⟨hF, by rw [h25, show r = M 3 6 by omega]⟩)
    · obtain ⟨q1, q2, q3⟩ := hcu r hr.1 c7
      refine k_aload_n C dX4_countOver_16 rfl rfl ?_
      refine k_aload_n C dX4_countOver_17 rfl rfl ?_
      refine k_iload_n C dX4_countOver_18 rfl rfl ?_
      refine k_aload_n C dX4_countOver_19 rfl rfl ?_
      refine k_getR C (j := 4) okC9 rfl (by decide) (by decide) rfl flX4_40 dX4_countOver_20 ?_
      refine k_iload_n C dX4_countOver_23 rfl rfl ?_
      refine k_iaload C rfl (by decide) (by decide) ⟨by omega, by omega⟩ dX4_countOver_24 (fun ld24 => ?_)
      rw [e13] at ld24 ⊢
      refine k_callV C okX4_45 dX4_countOver_25 (c_countRow N r (M 13 r) (12 * r) (by omega) q1 (by rw [e23]; exact hL) (by rw [e4]; exact q2) (by rw [e23, e24, e4]; intro l hl; exact q3 (N 25) l hl) hb (by omega)) rfl rfl (by decide) rfl (by decide) rfl (Nat.le_of_ble_eq_true rfl) (fun r25 M25 hr25 hp25 => ?_)
      rw [e24, e4] at hp25
      have nb := crw_rg (nx := M 24) (ca := M 4) (r := r) hb (M 13 r).toNat
      refine k_iinc C dX4_countOver_28 (by decide) rfl ?_
      refine k_goto C (tgt := 2) dX4_countOver_31 rfl ?_
      refine k_cut2 C (lv' := [(0, _), (1, _), (2, _), (3, _)]) ⟨rfl, rfl, rfl, rfl, trivial⟩ ?_
      refine l_countOver M hB hL hcu h0 C M25 (fun j a => by rw [hp25.1 j a]; exact hF j a) (r + 1) (by omega) ?_ (fun i a b => ?_)
      · rw [hp25.2, h25, show (r + 1).toNat = r.toNat + 1 by omega, cfo, show ((r.toNat : Nat) : Int) = r by omega]
      · rw [hp25.2]; have := nb i a b; omega
termination_by (M 3 6 - r).toNat
decreasing_by all_goals omega
set_option maxHeartbeats 4000000 in
set_option maxRecDepth 100000 in
theorem c_countOver (M : Mem) (hB : BkC M) (hL : M 23 2 ≤ 30) (hcu : ∀ r, 0 ≤ r → r < M 3 6 → (0 ≤ M 13 r ∧ M 13 r ≤ 12) ∧ (∀ i, 0 ≤ i → i < M 13 r → 0 ≤ M 4 (12 * r + i) ∧ M 4 (12 * r + i) < 8) ∧ ∀ (tm : Int → Int) (l : Nat), (l : Int) ≤ M 13 r → 0 ≤ (crw (M 24) tm (M 4) r l).2 ∧ (crw (M 24) tm (M 4) r l).2 < M 23 2) (h0 : ∀ i, 0 ≤ i → i < 240 → M 25 i = 0) : Ct shC nC yX4_countOver cX4_countOver 4 none (lvl 3) [.inr 23, .inr 3, .inr 9] M (fun _ M' => (∀ j, j ≠ 25 → M' j = M j) ∧ M' 25 = cfo (M 24) (M 4) (M 13) (M 25) (M 3 6).toNat) := by
  refine Ct_of (by decide +kernel) (Nat.le_of_ble_eq_true rfl) (fun K C => ?_)
  have b1 := hB.1
  refine k_iconst C dX4_countOver_0 ?_
  refine k_istore_n C dX4_countOver_1 rfl (by decide) ?_
  refine k_cut2 C (lv' := [(0, _), (1, _), (2, _), (3, _)]) ⟨rfl, rfl, rfl, rfl, trivial⟩ ?_
  exact l_countOver M hB hL hcu h0 C M (fun _ _ => rfl) 0 (by omega) rfl (fun i a b => by rw [h0 i a b]; omega)
/-- the law that is learnt of a book, in cells (states, next, times) -/
def LnP (n : Int) (sz ri th ca cu : Int → Int) (m : Int) (ch : Int → Int) (r st0 st : Int) (nx0 tm0 nx tm : Int → Int) : Prop :=
  (lrn (TW n sz ri th ca) (m - 1).toNat 1 (fun x => x) (clp m ch) (fun _ => 0) 1 = none ∧ r = -1 ∧ st = st0 ∧ nx = nx0 ∧ tm = tm0) ∨
  ∃ R, lrn (TW n sz ri th ca) (m - 1).toNat 1 (fun x => x) (clp m ch) (fun _ => 0) 1 = some R ∧ r = R.2.2 ∧ st = R.2.2 ∧ LwP R.1.1 R.1.2 R.2.1 R.2.2 nx ∧ ∀ i, 0 ≤ i → i < 8 * R.2.2 → tm i = cfo nx ca cu (fun _ => 0) n.toNat i
def LnF (M N : Mem) : Prop := (∀ j, j ≠ 3 → j < 8 ∨ 25 < j → N j = M j) ∧ ∀ i, i ≠ 5 → N 3 i = M 3 i
def LnC (M N : Mem) (r : Int) : Prop := LnF M N ∧ ∃ m ch pr lc, TrOk 60 (cutC M) (M 4) m ch pr lc ∧ m ≤ 721 ∧ LnP (M 3 6) (M 5) (M 6) (M 7) (M 4) (cutC M) m ch r (M 23 2) (N 23 2) (M 24) (M 25) (N 24) (N 25) ∧ (r = -1 ∨ ((1 ≤ r ∧ r ≤ 30) ∧ ∀ i, 8 * r ≤ i → i < 240 → N 24 i = -1))
theorem cutC_ok {M : Mem} (hB : BkC M) : CuOk 60 (cutC M) (M 4) := by
  intro r a b l hl
  have q := cutR_rg hB r
  have q2 := q.2.2 (by show 0 < cutC M r; omega)
  exact (hB.2.2 r q2.1.1 q2.1.2).2.2.2.2.2 l (by omega) (by have : cutC M r ≤ M 5 r := q2.2; omega)
set_option maxHeartbeats 4000000 in
set_option maxRecDepth 100000 in
theorem c_learn (M : Mem) (hB : BkC M) : Ct shC nC yX10_learn cX10_learn 1 (some .int) (lvl 6) [.inr 0] M (fun r M' => LnC M M' r) := by
  refine Ct_of (by decide +kernel) (Nat.le_of_ble_eq_true rfl) (fun K C => ?_)
  refine k_aload_n C dX10_learn_0 rfl rfl ?_
  refine k_getR C (j := 2) okC10 rfl (by decide) (by decide) rfl flX10_30 dX10_learn_1 ?_
  refine k_callV C okX10_144 dX10_learn_4 (c_Tree_grow M hB) rfl rfl (by decide) rfl (by decide) rfl (Nat.le_of_ble_eq_true rfl) (fun r4 M4 hr4 hp4 => ?_)
  have g0 := hp4.1
  have hT := hp4.2.2.1
  have hCu := cutC_ok hB
  have hT2 := TrOk_cg hCu hT (fun i a b => clp_at (f := M4 10) a b)
  have hLI := LI_0 hT2 hp4.2.2.2 (kept := fun _ => 0) rfl (it := fun x => x) (fun x _ _ => rfl) (fun i _ _ => rfl)
  have t4 : TWc M4 = TWc M := by unfold TWc; rw [g0.1 3 (by decide) (by decide) (by decide) (by decide) (by decide) (by decide), g0.1 4 (by decide) (by decide) (by decide) (by decide) (by decide) (by decide), g0.1 5 (by decide) (by decide) (by decide) (by decide) (by decide) (by decide), g0.1 6 (by decide) (by decide) (by decide) (by decide) (by decide) (by decide), g0.1 7 (by decide) (by decide) (by decide) (by decide) (by decide) (by decide)]
  refine k_aload_n C dX10_learn_7 rfl rfl ?_
  refine k_getR C (j := 3) okC10 rfl (by decide) (by decide) rfl flX10_39 dX10_learn_8 ?_
  refine k_callV C okX10_147 dX10_learn_11 (c_meltAll M4 (M4 9 6) ⟨rfl, hT.1, hp4.2.2.2⟩ (clp (M4 9 6) (M4 10)) (fun i a b => (clp_at a b).symm) hLI (g0.bk hB)) rfl rfl (by decide) rfl (by decide) rfl (Nat.le_of_ble_eq_true rfl) (fun r11 M11 hr11 hp11 => ?_)
  obtain ⟨A11, hp11⟩ := hp11
  have F11 : LnF M M11 := ⟨fun j a b => by rw [A11.1 j a (by omega) (by omega) (by omega) (by omega) (by omega) (by omega) (by omega) (by omega) (by omega) (by omega)]; exact g0.1 j (by omega) (by omega) (by omega) (by omega) (by omega) (by omega), fun i hi => by rw [A11.2.1 i hi, g0.1 3 (by decide) (by decide) (by decide) (by decide) (by decide) (by decide)]⟩
  have law11 : M11 23 = M 23 ∧ M11 24 = M 24 ∧ M11 25 = M 25 := by
    refine ⟨?_, ?_, ?_⟩
    · rw [A11.1 23 (by decide) (by decide) (by decide) (by decide) (by decide) (by decide) (by decide) (by decide) (by decide) (by decide) (by decide)]; exact g0.1 23 (by decide) (by decide) (by decide) (by decide) (by decide) (by decide)
    · rw [A11.1 24 (by decide) (by decide) (by decide) (by decide) (by decide) (by decide) (by decide) (by decide) (by decide) (by decide) (by decide)]; exact g0.1 24 (by decide) (by decide) (by decide) (by decide) (by decide) (by decide)
    · rw [A11.1 25 (by decide) (by decide) (by decide) (by decide) (by decide) (by decide) (by decide) (by decide) (by decide) (by decide) (by decide)]; exact g0.1 25 (by decide) (by decide) (by decide) (by decide) (by decide) (by decide)
  rw [t4] at hp11
  refine k_if_ne C (tgt := 19) dX10_learn_14 rfl (by omega) (fun c14 => ?_) (fun c14 => ?_)
  · have hq : ∃ R, lrn (TWc M) (M4 9 6 - 1).toNat 1 (fun x => x) (clp (M4 9 6) (M4 10)) (fun _ => 0) 1 = some R ∧ CG (M4 9 6) M11 R.1.1 R.1.2 ∧ M11 15 9 = R.2.2 ∧ (∀ i, 0 ≤ i → i < R.2.2 → M11 17 i = R.2.1 i) ∧ (∀ x, 0 ≤ x → x < M4 9 6 → M11 18 x = -1) := by rcases hp11 with z | z; exact z.2; omega
    obtain ⟨R, z2, z3, z4, z5, z6⟩ := hq
    have hLR := lrn_ok (M4 9 6 - 1).toNat 1 _ _ _ _ (by omega) (by have := hT.1; omega) hLI z2
    refine k_aload_n C dX10_learn_19 rfl rfl ?_
    refine k_getR C (j := 3) okC10 rfl (by decide) (by decide) rfl flX10_39 dX10_learn_20 ?_
    refine k_aload_n C dX10_learn_23 rfl rfl ?_
    refine k_getR C (j := 4) okC10 rfl (by decide) (by decide) rfl flX10_46 dX10_learn_24 ?_
    refine k_callV C okX10_151 dX10_learn_27 (c_writeInto M11 (M4 9 6) hp4.2.2.2 (clp (M4 9 6) (M4 10)) R.1.1 R.1.2 R.2.1 (by rw [z4]; exact hLR) z3 (by rw [z4]; exact z5)) rfl rfl (by decide) rfl (by decide) rfl (Nat.le_of_ble_eq_true rfl) (fun r27 M27 hr27 hp27 => ?_)
    obtain ⟨w1, w2, w3, w4, w5⟩ := hp27
    have n4 : M27 4 = M 4 := by rw [w1.1 4 (by decide) (by decide) (by decide) (by decide)]; exact F11.1 4 (by decide) (by decide)
    have n3 : M27 3 = M11 3 := w1.1 3 (by decide) (by decide) (by decide) (by decide)
    have n36 : M27 3 6 = M 3 6 := by rw [n3]; exact F11.2 6 (by decide)
    have n13 : M27 13 = M4 13 := by rw [w1.1 13 (by decide) (by decide) (by decide) (by decide)]; exact A11.1 13 (by decide) (by decide) (by decide) (by decide) (by decide) (by decide) (by decide) (by decide) (by decide) (by decide) (by decide)
    have hB27 : BkC M27 := by unfold BkC; rw [n36, n4, w1.1 5 (by decide) (by decide) (by decide) (by decide), w1.1 6 (by decide) (by decide) (by decide) (by decide), w1.1 7 (by decide) (by decide) (by decide) (by decide), F11.1 5 (by decide) (by decide), F11.1 6 (by decide) (by decide), F11.1 7 (by decide) (by decide)]; exact hB
    rw [z4] at w2 w3 w4
    have hcu : ∀ r, 0 ≤ r → r < M27 3 6 → (0 ≤ M27 13 r ∧ M27 13 r ≤ 12) ∧ (∀ i, 0 ≤ i → i < M27 13 r → 0 ≤ M27 4 (12 * r + i) ∧ M27 4 (12 * r + i) < 8) ∧ ∀ (tm : Int → Int) (l : Nat), (l : Int) ≤ M27 13 r → 0 ≤ (crw (M27 24) tm (M27 4) r l).2 ∧ (crw (M27 24) tm (M27 4) r l).2 < M27 23 2 := by
      intro r a b
      rw [n36] at b
      have b60 := hB.2.1
      rw [n13, n4, w2, hp4.2.1 r a (by omega)]
      have cr := cutR_rg hB r
      refine ⟨⟨cr.1, cr.2.1⟩, fun i p q => ?_, fun tm l hl => ?_⟩
      · have := hCu r a (by omega) i.toNat (by omega); rw [show ((i.toNat : Nat) : Int) = i by omega] at this; exact this
      · have := crw_st hCu hT2 hLR w3 ⟨a, by omega⟩ tm l (Or.inl hl); exact ⟨this.1, this.2.1⟩
    refine k_aload_n C dX10_learn_30 rfl rfl ?_
    refine k_getR C (j := 4) okC10 rfl (by decide) (by decide) rfl flX10_46 dX10_learn_31 ?_
    refine k_aload_n C dX10_learn_34 rfl rfl ?_
    refine k_getR C (j := 1) okC10 rfl (by decide) (by decide) rfl flX10_21 dX10_learn_35 ?_
    refine k_aload_n C dX10_learn_38 rfl rfl ?_
    refine k_getR C (j := 2) okC10 rfl (by decide) (by decide) rfl flX10_30 dX10_learn_39 ?_
    refine k_callV C okX10_155 dX10_learn_42 (c_countOver M27 hB27 (by rw [w2]; exact hLR.2.2.2.2.1.2) hcu w5) rfl rfl (by decide) rfl (by decide) rfl (Nat.le_of_ble_eq_true rfl) (fun r42 M42 hr42 hp42 => ?_)
    have f24 := hp42.1 24 (by decide)
    have f23 := hp42.1 23 (by decide)
    refine k_aload_n C dX10_learn_45 rfl rfl ?_
    refine k_getR C (j := 4) okC10 rfl (by decide) (by decide) rfl flX10_46 dX10_learn_46 ?_
    refine k_getJ C 2 2 rfl okC4 rfl (by decide) (by decide) rfl flX10_158 dX10_learn_49 (fun ld49 => ?_)
    rw [f23, w2] at ld49 ⊢
    exact k_iret C dX10_learn_52 (by omega) (fun _ => by
      refine ⟨⟨fun j a b => ?_, fun i hi => ?_⟩, M4 9 6, M4 10, M4 11, M4 12, hT, hp4.2.2.2, Or.inr ⟨R, z2, rfl, by rw [f23, w2], by rw [f24]; exact w3, fun i a b => ?_⟩, Or.inr ⟨hLR.2.2.2.2.1, by rw [f24]; exact w4⟩⟩
      · rw [hp42.1 j (by omega), w1.1 j (by omega) (by omega) (by omega) (by omega)]; exact F11.1 j a b
      · rw [hp42.1 3 (by decide), n3]; exact F11.2 i hi
      · rw [hp42.2, f24, n4, n13, n36]
        have b60 := hB.2.1
        refine cfo_cg hCu hT2 hLR w3 (fun _ _ _ => rfl) (fun r p q => by rw [hp4.2.1 r p q]) (fun j p q => ?_) _ (by have := hB.1; omega) i a b
        have := hLR.2.2.2.2.1.2
        exact w5 j p (by omega))
  · refine k_iconst C dX10_learn_17 ?_
    exact k_iret C dX10_learn_18 (by omega) (fun _ => by
      rcases hp11 with z | z
      · omega
      · exact ⟨F11, M4 9 6, M4 10, M4 11, M4 12, hT, hp4.2.2.2, Or.inl ⟨z.2, rfl, by rw [law11.1], law11.2.1, law11.2.2⟩, Or.inl rfl⟩)
