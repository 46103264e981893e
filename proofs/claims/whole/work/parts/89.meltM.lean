/-! MELTING, the reference's: sets, takesBack, melts -/
theorem jn_0 {ch : Int → Int} {lo hi : Int} : jn ch lo hi 0 = ch := by funext i; unfold jn; rw [if_neg (by omega)]
theorem jn_hi {ch : Int → Int} {lo hi c d : Int} (h : lo ≠ hi) (hd : 0 ≤ d ∧ d < 8) (hc : c ≤ 8) : jn ch lo hi c (8 * hi + d) = ch (8 * hi + d) := by unfold jn; rw [if_neg (by omega)]
theorem jn_lo {ch : Int → Int} {lo hi c : Int} : jn ch lo hi c (8 * lo + c) = ch (8 * lo + c) := by unfold jn; rw [if_neg (by omega)]
theorem jn_s0 {ch : Int → Int} {lo hi c : Int} (h0 : 0 ≤ c) (h : ch (8 * hi + c) = -1 ∨ ¬ ch (8 * lo + c) = -1) : jn ch lo hi (c + 1) = jn ch lo hi c := by
  funext i
  unfold jn
  by_cases e : i = 8 * lo + c
  · subst e
    rw [if_neg (show ¬ ((8 * lo ≤ 8 * lo + c ∧ 8 * lo + c < 8 * lo + c) ∧ ch (8 * lo + c) = -1) by omega)]
    by_cases q : ch (8 * lo + c) = -1
    · rw [if_pos ⟨by omega, q⟩, show 8 * hi + (8 * lo + c - 8 * lo) = 8 * hi + c by omega, q]
      rcases h with h | h
      · exact h
      · exact absurd q h
    · rw [if_neg (fun z => q z.2)]
  · by_cases q : (8 * lo ≤ i ∧ i < 8 * lo + c) ∧ ch i = -1
    · rw [if_pos q, if_pos ⟨by omega, q.2⟩]
    · rw [if_neg q, if_neg (fun z => q ⟨by omega, z.2⟩)]
theorem jn_s2 {ch : Int → Int} {lo hi c : Int} (h0 : 0 ≤ c) (h : ch (8 * lo + c) = -1) (i : Int) : jn ch lo hi (c + 1) i = if i = 8 * lo + c then ch (8 * hi + c) else jn ch lo hi c i := by
  unfold jn
  by_cases e : i = 8 * lo + c
  · subst e
    rw [if_pos rfl, if_pos ⟨by omega, h⟩, show 8 * hi + (8 * lo + c - 8 * lo) = 8 * hi + c by omega]
  · rw [if_neg e]
    by_cases q : (8 * lo ≤ i ∧ i < 8 * lo + c) ∧ ch i = -1
    · rw [if_pos q, if_pos ⟨by omega, q.2⟩]
    · rw [if_neg q, if_neg (fun z => q ⟨by omega, z.2⟩)]
theorem pshI_s0 {ch : Int → Int} {lo hi c : Int} (h0 : 0 ≤ c) (h : ch (8 * hi + c) = -1 ∨ ch (8 * lo + c) = -1) : pshI ch lo hi (c + 1).toNat = pshI ch lo hi c.toNat := by
  rw [show (c + 1).toNat = c.toNat + 1 by omega, pshI, show (c.toNat : Int) = c by omega, if_pos h]
theorem pshI_s1 {ch : Int → Int} {lo hi c : Int} (h0 : 0 ≤ c) (h : ¬ (ch (8 * hi + c) = -1 ∨ ch (8 * lo + c) = -1)) : pshI ch lo hi (c + 1).toNat = (ch (8 * hi + c), ch (8 * lo + c)) :: pshI ch lo hi c.toNat := by
  rw [show (c + 1).toNat = c.toNat + 1 by omega, pshI, show (c.toNat : Int) = c by omega, if_neg h]
/-- a stack in two arrays, a pair in whatever order -/
def StR (L R : Int → Int) : List (Int × Int) → Prop
  | [] => True
  | p :: st => ((L (st.length : Int) = p.1 ∧ R (st.length : Int) = p.2) ∨ (L (st.length : Int) = p.2 ∧ R (st.length : Int) = p.1)) ∧ StR L R st
theorem StR_up {L R L' R' : Int → Int} : ∀ {st : List (Int × Int)}, (∀ i, 0 ≤ i → i < (st.length : Int) → L' i = L i ∧ R' i = R i) → StR L R st → StR L' R' st
  | [], _, _ => trivial
  | p :: st, h, q => by
    have e := h (st.length : Int) (by omega) (by rw [List.length_cons]; omega)
    refine ⟨?_, StR_up (fun i a b => h i a (by rw [List.length_cons]; omega)) q.2⟩
    rw [e.1, e.2]; exact q.1
/-- what was changed since B can be taken back -/
def UR (B N : Mem) : Prop := 0 ≤ N 0 20 ∧
  (∀ e, 0 ≤ e → e < N 0 20 → (0 ≤ N 15 e ∧ N 15 e < 722 ∧ N 16 e = B 13 (N 15 e)) ∨ (722 ≤ N 15 e ∧ N 15 e < 6498 ∧ N 16 e = B 14 (N 15 e - 722))) ∧
  (∀ x, N 13 x = B 13 x ∨ (N 13 x < x ∧ x < 722 ∧ ∃ e, 0 ≤ e ∧ e < N 0 20 ∧ N 15 e = x)) ∧
  ∀ i, N 14 i = B 14 i ∨ (0 ≤ N 14 i ∧ 0 ≤ i ∧ ∃ e, 0 ≤ e ∧ e < N 0 20 ∧ N 15 e = 722 + i)
def s13 (N : Mem) (x v : Int) : Mem := up (up (up (up N 15 (N 0 20) x) 16 (N 0 20) (N 13 x)) 0 20 (N 0 20 + 1)) 13 x v
def s14 (N : Mem) (i v : Int) : Mem := up (up (up (up N 15 (N 0 20) (722 + i)) 16 (N 0 20) (N 14 i)) 0 20 (N 0 20 + 1)) 14 i v
theorem s13_f {N : Mem} {x v : Int} : (∀ j, j ≠ 0 → j ≠ 13 → j ≠ 15 → j ≠ 16 → s13 N x v j = N j) ∧ (∀ i, s13 N x v 0 i = if i = 20 then N 0 20 + 1 else N 0 i) ∧ (∀ i, s13 N x v 13 i = if i = x then v else N 13 i) ∧ (∀ i, s13 N x v 15 i = if i = N 0 20 then x else N 15 i) ∧ ∀ i, s13 N x v 16 i = if i = N 0 20 then N 13 x else N 16 i := by
  unfold s13
  refine ⟨fun j a b c d => by rw [up_ne b, up_ne a, up_ne d, up_ne c], fun i => by rw [up_ne (by decide), up_at, up_ne (by decide), up_ne (by decide)], fun i => by rw [up_at, up_ne (by decide), up_ne (by decide), up_ne (by decide)], fun i => by rw [up_ne (by decide), up_ne (by decide), up_ne (by decide), up_at], fun i => by rw [up_ne (by decide), up_ne (by decide), up_at, up_ne (by decide)]⟩
theorem s14_f {N : Mem} {x v : Int} : (∀ j, j ≠ 0 → j ≠ 14 → j ≠ 15 → j ≠ 16 → s14 N x v j = N j) ∧ (∀ i, s14 N x v 0 i = if i = 20 then N 0 20 + 1 else N 0 i) ∧ (∀ i, s14 N x v 14 i = if i = x then v else N 14 i) ∧ (∀ i, s14 N x v 15 i = if i = N 0 20 then 722 + x else N 15 i) ∧ ∀ i, s14 N x v 16 i = if i = N 0 20 then N 14 x else N 16 i := by
  unfold s14
  refine ⟨fun j a b c d => by rw [up_ne b, up_ne a, up_ne d, up_ne c], fun i => by rw [up_ne (by decide), up_at, up_ne (by decide), up_ne (by decide)], fun i => by rw [up_at, up_ne (by decide), up_ne (by decide), up_ne (by decide)], fun i => by rw [up_ne (by decide), up_ne (by decide), up_ne (by decide), up_at], fun i => by rw [up_ne (by decide), up_ne (by decide), up_at, up_ne (by decide)]⟩
theorem UR_13 {B N : Mem} {x v : Int} (h : UR B N) (hx : 0 ≤ x ∧ x < 722) (hr : N 13 x = x) (hv : v < x) : UR B (s13 N x v) := by
  obtain ⟨f0, f1, f2, f3, f4⟩ := s13_f (N := N) (x := x) (v := v)
  have e14 := f0 14 (by decide) (by decide) (by decide) (by decide)
  have e20 : s13 N x v 0 20 = N 0 20 + 1 := by rw [f1, if_pos rfl]
  generalize s13 N x v = N' at *
  obtain ⟨a, b, c, d⟩ := h
  have cov : ∀ y, (∃ e, 0 ≤ e ∧ e < N 0 20 ∧ N 15 e = y) → ∃ e, 0 ≤ e ∧ e < N' 0 20 ∧ N' 15 e = y := fun y ⟨e, p, q, r⟩ => ⟨e, p, by omega, by rw [f3, if_neg (by omega)]; exact r⟩
  refine ⟨by omega, fun e p q => ?_, fun y => ?_, fun i => ?_⟩
  · rw [f3, f4]
    by_cases z : e = N 0 20
    · rw [if_pos z, if_pos z]
      left
      refine ⟨hx.1, hx.2, ?_⟩
      rcases c x with w | w
      · exact w
      · omega
    · rw [if_neg z, if_neg z]; exact b e p (by omega)
  · rw [f2]
    by_cases z : y = x
    · right
      rw [if_pos z]
      exact ⟨by omega, by omega, N 0 20, a, by omega, by rw [f3, if_pos rfl, z]⟩
    · rw [if_neg z]
      rcases c y with w | w
      · exact Or.inl w
      · exact Or.inr ⟨w.1, w.2.1, cov y w.2.2⟩
  · rw [e14]
    rcases d i with w | w
    · exact Or.inl w
    · exact Or.inr ⟨w.1, w.2.1, cov _ w.2.2⟩
theorem UR_14 {B N : Mem} {x v : Int} (h : UR B N) (hx : 0 ≤ x ∧ x < 5776) (hr : N 14 x < 0) (hv : 0 ≤ v) : UR B (s14 N x v) := by
  obtain ⟨f0, f1, f2, f3, f4⟩ := s14_f (N := N) (x := x) (v := v)
  have e13 := f0 13 (by decide) (by decide) (by decide) (by decide)
  have e20 : s14 N x v 0 20 = N 0 20 + 1 := by rw [f1, if_pos rfl]
  generalize s14 N x v = N' at *
  obtain ⟨a, b, c, d⟩ := h
  have cov : ∀ y, (∃ e, 0 ≤ e ∧ e < N 0 20 ∧ N 15 e = y) → ∃ e, 0 ≤ e ∧ e < N' 0 20 ∧ N' 15 e = y := fun y ⟨e, p, q, r⟩ => ⟨e, p, by omega, by rw [f3, if_neg (by omega)]; exact r⟩
  refine ⟨by omega, fun e p q => ?_, fun y => ?_, fun i => ?_⟩
  · rw [f3, f4]
    by_cases z : e = N 0 20
    · rw [if_pos z, if_pos z]
      right
      refine ⟨by omega, by omega, ?_⟩
      rw [show 722 + x - 722 = x by omega]
      rcases d x with w | w
      · exact w
      · omega
    · rw [if_neg z, if_neg z]; exact b e p (by omega)
  · rw [e13]
    rcases c y with w | w
    · exact Or.inl w
    · exact Or.inr ⟨w.1, w.2.1, cov _ w.2.2⟩
  · rw [f2]
    by_cases z : i = x
    · right
      rw [if_pos z]
      exact ⟨hv, by omega, N 0 20, a, by omega, by rw [f3, if_pos rfl, z]⟩
    · rw [if_neg z]
      rcases d i with w | w
      · exact Or.inl w
      · exact Or.inr ⟨w.1, w.2.1, cov _ w.2.2⟩
/-- the frame of melting -/
def MF (M N : Mem) : Prop := (∀ j, j ≠ 0 → j ≠ 13 → j ≠ 14 → j ≠ 15 → j ≠ 16 → j ≠ 17 → j ≠ 18 → N j = M j) ∧ ∀ i, i ≠ 20 → N 0 i = M 0 i
theorem MF.s13 {M N : Mem} (h : MF M N) {x v : Int} : MF M (s13 N x v) := by
  obtain ⟨f0, f1, -, -, -⟩ := s13_f (N := N) (x := x) (v := v)
  exact ⟨fun j a b c d e f g => by rw [f0 j a b d e]; exact h.1 j a b c d e f g, fun i hi => by rw [f1, if_neg hi]; exact h.2 i hi⟩
theorem MF.s14 {M N : Mem} (h : MF M N) {x v : Int} : MF M (s14 N x v) := by
  obtain ⟨f0, f1, -, -, -⟩ := s14_f (N := N) (x := x) (v := v)
  exact ⟨fun j a b c d e f g => by rw [f0 j a c d e]; exact h.1 j a b c d e f g, fun i hi => by rw [f1, if_neg hi]; exact h.2 i hi⟩
theorem MF.w {M N : Mem} (h : MF M N) {a b v w : Int} : MF M (up (up N 17 a v) 18 b w) :=
  ⟨fun j a' b' c d e f g => by rw [up_ne g, up_ne f]; exact h.1 j a' b' c d e f g, fun i hi => by rw [up_ne (by decide), up_ne (by decide)]; exact h.2 i hi⟩
theorem UR.w {M N : Mem} (h : UR M N) {a b v w : Int} : UR M (up (up N 17 a v) 18 b w) := by
  unfold UR
  rw [up_ne (show (0 : Nat) ≠ 18 by decide), up_ne (show (0 : Nat) ≠ 17 by decide), up_ne (show (13 : Nat) ≠ 18 by decide), up_ne (show (13 : Nat) ≠ 17 by decide), up_ne (show (14 : Nat) ≠ 18 by decide), up_ne (show (14 : Nat) ≠ 17 by decide), up_ne (show (15 : Nat) ≠ 18 by decide), up_ne (show (15 : Nat) ≠ 17 by decide), up_ne (show (16 : Nat) ≠ 18 by decide), up_ne (show (16 : Nat) ≠ 17 by decide)]
  exact h
def MeR (M N : Mem) (x y : Int) : Prop := MF M N ∧ UR M N ∧ N 13 = (mst 721 (M 13) (M 14) [(x, y)]).1 ∧ N 14 = (mst 721 (M 13) (M 14) [(x, y)]).2 ∧ N 0 20 ≤ 6489
set_option maxHeartbeats 4000000 in
set_option maxRecDepth 100000 in
theorem c_M_sets13 (bl : Nat) (N : Mem) (hp : 0 ≤ N 0 20 ∧ N 0 20 < 14440) (a v : Int) (hv : inR v) (ha : 0 ≤ a ∧ a < 722) : Ct (shM bl) nM yX11_sets cX11_sets 3 none (lvl 0) [.inr 0, .inl a, .inl v] N (fun _ M' => M' = s13 N a v) := by
  refine Ct_of (by decide +kernel) (Nat.le_of_ble_eq_true rfl) (fun K C => ?_)
  refine k_aload_n C dX11_sets_0 rfl rfl ?_
  refine k_getR C (j := 18) okC11 rfl (by decide) (by decide) rfl flX11_53 dX11_sets_1 ?_
  refine k_aload_n C dX11_sets_4 rfl rfl ?_
  refine k_getJ C 20 20 rfl okC11 rfl (by decide) (by decide) rfl flX11_167 dX11_sets_5 (fun ld5 => ?_)
  refine k_iload_n C dX11_sets_8 rfl rfl ?_
  refine k_iastore C rfl (by decide) (by decide) ⟨by omega, by omega⟩ (by omega) dX11_sets_9 ?_
  refine k_aload_n C dX11_sets_10 rfl rfl ?_
  refine k_getR C (j := 19) okC11 rfl (by decide) (by decide) rfl flX11_56 dX11_sets_11 ?_
  refine k_aload_n C dX11_sets_14 rfl rfl ?_
  refine k_getJ C 20 20 rfl okC11 rfl (by decide) (by decide) rfl flX11_167 dX11_sets_15 (fun ld15 => ?_)
  rw [up_ne (show (0 : Nat) ≠ 15 by decide)]
  refine k_iload_n C dX11_sets_18 rfl rfl ?_
  refine k_sipush C dX11_sets_19 (by decide) ?_
  refine k_icmp_ge C (tgt := 34) dX11_sets_22 rfl (by omega) (by omega) (fun c22 => ?_) (fun c22 => ?_)
  · exfalso; omega
  · refine k_aload_n C dX11_sets_25 rfl rfl ?_
    refine k_getR C (j := 16) okC11 rfl (by decide) (by decide) rfl flX11_47 dX11_sets_26 ?_
    refine k_iload_n C dX11_sets_29 rfl rfl ?_
    refine k_iaload C rfl (by decide) (by decide) ⟨by omega, by omega⟩ dX11_sets_30 (fun ld30 => ?_)
    rw [up_ne (show (13 : Nat) ≠ 15 by decide)] at ld30 ⊢
    refine k_goto C (tgt := 44) dX11_sets_31 rfl ?_
    refine k_iastore C rfl (by decide) (by decide) ⟨by omega, by omega⟩ (by omega) dX11_sets_44 ?_
    refine k_aload_n C dX11_sets_45 rfl rfl ?_
    refine k_dup C dX11_sets_46 ?_
    refine k_getJ C 20 20 rfl okC11 rfl (by decide) (by decide) rfl flX11_167 dX11_sets_47 (fun ld47 => ?_)
    rw [up_ne (show (0 : Nat) ≠ 16 by decide), up_ne (show (0 : Nat) ≠ 15 by decide)]
    refine k_iconst C dX11_sets_50 ?_
    refine k_iadd C dX11_sets_51 ?_
    refine k_putJ C 20 20 rfl okC11 rfl (by decide) (by decide) rfl rfl rfl (by omega) flX11_167 dX11_sets_52 ?_
    refine k_iload_n C dX11_sets_55 rfl rfl ?_
    refine k_sipush C dX11_sets_56 (by decide) ?_
    refine k_icmp_ge C (tgt := 72) dX11_sets_59 rfl (by omega) (by omega) (fun c59 => ?_) (fun c59 => ?_)
    · exfalso; omega
    · refine k_aload_n C dX11_sets_62 rfl rfl ?_
      refine k_getR C (j := 16) okC11 rfl (by decide) (by decide) rfl flX11_47 dX11_sets_63 ?_
      refine k_iload_n C dX11_sets_66 rfl rfl ?_
      refine k_iload_n C dX11_sets_67 rfl rfl ?_
      refine k_iastore C rfl (by decide) (by decide) ⟨by omega, by omega⟩ (by omega) dX11_sets_68 ?_
      refine k_goto C (tgt := 83) dX11_sets_69 rfl ?_
      exact k_vret C dX11_sets_83 (fun _ => rfl)
set_option maxHeartbeats 4000000 in
set_option maxRecDepth 100000 in
theorem c_M_sets14 (bl : Nat) (N : Mem) (hp : 0 ≤ N 0 20 ∧ N 0 20 < 14440) (a v : Int) (hv : inR v) (ha : 722 ≤ a ∧ a < 6498) : Ct (shM bl) nM yX11_sets cX11_sets 3 none (lvl 0) [.inr 0, .inl a, .inl v] N (fun _ M' => M' = s14 N (a - 722) v) := by
  refine Ct_of (by decide +kernel) (Nat.le_of_ble_eq_true rfl) (fun K C => ?_)
  refine k_aload_n C dX11_sets_0 rfl rfl ?_
  refine k_getR C (j := 18) okC11 rfl (by decide) (by decide) rfl flX11_53 dX11_sets_1 ?_
  refine k_aload_n C dX11_sets_4 rfl rfl ?_
  refine k_getJ C 20 20 rfl okC11 rfl (by decide) (by decide) rfl flX11_167 dX11_sets_5 (fun ld5 => ?_)
  refine k_iload_n C dX11_sets_8 rfl rfl ?_
  refine k_iastore C rfl (by decide) (by decide) ⟨by omega, by omega⟩ (by omega) dX11_sets_9 ?_
  refine k_aload_n C dX11_sets_10 rfl rfl ?_
  refine k_getR C (j := 19) okC11 rfl (by decide) (by decide) rfl flX11_56 dX11_sets_11 ?_
  refine k_aload_n C dX11_sets_14 rfl rfl ?_
  refine k_getJ C 20 20 rfl okC11 rfl (by decide) (by decide) rfl flX11_167 dX11_sets_15 (fun ld15 => ?_)
  rw [up_ne (show (0 : Nat) ≠ 15 by decide)]
  refine k_iload_n C dX11_sets_18 rfl rfl ?_
  refine k_sipush C dX11_sets_19 (by decide) ?_
  refine k_icmp_ge C (tgt := 34) dX11_sets_22 rfl (by omega) (by omega) (fun c22 => ?_) (fun c22 => ?_)
  · refine k_aload_n C dX11_sets_34 rfl rfl ?_
    refine k_getR C (j := 17) okC11 rfl (by decide) (by decide) rfl flX11_50 dX11_sets_35 ?_
    refine k_iload_n C dX11_sets_38 rfl rfl ?_
    refine k_sipush C dX11_sets_39 (by decide) ?_
    refine k_isub C dX11_sets_42 ?_
    refine k_iaload C rfl (by decide) (by decide) ⟨by omega, by omega⟩ dX11_sets_43 (fun ld43 => ?_)
    rw [up_ne (show (14 : Nat) ≠ 15 by decide)] at ld43 ⊢
    refine k_iastore C rfl (by decide) (by decide) ⟨by omega, by omega⟩ (by omega) dX11_sets_44 ?_
    refine k_aload_n C dX11_sets_45 rfl rfl ?_
    refine k_dup C dX11_sets_46 ?_
    refine k_getJ C 20 20 rfl okC11 rfl (by decide) (by decide) rfl flX11_167 dX11_sets_47 (fun ld47 => ?_)
    rw [up_ne (show (0 : Nat) ≠ 16 by decide), up_ne (show (0 : Nat) ≠ 15 by decide)]
    refine k_iconst C dX11_sets_50 ?_
    refine k_iadd C dX11_sets_51 ?_
    refine k_putJ C 20 20 rfl okC11 rfl (by decide) (by decide) rfl rfl rfl (by omega) flX11_167 dX11_sets_52 ?_
    refine k_iload_n C dX11_sets_55 rfl rfl ?_
    refine k_sipush C dX11_sets_56 (by decide) ?_
    refine k_icmp_ge C (tgt := 72) dX11_sets_59 rfl (by omega) (by omega) (fun c59 => ?_) (fun c59 => ?_)
    · refine k_aload_n C dX11_sets_72 rfl rfl ?_
      refine k_getR C (j := 17) okC11 rfl (by decide) (by decide) rfl flX11_50 dX11_sets_73 ?_
      refine k_iload_n C dX11_sets_76 rfl rfl ?_
      refine k_sipush C dX11_sets_77 (by decide) ?_
      refine k_isub C dX11_sets_80 ?_
      refine k_iload_n C dX11_sets_81 rfl rfl ?_
      refine k_iastore C rfl (by decide) (by decide) ⟨by omega, by omega⟩ (by omega) dX11_sets_82 ?_
      exact k_vret C dX11_sets_83 (fun _ => by unfold s14; rw [show 722 + (a - 722) = a by omega])
    · exfalso; omega
  · exfalso; omega
set_option maxHeartbeats 4000000 in
set_option maxRecDepth 100000 in
theorem m_back {K : Kt} (bl : Nat) (B M N : Mem) (C : Ctx (shM bl) nM RX11 cX11_takesBack 1 none (lvl 0) (fun _ M' => M' 13 = B 13 ∧ M' 14 = B 14 ∧ M' 0 20 = 0 ∧ (∀ j, j ≠ 0 → j ≠ 13 → j ≠ 14 → M' j = M j) ∧ ∀ i, i ≠ 20 → M' 0 i = M 0 i) K) (hp : 0 ≤ N 0 20 ∧ N 0 20 ≤ 14440) (hb : ∀ e, 0 ≤ e → e < N 0 20 → (0 ≤ N 15 e ∧ N 15 e < 722 ∧ N 16 e = B 13 (N 15 e)) ∨ (722 ≤ N 15 e ∧ N 15 e < 6498 ∧ N 16 e = B 14 (N 15 e - 722))) (hc : ∀ x, N 13 x = B 13 x ∨ (x < 722 ∧ ∃ e, 0 ≤ e ∧ e < N 0 20 ∧ N 15 e = x)) (hd : ∀ i, N 14 i = B 14 i ∨ (0 ≤ i ∧ ∃ e, 0 ≤ e ∧ e < N 0 20 ∧ N 15 e = 722 + i)) (hf : ∀ j, j ≠ 0 → j ≠ 13 → j ≠ 14 → N j = M j) (hg : ∀ i, i ≠ 20 → N 0 i = M 0 i) : K 0 [(0, .inr 0)] [] N := by
  refine k_aload_n C dX11_takesBack_0 rfl rfl ?_
  refine k_getJ C 20 20 rfl okC11 rfl (by decide) (by decide) rfl flX11_167 dX11_takesBack_1 (fun ld1 => ?_)
  refine k_if_le C (tgt := 88) dX11_takesBack_4 rfl (by omega) (fun c4 => ?_) (fun c4 => ?_)
  · exact k_vret C dX11_takesBack_88 (fun _ => ⟨by funext x; rcases hc x with w | ⟨w0, e, w1, w2, w3⟩; exact w; omega, by funext x; rcases hd x with w | ⟨w0, e, w1, w2, w3⟩; exact w; omega, by omega, hf, hg⟩)
  · have hbp := hb (N 0 20 - 1) (by omega) (by omega)
    refine k_aload_n C dX11_takesBack_7 rfl rfl ?_
    refine k_dup C dX11_takesBack_8 ?_
    refine k_getJ C 20 20 rfl okC11 rfl (by decide) (by decide) rfl flX11_167 dX11_takesBack_9 (fun ld9 => ?_)
    refine k_iconst C dX11_takesBack_12 ?_
    refine k_isub C dX11_takesBack_13 ?_
    refine k_putJ C 20 20 rfl okC11 rfl (by decide) (by decide) rfl rfl rfl (by omega) flX11_167 dX11_takesBack_14 ?_
    refine k_aload_n C dX11_takesBack_17 rfl rfl ?_
    refine k_getR C (j := 18) okC11 rfl (by decide) (by decide) rfl flX11_53 dX11_takesBack_18 ?_
    refine k_aload_n C dX11_takesBack_21 rfl rfl ?_
    refine k_getJ C 20 20 rfl okC11 rfl (by decide) (by decide) rfl flX11_167 dX11_takesBack_22 (fun ld22 => ?_)
    rw [up_same]
    refine k_iaload C rfl (by decide) (by decide) ⟨by omega, by omega⟩ dX11_takesBack_25 (fun ld25 => ?_)
    rw [up_ne (show (15 : Nat) ≠ 0 by decide)]
    refine k_sipush C dX11_takesBack_26 (by decide) ?_
    refine k_icmp_ge C (tgt := 58) dX11_takesBack_29 rfl (by omega) (by omega) (fun c29 => ?_) (fun c29 => ?_)
    · refine k_aload_n C dX11_takesBack_58 rfl rfl ?_
      refine k_getR C (j := 17) okC11 rfl (by decide) (by decide) rfl flX11_50 dX11_takesBack_59 ?_
      refine k_aload_n C dX11_takesBack_62 rfl rfl ?_
      refine k_getR C (j := 18) okC11 rfl (by decide) (by decide) rfl flX11_53 dX11_takesBack_63 ?_
      refine k_aload_n C dX11_takesBack_66 rfl rfl ?_
      refine k_getJ C 20 20 rfl okC11 rfl (by decide) (by decide) rfl flX11_167 dX11_takesBack_67 (fun ld67 => ?_)
      rw [up_same]
      refine k_iaload C rfl (by decide) (by decide) ⟨by omega, by omega⟩ dX11_takesBack_70 (fun ld70 => ?_)
      rw [up_ne (show (15 : Nat) ≠ 0 by decide)]
      refine k_sipush C dX11_takesBack_71 (by decide) ?_
      refine k_isub C dX11_takesBack_74 ?_
      refine k_aload_n C dX11_takesBack_75 rfl rfl ?_
      refine k_getR C (j := 19) okC11 rfl (by decide) (by decide) rfl flX11_56 dX11_takesBack_76 ?_
      refine k_aload_n C dX11_takesBack_79 rfl rfl ?_
      refine k_getJ C 20 20 rfl okC11 rfl (by decide) (by decide) rfl flX11_167 dX11_takesBack_80 (fun ld80 => ?_)
      rw [up_same]
      refine k_iaload C rfl (by decide) (by decide) ⟨by omega, by omega⟩ dX11_takesBack_83 (fun ld83 => ?_)
      rw [up_ne (show (16 : Nat) ≠ 0 by decide)] at ld83 ⊢
      refine k_iastore C rfl (by decide) (by decide) ⟨by omega, by omega⟩ (by omega) dX11_takesBack_84 ?_
      refine k_goto C (tgt := 0) dX11_takesBack_85 rfl ?_
      refine k_cut2 C (lv' := [(0, _)]) ⟨rfl, trivial⟩ ?_
      first
      | (have hw : N 16 (N 0 20 - 1) = B 13 (N 15 (N 0 20 - 1)) := by omega
         refine m_back bl B M _ C ?_ ?_ ?_ ?_ ?_ ?_
         · rw [up_ne (show (0 : Nat) ≠ 13 by decide), up_same]; omega
         · intro e p q; rw [up_ne (show (0 : Nat) ≠ 13 by decide), up_same] at q; rw [up_ne (show (15 : Nat) ≠ 13 by decide), up_ne (show (15 : Nat) ≠ 0 by decide), up_ne (show (16 : Nat) ≠ 13 by decide), up_ne (show (16 : Nat) ≠ 0 by decide)]; exact hb e p (by omega)
         · intro x; rw [up_at]; by_cases z : x = N 15 (N 0 20 - 1)
           · left; rw [if_pos z, z]; exact hw
           · rw [if_neg z, up_ne (show (13 : Nat) ≠ 0 by decide), up_ne (show (15 : Nat) ≠ 13 by decide), up_ne (show (15 : Nat) ≠ 0 by decide), up_ne (show (0 : Nat) ≠ 13 by decide), up_same]; rcases hc x with w | ⟨w0, e, w1, w2, w3⟩
             · exact Or.inl w
             · right; exact ⟨w0, e, w1, by by_cases q : e = N 0 20 - 1; exact absurd (by rw [← w3, q]) z; omega, w3⟩
         · intro x; rw [up_ne (show (14 : Nat) ≠ 13 by decide), up_ne (show (14 : Nat) ≠ 0 by decide), up_ne (show (15 : Nat) ≠ 13 by decide), up_ne (show (15 : Nat) ≠ 0 by decide), up_ne (show (0 : Nat) ≠ 13 by decide), up_same]; rcases hd x with w | ⟨w0, e, w1, w2, w3⟩
           · exact Or.inl w
           · by_cases q : e = N 0 20 - 1
             · subst q; exfalso; omega
             · right; exact ⟨w0, e, w1, by omega, w3⟩
         · intro j a b c; rw [up_ne b, up_ne a]; exact hf j a b c
         · intro i hi; rw [up_ne (show (0 : Nat) ≠ 13 by decide), up_at, if_neg hi]; exact hg i hi)
      | (have hw : N 16 (N 0 20 - 1) = B 14 (N 15 (N 0 20 - 1) - 722) := by omega
         refine m_back bl B M _ C ?_ ?_ ?_ ?_ ?_ ?_
         · rw [up_ne (show (0 : Nat) ≠ 14 by decide), up_same]; omega
         · intro e p q; rw [up_ne (show (0 : Nat) ≠ 14 by decide), up_same] at q; rw [up_ne (show (15 : Nat) ≠ 14 by decide), up_ne (show (15 : Nat) ≠ 0 by decide), up_ne (show (16 : Nat) ≠ 14 by decide), up_ne (show (16 : Nat) ≠ 0 by decide)]; exact hb e p (by omega)
         · intro x; rw [up_ne (show (13 : Nat) ≠ 14 by decide), up_ne (show (13 : Nat) ≠ 0 by decide), up_ne (show (15 : Nat) ≠ 14 by decide), up_ne (show (15 : Nat) ≠ 0 by decide), up_ne (show (0 : Nat) ≠ 14 by decide), up_same]; rcases hc x with w | ⟨w0, e, w1, w2, w3⟩
           · exact Or.inl w
           · by_cases q : e = N 0 20 - 1
             · subst q; exfalso; omega
             · right; exact ⟨w0, e, w1, by omega, w3⟩
         · intro x; rw [up_at]; by_cases z : x = N 15 (N 0 20 - 1) - 722
           · left; rw [if_pos z, z]; exact hw
           · rw [if_neg z, up_ne (show (14 : Nat) ≠ 0 by decide), up_ne (show (15 : Nat) ≠ 14 by decide), up_ne (show (15 : Nat) ≠ 0 by decide), up_ne (show (0 : Nat) ≠ 14 by decide), up_same]; rcases hd x with w | ⟨w0, e, w1, w2, w3⟩
             · exact Or.inl w
             · right; exact ⟨w0, e, w1, by by_cases q : e = N 0 20 - 1; (subst q; exfalso; omega); omega, w3⟩
         · intro j a b c; rw [up_ne c, up_ne a]; exact hf j a b c
         · intro i hi; rw [up_ne (show (0 : Nat) ≠ 14 by decide), up_at, if_neg hi]; exact hg i hi)
    · refine k_aload_n C dX11_takesBack_32 rfl rfl ?_
      refine k_getR C (j := 16) okC11 rfl (by decide) (by decide) rfl flX11_47 dX11_takesBack_33 ?_
      refine k_aload_n C dX11_takesBack_36 rfl rfl ?_
      refine k_getR C (j := 18) okC11 rfl (by decide) (by decide) rfl flX11_53 dX11_takesBack_37 ?_
      refine k_aload_n C dX11_takesBack_40 rfl rfl ?_
      refine k_getJ C 20 20 rfl okC11 rfl (by decide) (by decide) rfl flX11_167 dX11_takesBack_41 (fun ld41 => ?_)
      rw [up_same]
      refine k_iaload C rfl (by decide) (by decide) ⟨by omega, by omega⟩ dX11_takesBack_44 (fun ld44 => ?_)
      rw [up_ne (show (15 : Nat) ≠ 0 by decide)]
      refine k_aload_n C dX11_takesBack_45 rfl rfl ?_
      refine k_getR C (j := 19) okC11 rfl (by decide) (by decide) rfl flX11_56 dX11_takesBack_46 ?_
      refine k_aload_n C dX11_takesBack_49 rfl rfl ?_
      refine k_getJ C 20 20 rfl okC11 rfl (by decide) (by decide) rfl flX11_167 dX11_takesBack_50 (fun ld50 => ?_)
      rw [up_same]
      refine k_iaload C rfl (by decide) (by decide) ⟨by omega, by omega⟩ dX11_takesBack_53 (fun ld53 => ?_)
      rw [up_ne (show (16 : Nat) ≠ 0 by decide)] at ld53 ⊢
      refine k_iastore C rfl (by decide) (by decide) ⟨by omega, by omega⟩ (by omega) dX11_takesBack_54 ?_
      refine k_goto C (tgt := 0) dX11_takesBack_55 rfl ?_
      refine k_cut2 C (lv' := [(0, _)]) ⟨rfl, trivial⟩ ?_
      first
      | (have hw : N 16 (N 0 20 - 1) = B 13 (N 15 (N 0 20 - 1)) := by omega
         refine m_back bl B M _ C ?_ ?_ ?_ ?_ ?_ ?_
         · rw [up_ne (show (0 : Nat) ≠ 13 by decide), up_same]; omega
         · intro e p q; rw [up_ne (show (0 : Nat) ≠ 13 by decide), up_same] at q; rw [up_ne (show (15 : Nat) ≠ 13 by decide), up_ne (show (15 : Nat) ≠ 0 by decide), up_ne (show (16 : Nat) ≠ 13 by decide), up_ne (show (16 : Nat) ≠ 0 by decide)]; exact hb e p (by omega)
         · intro x; rw [up_at]; by_cases z : x = N 15 (N 0 20 - 1)
           · left; rw [if_pos z, z]; exact hw
           · rw [if_neg z, up_ne (show (13 : Nat) ≠ 0 by decide), up_ne (show (15 : Nat) ≠ 13 by decide), up_ne (show (15 : Nat) ≠ 0 by decide), up_ne (show (0 : Nat) ≠ 13 by decide), up_same]; rcases hc x with w | ⟨w0, e, w1, w2, w3⟩
             · exact Or.inl w
             · right; exact ⟨w0, e, w1, by by_cases q : e = N 0 20 - 1; exact absurd (by rw [← w3, q]) z; omega, w3⟩
         · intro x; rw [up_ne (show (14 : Nat) ≠ 13 by decide), up_ne (show (14 : Nat) ≠ 0 by decide), up_ne (show (15 : Nat) ≠ 13 by decide), up_ne (show (15 : Nat) ≠ 0 by decide), up_ne (show (0 : Nat) ≠ 13 by decide), up_same]; rcases hd x with w | ⟨w0, e, w1, w2, w3⟩
           · exact Or.inl w
           · by_cases q : e = N 0 20 - 1
             · subst q; exfalso; omega
             · right; exact ⟨w0, e, w1, by omega, w3⟩
         · intro j a b c; rw [up_ne b, up_ne a]; exact hf j a b c
         · intro i hi; rw [up_ne (show (0 : Nat) ≠ 13 by decide), up_at, if_neg hi]; exact hg i hi)
      | (have hw : N 16 (N 0 20 - 1) = B 14 (N 15 (N 0 20 - 1) - 722) := by omega
         refine m_back bl B M _ C ?_ ?_ ?_ ?_ ?_ ?_
         · rw [up_ne (show (0 : Nat) ≠ 14 by decide), up_same]; omega
         · intro e p q; rw [up_ne (show (0 : Nat) ≠ 14 by decide), up_same] at q; rw [up_ne (show (15 : Nat) ≠ 14 by decide), up_ne (show (15 : Nat) ≠ 0 by decide), up_ne (show (16 : Nat) ≠ 14 by decide), up_ne (show (16 : Nat) ≠ 0 by decide)]; exact hb e p (by omega)
         · intro x; rw [up_ne (show (13 : Nat) ≠ 14 by decide), up_ne (show (13 : Nat) ≠ 0 by decide), up_ne (show (15 : Nat) ≠ 14 by decide), up_ne (show (15 : Nat) ≠ 0 by decide), up_ne (show (0 : Nat) ≠ 14 by decide), up_same]; rcases hc x with w | ⟨w0, e, w1, w2, w3⟩
           · exact Or.inl w
           · by_cases q : e = N 0 20 - 1
             · subst q; exfalso; omega
             · right; exact ⟨w0, e, w1, by omega, w3⟩
         · intro x; rw [up_at]; by_cases z : x = N 15 (N 0 20 - 1) - 722
           · left; rw [if_pos z, z]; exact hw
           · rw [if_neg z, up_ne (show (14 : Nat) ≠ 0 by decide), up_ne (show (15 : Nat) ≠ 14 by decide), up_ne (show (15 : Nat) ≠ 0 by decide), up_ne (show (0 : Nat) ≠ 14 by decide), up_same]; rcases hd x with w | ⟨w0, e, w1, w2, w3⟩
             · exact Or.inl w
             · right; exact ⟨w0, e, w1, by by_cases q : e = N 0 20 - 1; (subst q; exfalso; omega); omega, w3⟩
         · intro j a b c; rw [up_ne c, up_ne a]; exact hf j a b c
         · intro i hi; rw [up_ne (show (0 : Nat) ≠ 14 by decide), up_at, if_neg hi]; exact hg i hi)
termination_by (N 0 20).toNat
decreasing_by all_goals (rw [up_ne (by decide), up_same]; omega)
set_option maxHeartbeats 4000000 in
set_option maxRecDepth 100000 in
theorem c_M_back (bl : Nat) (B M : Mem) (h : UR B M) (hp : M 0 20 ≤ 14440) : Ct (shM bl) nM yX11_takesBack cX11_takesBack 1 none (lvl 0) [.inr 0] M (fun _ M' => M' 13 = B 13 ∧ M' 14 = B 14 ∧ M' 0 20 = 0 ∧ (∀ j, j ≠ 0 → j ≠ 13 → j ≠ 14 → M' j = M j) ∧ ∀ i, i ≠ 20 → M' 0 i = M 0 i) := by
  refine Ct_of (by decide +kernel) (Nat.le_of_ble_eq_true rfl) (fun K C => ?_)
  exact m_back bl B M M C ⟨h.1, hp⟩ h.2.1 (fun x => by rcases h.2.2.1 x with w | w; exact Or.inl w; exact Or.inr w.2) (fun i => by rcases h.2.2.2 i with w | w; exact Or.inl w; exact Or.inr w.2) (fun _ _ _ _ => rfl) (fun _ _ => rfl)
set_option maxHeartbeats 4000000 in
set_option maxRecDepth 100000 in
theorem m_mel8 {K : Kt} (bl : Nat) (M : Mem) (x y : Int) (C : Ctx (shM bl) nM RX11 cX11_melts 8 none (lvl 1) (fun _ M' => MeR M M' x y) K) (m : Int) (hm : m ≤ 721) (it ch : Int → Int) (lo hi : Int) (st : List (Int × Int)) (h0 : 0 ≤ lo ∧ lo < hi ∧ hi < m) (hch : ChOk m ch) (hst : ((pshI ch lo hi 8 ++ st).length : Int) ≤ 721) (N : Mem) (q c n : Int) (hc : 0 ≤ c ∧ c ≤ 8) (hn : n = ((pshI ch lo hi c.toNat ++ st).length : Int)) (hF : MF M N) (hU : UR M N) (e13 : N 13 = updI it hi lo) (e14 : N 14 = jn ch lo hi c) (hS : StR (N 17) (N 18) (pshI ch lo hi c.toNat ++ st)) (hq : N 0 20 ≤ q + 1 + c) (hq2 : q ≤ 6480) (kk : ∀ N2 n2, MF M N2 → UR M N2 → N2 13 = updI it hi lo → N2 14 = jn ch lo hi 8 → StR (N2 17) (N2 18) (pshI ch lo hi 8 ++ st) → N2 0 20 ≤ q + 9 → n2 = ((pshI ch lo hi 8 ++ st).length : Int) → K 21 [(0, .inr 0), (1, .inl x), (2, .inl y), (3, .inl n2)] [] N2) : K 92 [(0, .inr 0), (1, .inl x), (2, .inl y), (3, .inl n), (4, .inl lo), (5, .inl hi), (6, .inl c)] [] N := by
  have hu0 := hU.1
  have pl := pshI_len (ch := ch) (lo := lo) (hi := hi) c.toNat 8 (by omega)
  rw [List.length_append] at hst hn
  refine k_iload C dX11_melts_92 rfl ?_
  refine k_bipush C dX11_melts_94 (by decide) ?_
  refine k_icmp_ge C (tgt := 195) dX11_melts_96 rfl (by omega) (by omega) (fun c96 => ?_) (fun c96 => ?_)
  · refine k_goto C (tgt := 21) dX11_melts_195 rfl ?_
    refine k_cut2 C (lv' := [(0, _), (1, _), (2, _), (3, _)]) ⟨rfl, rfl, rfl, rfl, trivial⟩ ?_
    have e8 : c = 8 := by omega
    subst e8
    exact kk N n hF hU e13 e14 hS (by omega) (by rw [List.length_append]; exact hn)
  · have eh : N 14 (8 * hi + c) = ch (8 * hi + c) := by rw [e14]; exact jn_hi (by omega) ⟨hc.1, c96⟩ hc.2
    have el : N 14 (8 * lo + c) = ch (8 * lo + c) := by rw [e14]; exact jn_lo
    have oh := hch (8 * hi + c) (by omega) (by omega)
    have ol := hch (8 * lo + c) (by omega) (by omega)
    have pl2 := pshI_len (ch := ch) (lo := lo) (hi := hi) (c + 1).toNat 8 (by omega)
    refine k_aload_n C dX11_melts_99 rfl rfl ?_
    refine k_getR C (j := 17) okC11 rfl (by decide) (by decide) rfl flX11_50 dX11_melts_100 ?_
    refine k_bipush C dX11_melts_103 (by decide) ?_
    refine k_iload C dX11_melts_105 rfl ?_
    refine k_imul C dX11_melts_107 ?_
    refine k_iload C dX11_melts_108 rfl ?_
    refine k_iadd C dX11_melts_110 ?_
    refine k_iaload C rfl (by decide) (by decide) ⟨by omega, by omega⟩ dX11_melts_111 (fun ld111 => ?_)
    rw [eh]
    refine k_istore C dX11_melts_112 (by decide) ?_
    refine k_iload C dX11_melts_114 rfl ?_
    refine k_if_ge C (tgt := 122) dX11_melts_116 rfl (by omega) (fun c116 => ?_) (fun c116 => ?_)
    · refine k_aload_n C dX11_melts_122 rfl rfl ?_
      refine k_getR C (j := 17) okC11 rfl (by decide) (by decide) rfl flX11_50 dX11_melts_123 ?_
      refine k_bipush C dX11_melts_126 (by decide) ?_
      refine k_iload C dX11_melts_128 rfl ?_
      refine k_imul C dX11_melts_130 ?_
      refine k_iload C dX11_melts_131 rfl ?_
      refine k_iadd C dX11_melts_133 ?_
      refine k_iaload C rfl (by decide) (by decide) ⟨by omega, by omega⟩ dX11_melts_134 (fun ld134 => ?_)
      rw [el]
      refine k_if_ge C (tgt := 159) dX11_melts_135 rfl (by omega) (fun c135 => ?_) (fun c135 => ?_)
      · have ps := pshI_s1 (ch := ch) (lo := lo) (hi := hi) hc.1 (by omega)
        have pl3 : ((pshI ch lo hi (c + 1).toNat).length : Int) = (pshI ch lo hi c.toNat).length + 1 := by rw [ps, List.length_cons]; omega
        refine k_aload_n C dX11_melts_159 rfl rfl ?_
        refine k_getR C (j := 21) okC11 rfl (by decide) (by decide) rfl flX11_59 dX11_melts_160 ?_
        refine k_iload_n C dX11_melts_163 rfl rfl ?_
        refine k_aload_n C dX11_melts_164 rfl rfl ?_
        refine k_getR C (j := 17) okC11 rfl (by decide) (by decide) rfl flX11_50 dX11_melts_165 ?_
        refine k_bipush C dX11_melts_168 (by decide) ?_
        refine k_iload C dX11_melts_170 rfl ?_
        refine k_imul C dX11_melts_172 ?_
        refine k_iload C dX11_melts_173 rfl ?_
        refine k_iadd C dX11_melts_175 ?_
        refine k_iaload C rfl (by decide) (by decide) ⟨by omega, by omega⟩ dX11_melts_176 (fun ld176 => ?_)
        rw [el]
        refine k_iastore C rfl (by decide) (by decide) ⟨by omega, by omega⟩ (by omega) dX11_melts_177 ?_
        refine k_aload_n C dX11_melts_178 rfl rfl ?_
        refine k_getR C (j := 22) okC11 rfl (by decide) (by decide) rfl flX11_62 dX11_melts_179 ?_
        refine k_iload_n C dX11_melts_182 rfl rfl ?_
        refine k_iload C dX11_melts_183 rfl ?_
        refine k_iastore C rfl (by decide) (by decide) ⟨by omega, by omega⟩ (by omega) dX11_melts_185 ?_
        refine k_iinc C dX11_melts_186 (by decide) rfl ?_
        refine k_iinc C dX11_melts_189 (by decide) rfl ?_
        refine k_goto C (tgt := 92) dX11_melts_192 rfl ?_
        refine k_cut2 C (lv' := [(0, _), (1, _), (2, _), (3, _), (4, _), (5, _), (6, _)]) ⟨rfl, rfl, rfl, rfl, rfl, rfl, rfl, trivial⟩ ?_
        first
        | (have z0 : ch (8 * hi + c) = -1 := by omega
           have ps := pshI_s0 (lo := lo) hc.1 (Or.inl z0)
           refine m_mel8 bl M x y C m hm it ch lo hi st h0 hch (by rw [List.length_append]; exact hst) N q (c + 1) n (by omega) (by rw [ps, List.length_append]; exact hn) hF hU e13 (by rw [jn_s0 hc.1 (Or.inl z0)]; exact e14) (by rw [ps]; exact hS) (by omega) hq2 kk)
        | (have z0 : ch (8 * lo + c) = -1 := by omega
           have ps := pshI_s0 (hi := hi) hc.1 (Or.inr z0)
           obtain ⟨f0, f1, f2, f3, f4⟩ := s14_f (N := N) (x := 8 * lo + c) (v := ch (8 * hi + c))
           have e20 : s14 N (8 * lo + c) (ch (8 * hi + c)) 0 20 = N 0 20 + 1 := by rw [f1, if_pos rfl]
           refine m_mel8 bl M x y C m hm it ch lo hi st h0 hch (by rw [List.length_append]; exact hst) _ q (c + 1) n (by omega) (by rw [ps, List.length_append]; exact hn) hF.s14 (UR_14 hU (by omega) (by omega) (by omega)) (by rw [f0 13 (by decide) (by decide) (by decide) (by decide)]; exact e13) (by funext i; rw [f2, jn_s2 hc.1 z0, e14]) (by rw [ps, f0 17 (by decide) (by decide) (by decide) (by decide), f0 18 (by decide) (by decide) (by decide) (by decide)]; exact hS) (by omega) hq2 kk)
        | (refine m_mel8 bl M x y C m hm it ch lo hi st h0 hch (by rw [List.length_append]; exact hst) _ q (c + 1) (n + 1) (by omega) (by rw [List.length_append]; omega) hF.w hU.w (by rw [up_ne (by decide), up_ne (by decide)]; exact e13) (by rw [up_ne (by decide), up_ne (by decide), jn_s0 hc.1 (Or.inr (by omega))]; exact e14) ?_ (by rw [up_ne (by decide), up_ne (by decide)]; omega) hq2 kk
           rw [ps, List.cons_append]
           refine ⟨Or.inr ?_, StR_up (fun i p1 p2 => ?_) hS⟩
           · rw [List.length_append, up_ne (show (17 : Nat) ≠ 18 by decide), up_at, up_at, if_pos (by omega), if_pos (by omega)]; exact ⟨rfl, rfl⟩
           · rw [List.length_append] at p2; rw [up_ne (show (17 : Nat) ≠ 18 by decide), up_at, up_at, if_neg (by omega), if_neg (by omega), up_ne (show (18 : Nat) ≠ 17 by decide)]; exact ⟨rfl, rfl⟩)
      · refine k_aload_n C dX11_melts_138 rfl rfl ?_
        refine k_sipush C dX11_melts_139 (by decide) ?_
        refine k_bipush C dX11_melts_142 (by decide) ?_
        refine k_iload C dX11_melts_144 rfl ?_
        refine k_imul C dX11_melts_146 ?_
        refine k_iadd C dX11_melts_147 ?_
        refine k_iload C dX11_melts_148 rfl ?_
        refine k_iadd C dX11_melts_150 ?_
        refine k_iload C dX11_melts_151 rfl ?_
        refine k_callV C okX11_173 dX11_melts_153 (c_M_sets14 bl N (by omega) (722 + 8 * lo + c) (ch (8 * hi + c)) (by omega) (by omega)) rfl rfl (by decide) rfl (by decide) rfl (Nat.le_of_ble_eq_true rfl) (fun r153 M153 hr153 hp153 => ?_)
        rw [show 722 + 8 * lo + c - 722 = 8 * lo + c by omega] at hp153
        subst hp153
        refine k_goto C (tgt := 189) dX11_melts_156 rfl ?_
        refine k_iinc C dX11_melts_189 (by decide) rfl ?_
        refine k_goto C (tgt := 92) dX11_melts_192 rfl ?_
        refine k_cut2 C (lv' := [(0, _), (1, _), (2, _), (3, _), (4, _), (5, _), (6, _)]) ⟨rfl, rfl, rfl, rfl, rfl, rfl, rfl, trivial⟩ ?_
        first
        | (have z0 : ch (8 * hi + c) = -1 := by omega
           have ps := pshI_s0 (lo := lo) hc.1 (Or.inl z0)
           refine m_mel8 bl M x y C m hm it ch lo hi st h0 hch (by rw [List.length_append]; exact hst) N q (c + 1) n (by omega) (by rw [ps, List.length_append]; exact hn) hF hU e13 (by rw [jn_s0 hc.1 (Or.inl z0)]; exact e14) (by rw [ps]; exact hS) (by omega) hq2 kk)
        | (have z0 : ch (8 * lo + c) = -1 := by omega
           have ps := pshI_s0 (hi := hi) hc.1 (Or.inr z0)
           obtain ⟨f0, f1, f2, f3, f4⟩ := s14_f (N := N) (x := 8 * lo + c) (v := ch (8 * hi + c))
           have e20 : s14 N (8 * lo + c) (ch (8 * hi + c)) 0 20 = N 0 20 + 1 := by rw [f1, if_pos rfl]
           refine m_mel8 bl M x y C m hm it ch lo hi st h0 hch (by rw [List.length_append]; exact hst) _ q (c + 1) n (by omega) (by rw [ps, List.length_append]; exact hn) hF.s14 (UR_14 hU (by omega) (by omega) (by omega)) (by rw [f0 13 (by decide) (by decide) (by decide) (by decide)]; exact e13) (by funext i; rw [f2, jn_s2 hc.1 z0, e14]) (by rw [ps, f0 17 (by decide) (by decide) (by decide) (by decide), f0 18 (by decide) (by decide) (by decide) (by decide)]; exact hS) (by omega) hq2 kk)
        | (refine m_mel8 bl M x y C m hm it ch lo hi st h0 hch (by rw [List.length_append]; exact hst) _ q (c + 1) (n + 1) (by omega) (by rw [List.length_append]; omega) hF.w hU.w (by rw [up_ne (by decide), up_ne (by decide)]; exact e13) (by rw [up_ne (by decide), up_ne (by decide), jn_s0 hc.1 (Or.inr (by omega))]; exact e14) ?_ (by rw [up_ne (by decide), up_ne (by decide)]; omega) hq2 kk
           rw [ps, List.cons_append]
           refine ⟨Or.inr ?_, StR_up (fun i p1 p2 => ?_) hS⟩
           · rw [List.length_append, up_ne (show (17 : Nat) ≠ 18 by decide), up_at, up_at, if_pos (by omega), if_pos (by omega)]; exact ⟨rfl, rfl⟩
           · rw [List.length_append] at p2; rw [up_ne (show (17 : Nat) ≠ 18 by decide), up_at, up_at, if_neg (by omega), if_neg (by omega), up_ne (show (18 : Nat) ≠ 17 by decide)]; exact ⟨rfl, rfl⟩)
    · refine k_goto C (tgt := 189) dX11_melts_119 rfl ?_
      refine k_iinc C dX11_melts_189 (by decide) rfl ?_
      refine k_goto C (tgt := 92) dX11_melts_192 rfl ?_
      refine k_cut2 C (lv' := [(0, _), (1, _), (2, _), (3, _), (4, _), (5, _), (6, _)]) ⟨rfl, rfl, rfl, rfl, rfl, rfl, rfl, trivial⟩ ?_
      first
      | (have z0 : ch (8 * hi + c) = -1 := by omega
         have ps := pshI_s0 (lo := lo) hc.1 (Or.inl z0)
         refine m_mel8 bl M x y C m hm it ch lo hi st h0 hch (by rw [List.length_append]; exact hst) N q (c + 1) n (by omega) (by rw [ps, List.length_append]; exact hn) hF hU e13 (by rw [jn_s0 hc.1 (Or.inl z0)]; exact e14) (by rw [ps]; exact hS) (by omega) hq2 kk)
      | (have z0 : ch (8 * lo + c) = -1 := by omega
         have ps := pshI_s0 (hi := hi) hc.1 (Or.inr z0)
         obtain ⟨f0, f1, f2, f3, f4⟩ := s14_f (N := N) (x := 8 * lo + c) (v := ch (8 * hi + c))
         have e20 : s14 N (8 * lo + c) (ch (8 * hi + c)) 0 20 = N 0 20 + 1 := by rw [f1, if_pos rfl]
         refine m_mel8 bl M x y C m hm it ch lo hi st h0 hch (by rw [List.length_append]; exact hst) _ q (c + 1) n (by omega) (by rw [ps, List.length_append]; exact hn) hF.s14 (UR_14 hU (by omega) (by omega) (by omega)) (by rw [f0 13 (by decide) (by decide) (by decide) (by decide)]; exact e13) (by funext i; rw [f2, jn_s2 hc.1 z0, e14]) (by rw [ps, f0 17 (by decide) (by decide) (by decide) (by decide), f0 18 (by decide) (by decide) (by decide) (by decide)]; exact hS) (by omega) hq2 kk)
      | (refine m_mel8 bl M x y C m hm it ch lo hi st h0 hch (by rw [List.length_append]; exact hst) _ q (c + 1) (n + 1) (by omega) (by rw [List.length_append]; omega) hF.w hU.w (by rw [up_ne (by decide), up_ne (by decide)]; exact e13) (by rw [up_ne (by decide), up_ne (by decide), jn_s0 hc.1 (Or.inr (by omega))]; exact e14) ?_ (by rw [up_ne (by decide), up_ne (by decide)]; omega) hq2 kk
         rw [ps, List.cons_append]
         refine ⟨Or.inr ?_, StR_up (fun i p1 p2 => ?_) hS⟩
         · rw [List.length_append, up_ne (show (17 : Nat) ≠ 18 by decide), up_at, up_at, if_pos (by omega), if_pos (by omega)]; exact ⟨rfl, rfl⟩
         · rw [List.length_append] at p2; rw [up_ne (show (17 : Nat) ≠ 18 by decide), up_at, up_at, if_neg (by omega), if_neg (by omega), up_ne (show (18 : Nat) ≠ 17 by decide)]; exact ⟨rfl, rfl⟩)
termination_by (8 - c).toNat
decreasing_by all_goals omega
set_option maxHeartbeats 4000000 in
set_option maxRecDepth 100000 in
theorem m_mel {K : Kt} (bl : Nat) (M : Mem) (x y : Int) (C : Ctx (shM bl) nM RX11 cX11_melts 8 none (lvl 1) (fun _ M' => MeR M M' x y) K) (m : Int) (hm : m ≤ 721) (f : Nat) (st : List (Int × Int)) (N : Mem) (n : Int) (hn : n = (st.length : Int)) (hI : MI m (N 13) (N 14) st (721 - f)) (hF : MF M N) (hU : UR M N) (hS : StR (N 17) (N 18) st) (hq : N 0 20 ≤ 9 * (721 - f)) (hr : mst f (N 13) (N 14) st = mst 721 (M 13) (M 14) [(x, y)]) : K 21 [(0, .inr 0), (1, .inl x), (2, .inl y), (3, .inl n)] [] N := by
  have eg : 0 ≤ Eg m (N 13) (N 14) := by
    unfold Eg
    by_cases m0 : 0 ≤ 8 * m
    · exact (cnI_rg _ m0).1
    · unfold cnI; rw [show (8 * m).toNat = 0 by omega]; exact Int.le_refl _
  have h4 := hI.2.2.2
  have hu0 := hU.1
  cases st with
  | nil =>
    refine k_iload_n C dX11_melts_21 rfl rfl ?_
    refine k_if_le C (tgt := 198) dX11_melts_22 rfl (by omega) (fun c22 => ?_) (fun c22 => ?_)
    · exact k_vret C dX11_melts_198 (fun _ => ⟨hF, hU, by rw [← hr, mst_nil], by rw [← hr, mst_nil], by omega⟩)
    · exfalso; rw [List.length_nil] at hn; omega
  | cons p st' =>
    obtain ⟨u, v⟩ := p
    rw [List.length_cons] at h4 hn
    cases f with
    | zero => exfalso; omega
    | succ f =>
      have g := hI.2.2.1 (u, v) (List.mem_cons_self ..)
      have g1 := g.1; have g2 := g.2
      have hS1 := hS.1
      have hn1 : n - 1 = (st'.length : Int) := by omega
      rw [← hn1] at hS1
      have ga : 0 ≤ N 17 (n - 1) ∧ N 17 (n - 1) < m := by rcases hS1 with z | z; rw [z.1]; exact g1; rw [z.1]; exact g2
      have gb : 0 ≤ N 18 (n - 1) ∧ N 18 (n - 1) < m := by rcases hS1 with z | z; rw [z.2]; exact g2; rw [z.2]; exact g1
      have ra := rt_ok hI.1 ga.1 ga.2
      have rb := rt_ok hI.1 gb.1 gb.2
      have iP : ∀ l h, (rt (N 13) (N 17 (n - 1)) = l ∧ rt (N 13) (N 18 (n - 1)) = h) ∨ (rt (N 13) (N 17 (n - 1)) = h ∧ rt (N 13) (N 18 (n - 1)) = l) → isP (N 13) u v l h := by
        intro l h z
        unfold isP
        rcases hS1 with w | w
        · rw [w.1, w.2] at z; exact z
        · rw [w.1, w.2] at z; rcases z with z | z; exact Or.inr ⟨z.2, z.1⟩; exact Or.inl ⟨z.2, z.1⟩
      have key : ∀ lo hi, isP (N 13) u v lo hi → lo < hi → K 92 [(0, .inr 0), (1, .inl x), (2, .inl y), (3, .inl (n - 1)), (4, .inl lo), (5, .inl hi), (6, .inl 0)] [] (s13 N hi lo) := by
        intro lo hi hp hl
        obtain ⟨q1, q2, q3, q4⟩ := isP_ok hI.1 g1 g2 hp hl
        have I2 := MI_ne hI hp hl
        have eg2 : 0 ≤ Eg m (updI (N 13) hi lo) (jn (N 14) lo hi 8) := by unfold Eg; exact (cnI_rg _ (by omega)).1
        have I4 := I2.2.2.2
        obtain ⟨f0, f1, f2, f3, f4⟩ := s13_f (N := N) (x := hi) (v := lo)
        have e13 : s13 N hi lo 13 = updI (N 13) hi lo := by funext i; rw [f2]; rfl
        have e20 : s13 N hi lo 0 20 = N 0 20 + 1 := by rw [f1, if_pos rfl]
        refine m_mel8 bl M x y C m hm (N 13) (N 14) lo hi st' ⟨q1, hl, q2⟩ hI.2.1 (by omega) (s13 N hi lo) (9 * (720 - f)) 0 (n - 1) (by omega) hn1 hF.s13 (UR_13 hU (by omega) q4 hl) e13 (by rw [jn_0]; exact f0 14 (by decide) (by decide) (by decide) (by decide)) (by rw [f0 17 (by decide) (by decide) (by decide) (by decide), f0 18 (by decide) (by decide) (by decide) (by decide)]; exact hS.2) (by omega) (by omega) (fun N2 n2 z1 z2 z3 z4 z5 z6 z7 => ?_)
        refine m_mel bl M x y C m hm f _ N2 n2 z7 ?_ z1 z2 z5 (by omega) ?_
        · rw [z3, z4]; rw [show (721 - ((f + 1 : Nat) : Int)) + 1 = 721 - (f : Int) by omega] at I2; exact I2
        · rw [z3, z4, ← hr, mst_ne hp hl]
      refine k_iload_n C dX11_melts_21 rfl rfl ?_
      refine k_if_le C (tgt := 198) dX11_melts_22 rfl (by omega) (fun c22 => ?_) (fun c22 => ?_)
      · exfalso; omega
      · refine k_iinc C dX11_melts_25 (by decide) rfl ?_
        rw [show n + -1 = n - 1 by omega]
        refine k_aload_n C dX11_melts_28 rfl rfl ?_
        refine k_aload_n C dX11_melts_29 rfl rfl ?_
        refine k_getR C (j := 21) okC11 rfl (by decide) (by decide) rfl flX11_59 dX11_melts_30 ?_
        refine k_iload_n C dX11_melts_33 rfl rfl ?_
        refine k_iaload C rfl (by decide) (by decide) ⟨by omega, by omega⟩ dX11_melts_34 (fun ld34 => ?_)
        refine k_callV C okX11_170 dX11_melts_35 (c_M_leastOf bl N m (by omega) hI.1 (N 17 (n - 1)) ga) rfl rfl (by decide) rfl (by decide) rfl (Nat.le_of_ble_eq_true rfl) (fun r35 M35 hr35 hp35 => ?_)
        obtain ⟨rfl, rfl⟩ := hp35
        refine k_istore C dX11_melts_38 (by decide) ?_
        refine k_aload_n C dX11_melts_40 rfl rfl ?_
        refine k_aload_n C dX11_melts_41 rfl rfl ?_
        refine k_getR C (j := 22) okC11 rfl (by decide) (by decide) rfl flX11_62 dX11_melts_42 ?_
        refine k_iload_n C dX11_melts_45 rfl rfl ?_
        refine k_iaload C rfl (by decide) (by decide) ⟨by omega, by omega⟩ dX11_melts_46 (fun ld46 => ?_)
        refine k_callV C okX11_170 dX11_melts_47 (c_M_leastOf bl N m (by omega) hI.1 (N 18 (n - 1)) gb) rfl rfl (by decide) rfl (by decide) rfl (Nat.le_of_ble_eq_true rfl) (fun r47 M47 hr47 hp47 => ?_)
        obtain ⟨rfl, rfl⟩ := hp47
        refine k_istore C dX11_melts_50 (by decide) ?_
        refine k_iload C dX11_melts_52 rfl ?_
        refine k_iload C dX11_melts_54 rfl ?_
        refine k_icmp_ne C (tgt := 62) dX11_melts_56 rfl (by omega) (by omega) (fun c56 => ?_) (fun c56 => ?_)
        · refine k_iload C dX11_melts_62 rfl ?_
          refine k_iload C dX11_melts_64 rfl ?_
          refine k_icmp_le C (tgt := 81) dX11_melts_66 rfl (by omega) (by omega) (fun c66 => ?_) (fun c66 => ?_)
          · refine k_aload_n C dX11_melts_81 rfl rfl ?_
            refine k_iload C dX11_melts_82 rfl ?_
            refine k_iload C dX11_melts_84 rfl ?_
            refine k_callV C okX11_173 dX11_melts_86 (c_M_sets13 bl N (by omega) _ _ (by omega) (by omega)) rfl rfl (by decide) rfl (by decide) rfl (Nat.le_of_ble_eq_true rfl) (fun r86 M86 hr86 hp86 => ?_)
            subst hp86
            refine k_iconst C dX11_melts_89 ?_
            refine k_istore C dX11_melts_90 (by decide) ?_
            refine k_cut2 C (lv' := [(0, _), (1, _), (2, _), (3, _), (4, _), (5, _), (6, _)]) ⟨rfl, rfl, rfl, rfl, rfl, rfl, rfl, trivial⟩ ?_
            first | exact key _ _ (iP _ _ (Or.inl ⟨rfl, rfl⟩)) (by omega) | exact key _ _ (iP _ _ (Or.inr ⟨rfl, rfl⟩)) (by omega)
          · refine k_iload C dX11_melts_69 rfl ?_
            refine k_istore C dX11_melts_71 (by decide) ?_
            refine k_iload C dX11_melts_73 rfl ?_
            refine k_istore C dX11_melts_75 (by decide) ?_
            refine k_iload C dX11_melts_77 rfl ?_
            refine k_istore C dX11_melts_79 (by decide) ?_
            refine k_aload_n C dX11_melts_81 rfl rfl ?_
            refine k_iload C dX11_melts_82 rfl ?_
            refine k_iload C dX11_melts_84 rfl ?_
            refine k_callV C okX11_173 dX11_melts_86 (c_M_sets13 bl N (by omega) _ _ (by omega) (by omega)) rfl rfl (by decide) rfl (by decide) rfl (Nat.le_of_ble_eq_true rfl) (fun r86 M86 hr86 hp86 => ?_)
            subst hp86
            refine k_iconst C dX11_melts_89 ?_
            refine k_istore C dX11_melts_90 (by decide) ?_
            refine k_cut2 C (lv' := [(0, _), (1, _), (2, _), (3, _), (4, _), (5, _), (6, _)]) ⟨rfl, rfl, rfl, rfl, rfl, rfl, rfl, trivial⟩ ?_
            first | exact key _ _ (iP _ _ (Or.inl ⟨rfl, rfl⟩)) (by omega) | exact key _ _ (iP _ _ (Or.inr ⟨rfl, rfl⟩)) (by omega)
        · refine k_goto C (tgt := 21) dX11_melts_59 rfl ?_
          refine k_cut2 C (lv' := [(0, _), (1, _), (2, _), (3, _)]) ⟨rfl, rfl, rfl, rfl, trivial⟩ ?_
          have ee : rt (N 13) u = rt (N 13) v := by rcases hS1 with w | w; (rw [w.1, w.2] at c56; exact c56); (rw [w.1, w.2] at c56; exact c56.symm)
          refine m_mel bl M x y C m hm f st' N (n - 1) hn1 (by have := MI_eq hI; rw [show (721 - ((f + 1 : Nat) : Int)) + 1 = 721 - (f : Int) by omega] at this; exact this) hF hU hS.2 (by omega) (by rw [← hr, mst_eq ee])
termination_by f
set_option maxHeartbeats 4000000 in
set_option maxRecDepth 100000 in
theorem c_M_melts (bl : Nat) (M : Mem) (m : Int) (hm : m ≤ 721) (x y : Int) (hI : MI m (M 13) (M 14) [(x, y)] 0) : Ct (shM bl) nM yX11_melts cX11_melts 8 none (lvl 1) [.inr 0, .inl x, .inl y] M (fun _ M' => MeR M M' x y) := by
  refine Ct_of (by decide +kernel) (Nat.le_of_ble_eq_true rfl) (fun K C => ?_)
  have g := hI.2.2.1 (x, y) (List.mem_cons_self ..)
  have g1 := g.1; have g2 := g.2
  simp only at g1 g2
  refine k_aload_n C dX11_melts_0 rfl rfl ?_
  refine k_iconst C dX11_melts_1 ?_
  refine k_putJ C 20 20 rfl okC11 rfl (by decide) (by decide) rfl rfl rfl (by omega) flX11_167 dX11_melts_2 ?_
  refine k_aload_n C dX11_melts_5 rfl rfl ?_
  refine k_getR C (j := 21) okC11 rfl (by decide) (by decide) rfl flX11_59 dX11_melts_6 ?_
  refine k_iconst C dX11_melts_9 ?_
  refine k_iload_n C dX11_melts_10 rfl rfl ?_
  refine k_iastore C rfl (by decide) (by decide) ⟨by omega, by omega⟩ (by omega) dX11_melts_11 ?_
  refine k_aload_n C dX11_melts_12 rfl rfl ?_
  refine k_getR C (j := 22) okC11 rfl (by decide) (by decide) rfl flX11_62 dX11_melts_13 ?_
  refine k_iconst C dX11_melts_16 ?_
  refine k_iload_n C dX11_melts_17 rfl rfl ?_
  refine k_iastore C rfl (by decide) (by decide) ⟨by omega, by omega⟩ (by omega) dX11_melts_18 ?_
  refine k_iconst C dX11_melts_19 ?_
  refine k_istore_n C dX11_melts_20 rfl (by decide) ?_
  refine k_cut2 C (lv' := [(0, _), (1, _), (2, _), (3, _)]) ⟨rfl, rfl, rfl, rfl, trivial⟩ ?_
  have e (j : Nat) (a : j ≠ 0 ∧ j ≠ 17 ∧ j ≠ 18) : up (up (up M 0 20 0) 17 0 x) 18 0 y j = M j := by rw [up_ne a.2.2, up_ne a.2.1, up_ne a.1]
  have e20 : up (up (up M 0 20 0) 17 0 x) 18 0 y 0 20 = 0 := by rw [up_ne (by decide), up_ne (by decide), up_same]
  refine m_mel bl M x y C m hm 721 [(x, y)] _ 1 rfl (by rw [e 13 (by decide), e 14 (by decide)]; exact hI) ⟨fun j a b c d e2 f g => e j ⟨a, f, g⟩, fun i hi => by rw [up_ne (by decide), up_ne (by decide), up_at, if_neg hi]⟩ ⟨by rw [e20]; omega, fun e2 p q => by rw [e20] at q; omega, fun z => Or.inl (by rw [e 13 (by decide)]), fun i => Or.inl (by rw [e 14 (by decide)])⟩ ⟨Or.inl ⟨by rw [up_ne (show (17 : Nat) ≠ 18 by decide)]; exact up_same, up_same⟩, trivial⟩ (by rw [e20]; omega) (by rw [e 13 (by decide), e 14 (by decide)])
