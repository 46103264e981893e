/-! THE REFERENCE: breaksOn -/
set_option maxHeartbeats 4000000 in
set_option maxRecDepth 100000 in
theorem c_M_breaksOn0 (bl : Nat) (N : Mem) (hbl : (bl : Int) < 1000000) (hm : 0 ≤ N 0 50 ∧ N 0 50 < bl) (c : Int) (hc : inR c) : Ct (shM bl) nM yX11_breaksOn cX11_breaksOn 4 none (lvl 0) [.inr 0, .inl c] N (fun _ M' => M' = up (up N 34 (N 0 50) c) 0 50 (N 0 50 + 1)) := by
  refine Ct_of (by decide +kernel) (Nat.le_of_ble_eq_true rfl) (fun K C => ?_)
  refine k_aload_n C dX11_breaksOn_0 rfl rfl ?_
  refine k_getJ C 50 50 rfl okC11 rfl (by decide) (by decide) rfl flX11_252 dX11_breaksOn_1 (fun ld1 => ?_)
  refine k_aload_n C dX11_breaksOn_4 rfl rfl ?_
  refine k_getR C (j := 49) okC11 rfl (by decide) (by decide) rfl flX11_111 dX11_breaksOn_5 ?_
  refine k_len C rfl (by decide) (by decide) dX11_breaksOn_8 (fun n8 hn8 => ?_)
  rw [hn8]
  refine k_icmp_ne C (tgt := 52) dX11_breaksOn_9 rfl (by omega) (by omega) (fun c9 => ?_) (fun c9 => ?_)
  · refine k_aload_n C dX11_breaksOn_52 rfl rfl ?_
    refine k_getR C (j := 49) okC11 rfl (by decide) (by decide) rfl flX11_111 dX11_breaksOn_53 ?_
    refine k_aload_n C dX11_breaksOn_56 rfl rfl ?_
    refine k_getJ C 50 50 rfl okC11 rfl (by decide) (by decide) rfl flX11_252 dX11_breaksOn_57 (fun ld57 => ?_)
    refine k_iload_n C dX11_breaksOn_60 rfl rfl ?_
    refine k_iastore C rfl (by decide) (by omega) ⟨by omega, by omega⟩ (by omega) dX11_breaksOn_61 ?_
    refine k_aload_n C dX11_breaksOn_62 rfl rfl ?_
    refine k_dup C dX11_breaksOn_63 ?_
    refine k_getJ C 50 50 rfl okC11 rfl (by decide) (by decide) rfl flX11_252 dX11_breaksOn_64 (fun ld64 => ?_)
    rw [up_ne (show (0 : Nat) ≠ 34 by decide)]
    refine k_iconst C dX11_breaksOn_67 ?_
    refine k_iadd C dX11_breaksOn_68 ?_
    refine k_putJ C 50 50 rfl okC11 rfl (by decide) (by decide) rfl rfl rfl (by omega) flX11_252 dX11_breaksOn_69 ?_
    exact k_vret C dX11_breaksOn_72 (fun _ => rfl)
  · exfalso; omega
set_option maxHeartbeats 4000000 in
set_option maxRecDepth 100000 in
theorem m_bkc {K : Kt} (bl : Nat) (B : Mem) (hbl : 1 ≤ bl ∧ (bl : Int) < 1000000) (hm : B 0 50 = bl) (c : Int) (hc : inR c) {R : Room} (C : CtxG (shG bl) 40 RX11 cX11_breaksOn 4 none R K) (N : Mem) (hN : ∀ j, j ≠ 39 → N j = B j) (k : Int) (hk : 0 ≤ k ∧ k ≤ bl) (hI : ∀ i, 0 ≤ i → i < k → N 39 i = B 34 i) (kk : ∀ N2, (∀ j, j ≠ 39 → N2 j = B j) → (∀ i, 0 ≤ i → i < (bl : Int) → N2 39 i = B 34 i) → K 47 [(0, .inr 0), (1, .inl c), (2, .inr 39)] [] N2) : K 24 [(0, .inr 0), (1, .inl c), (2, .inr 39), (3, .inl k)] [] N := by
  have n0 := hN 0 (by decide)
  have n34 := hN 34 (by decide)
  refine g_iload_n C dX11_breaksOn_24 rfl rfl ?_
  refine g_aload_n C dX11_breaksOn_25 rfl rfl ?_
  refine g_getJ C 50 50 rfl okC11 rfl (by decide) (by decide) rfl flX11_252 dX11_breaksOn_26 (fun ld26 => ?_)
  rw [n0, hm] at ld26 ⊢
  refine g_icmp_ge C (tgt := 47) dX11_breaksOn_29 rfl (by omega) (by omega) (fun c29 => ?_) (fun c29 => ?_)
  · refine g_cut2 C (lv' := [(0, _), (1, _), (2, _)]) ⟨rfl, rfl, rfl, trivial⟩ ?_
    exact kk N hN (fun i a b => hI i a (by omega))
  · refine g_aload_n C dX11_breaksOn_32 rfl rfl ?_
    refine g_iload_n C dX11_breaksOn_33 rfl rfl ?_
    refine g_aload_n C dX11_breaksOn_34 rfl rfl ?_
    refine g_getR C (j := 49) okC11 rfl (by decide) (by decide) rfl flX11_111 dX11_breaksOn_35 ?_
    refine g_iload_n C dX11_breaksOn_38 rfl rfl ?_
    refine g_iaload C rfl (by decide) (by omega) ⟨by omega, by omega⟩ dX11_breaksOn_39 (fun ld39 => ?_)
    rw [n34] at ld39 ⊢
    refine g_iastore C rfl (by decide) (by omega) ⟨by omega, by omega⟩ (by omega) dX11_breaksOn_40 ?_
    refine g_iinc C dX11_breaksOn_41 (by decide) rfl ?_
    refine g_goto C (tgt := 24) dX11_breaksOn_44 rfl ?_
    refine g_cut2 C (lv' := [(0, _), (1, _), (2, _), (3, _)]) ⟨rfl, rfl, rfl, rfl, trivial⟩ ?_
    refine m_bkc bl B hbl hm c hc C _ (fun j a => by rw [up_ne a]; exact hN j a) (k + 1) (by omega) (fun i a b => ?_) kk
    rw [up_at]
    by_cases z : i = k
    · rw [if_pos z, z]
    · rw [if_neg z]; exact hI i a (by omega)
termination_by ((bl : Int) - k).toNat
decreasing_by all_goals omega
def BoP (M N : Mem) (c : Int) : Prop := (∀ j, j < 39 → j ≠ 0 → j ≠ 34 → N j = M j) ∧ (∀ i, i ≠ 50 → N 0 i = M 0 i) ∧ N 0 50 = M 0 50 + 1 ∧ (∀ i, 0 ≤ i → i < M 0 50 → N 34 i = M 34 i) ∧ N 34 (M 0 50) = c
def qB (bl : Nat) (D : va_G) (cI cZ cB : ClassId) (A : Nat → Prop) (a0 : Nat) (P : Mem → Prop) : Array Value → State → Outcome → State → Prop := va_Qv (S := Mem × (Nat → Nat)) (fun u => P u.1 ∧ u.2 0 = a0) (fun u t => wd (shM (2 * bl)) 39 D cI cZ cB u.2 A u.1 t) A
def CtB (bl : Nat) (M : Mem) (c : Int) : Prop :=
  ∀ (l : Launch) (D : va_G) (cI cZ cB : ClassId) (ad : Nat → Nat) (sz : Nat), Met l yX11_breaksOn (.code yX11_breaksOn cX11_breaksOn 4 none :: tbg) { frames := 0, cells := 1, slots := 2 * bl, locals := 0 } (va_Pc ([.inr 0, .inl c].map (vv ad)) (fun U => U.heap.size = sz ∧ NS U ∧ wd (shM bl) 39 D cI cZ cB ad (fun _ => True) M U)) (qB bl D cI cZ cB (va_A (wsOf (shM bl) 39 cI cZ cB ad M) sz) (ad 0) (fun N => BoP M N c)) 1 (2 * bl) (va_A (wsOf (shM bl) 39 cI cZ cB ad M) sz)
theorem arr_int : Cond.arrayClass .int ∈ tbg := in_1 49 (by decide +kernel) rfl
set_option maxHeartbeats 4000000 in
set_option maxRecDepth 100000 in
theorem c_breaksB (bl : Nat) (M : Mem) (hbl : 1 ≤ bl ∧ (bl : Int) < 1000000) (hm : M 0 50 = bl) (c : Int) (hc : inR c) : CtB bl M c := by
  intro l D cI cZ cB ad sz
  refine Met.ofW (cc := cX11_breaksOn) (maxL := 4) (ret := none) (by decide +kernel) rfl ?_
  intro p e s m vs below meth cd s₁ B hml hv
  obtain ⟨rfl, hsz, hns, hM, hP, hK, hD0⟩ := hv
  have hts := atoms_spec (ws := .code yX11_breaksOn cX11_breaksOn 4 none :: tbg) B.pre
  have hown : s.vm.findClass yX11_breaksOn.cls = some m.cls := findClass_of_methodNamed B.named
  subst hsz
  have hA : ∀ q : Nat, s.heap.size ≤ q → va_A (wsOf (shM bl) 39 cI cZ cB ad M) s.heap.size q := fun q h => Or.inr h
  have hl := lv_entry ([.inr 0, .inl c].map (vv ad)) (n := 4) (by rw [ae_len]; show 2 ≤ 4; decide)
  rw [ae_args] at hl
  rw [lg_entry_eq]
  generalize hAA : va_A (wsOf (shM bl) 39 cI cZ cB ad M) s.heap.size = A at *
  have D1 : ∀ M', va_D A (wsOf (shM bl) 39 cI cZ cB ad M') := fun M' => by rw [← hAA]; exact wsOf_D hD0.self M'
  have F : FX p s m ([.inr 0, .inl c].map (vv ad)).toArray meth cd D cI cZ cB A RX11 cX11_breaksOn 4 none := ⟨⟨B.exec, B.bytes, hml, hown, fun w hw => hts w (List.mem_cons_of_mem _ hw)⟩, ⟨B.returns, B.notSynchronized, hns⟩, hK, hA⟩
  have key : KK (shM bl) 39 4 { frames := 0, cells := 1, slots := 2 * bl, locals := 0 } p l e s m ([.inr 0, .inl c].map (vv ad)).toArray below meth cd D cI cZ cB ad A 0 0 (MQ below (qB bl D cI cZ cB A (ad 0) (fun N => BoP M N c)) ([.inr 0, .inl c].map (vv ad)).toArray s (0 + 1) (0 + 2 * bl) A) 0 [(0, .inr 0), (1, .inl c)] [] M := by
    have C1 := F.g (l := l) (e := e) (below := below) (R := { frames := 0, cells := 1, slots := 2 * bl, locals := 0 }) (Q := MQ below (qB bl D cI cZ cB A (ad 0) (fun N => BoP M N c)) ([.inr 0, .inl c].map (vv ad)).toArray s (0 + 1) (0 + 2 * bl) A) D1 (ce := 0) (sn := 0) ⟨Nat.zero_le _, Nat.zero_le _⟩
    refine g_aload_n C1 dX11_breaksOn_0 rfl rfl ?_
    refine g_getJ C1 50 50 rfl okC11 rfl (by decide) (by decide) rfl flX11_252 dX11_breaksOn_1 (fun ld1 => ?_)
    refine g_aload_n C1 dX11_breaksOn_4 rfl rfl ?_
    refine g_getR C1 (j := 49) okC11 rfl (by decide) (by decide) rfl flX11_111 dX11_breaksOn_5 ?_
    refine g_len C1 rfl (by decide) (by decide) dX11_breaksOn_8 (fun n8 hn8 => ?_)
    rw [hn8]
    refine g_icmp_ne C1 (tgt := 52) dX11_breaksOn_9 rfl (by omega) (by omega) (fun c9 => ?_) (fun c9 => ?_)
    · exfalso; omega
    · refine g_iconst C1 dX11_breaksOn_12 ?_
      refine g_aload_n C1 dX11_breaksOn_13 rfl rfl ?_
      refine g_getR C1 (j := 49) okC11 rfl (by decide) (by decide) rfl flX11_111 dX11_breaksOn_14 ?_
      refine g_len C1 rfl (by decide) (by decide) dX11_breaksOn_17 (fun n17 hn17 => ?_)
      rw [hn17]
      refine g_imul C1 dX11_breaksOn_18 ?_
      have e2 : (2 : Int) * (bl : Int) = ((2 * bl : Nat) : Int) := by omega
      rw [e2]
      refine gx_new (sh := shM bl) (sh' := shG bl) (N := 39) (n := 2 * bl) F D1 (by omega) ⟨Nat.le_refl 1, by show 0 + 2 * bl ≤ 2 * bl; omega⟩ (shM_in bl) (fun k hk => by unfold shG; rw [if_neg (by omega)]) rfl arr_int (by
    intro x hx r hr
    rcases List.mem_cons.mp hx with rfl | hx
    · cases hr; decide
    · rcases List.mem_cons.mp hx with rfl | hx
      · cases hr
      · cases hx) dX11_breaksOn_19 (fun q D2 => ?_)
      have C2 := F.g (l := l) (e := e) (below := below) (R := { frames := 0, cells := 1, slots := 2 * bl, locals := 0 }) (Q := MQ below (qB bl D cI cZ cB A (ad 0) (fun N => BoP M N c)) ([.inr 0, .inl c].map (vv ad)).toArray s (0 + 1) (0 + 2 * bl) A) D2 (ce := 0 + 1) (sn := 0 + 2 * bl) ⟨Nat.le_refl 1, by show 0 + 2 * bl ≤ 2 * bl; omega⟩
      refine g_astore_n C2 dX11_breaksOn_21 rfl (by decide) ?_
      refine g_iconst C2 dX11_breaksOn_22 ?_
      refine g_istore_n C2 dX11_breaksOn_23 rfl (by decide) ?_
      refine g_cut2 C2 (lv' := [(0, _), (1, _), (2, _), (3, _)]) ⟨rfl, rfl, rfl, rfl, trivial⟩ ?_
      refine m_bkc bl (mN M 39) hbl (by show (if (0 : Nat) = 39 then (0 : Int) else M 0 50) = bl; rw [if_neg (by decide)]; exact hm) c hc C2 (mN M 39) (fun _ _ => rfl) 0 (by omega) (fun i a b => by omega) (fun N2 z1 z2 => ?_)
      refine g_aload_n C2 dX11_breaksOn_47 rfl rfl ?_
      refine g_aload_n C2 dX11_breaksOn_48 rfl rfl ?_
      refine g_cut2 C2 (lv' := [(0, _), (1, _)]) ⟨rfl, rfl, trivial⟩ ?_
      refine gx_put F D2 flX11_111 (by
    intro x hx r hr
    rcases List.mem_cons.mp hx with rfl | hx
    · cases hr; decide
    · rcases List.mem_cons.mp hx with rfl | hx
      · cases hr
      · cases hx) dX11_breaksOn_49 (fun D3 => ?_)
      have C3 := F.g (l := l) (e := e) (below := below) (R := { frames := 0, cells := 1, slots := 2 * bl, locals := 0 }) (Q := MQ below (qB bl D cI cZ cB A (ad 0) (fun N => BoP M N c)) ([.inr 0, .inl c].map (vv ad)).toArray s (0 + 1) (0 + 2 * bl) A) D3 (ce := 0 + 1) (sn := 0 + 2 * bl) ⟨Nat.le_refl 1, by show 0 + 2 * bl ≤ 2 * bl; omega⟩
      have b0 : ∀ i, mB N2 0 i = M 0 i := fun i => by
        show (if (0 : Nat) = 34 then N2 39 else N2 0) i = M 0 i
        rw [if_neg (by decide), z1 0 (by decide)]
        show (if (0 : Nat) = 39 then (0 : Int) else M 0 i) = M 0 i
        rw [if_neg (by decide)]
      have b34 : ∀ i, 0 ≤ i → i < (bl : Int) → mB N2 34 i = M 34 i := fun i a b => by
        show (if (34 : Nat) = 34 then N2 39 else N2 34) i = M 34 i
        rw [if_pos rfl, z2 i a b]
        show (if (34 : Nat) = 39 then (0 : Int) else M 34 i) = M 34 i
        rw [if_neg (by decide)]
      have bo : ∀ j, j < 39 → j ≠ 34 → mB N2 j = M j := fun j a b => by
        show (if j = 34 then N2 39 else N2 j) = M j
        rw [if_neg b, z1 j (by omega)]
        funext i
        show (if j = 39 then (0 : Int) else M j i) = M j i
        rw [if_neg (by omega)]
      have b50 := b0 50
      refine g_aload_n C3 dX11_breaksOn_52 rfl rfl ?_
      refine g_getR C3 (j := 49) okC11 rfl (by decide) (by decide) rfl flX11_111 dX11_breaksOn_53 ?_
      refine g_aload_n C3 dX11_breaksOn_56 rfl rfl ?_
      refine g_getJ C3 50 50 rfl okC11 rfl (by decide) (by decide) rfl flX11_252 dX11_breaksOn_57 (fun ld57 => ?_)
      refine g_iload_n C3 dX11_breaksOn_60 rfl rfl ?_
      refine g_iastore C3 rfl (by decide) (by omega) ⟨by omega, by omega⟩ (by omega) dX11_breaksOn_61 ?_
      refine g_aload_n C3 dX11_breaksOn_62 rfl rfl ?_
      refine g_dup C3 dX11_breaksOn_63 ?_
      refine g_getJ C3 50 50 rfl okC11 rfl (by decide) (by decide) rfl flX11_252 dX11_breaksOn_64 (fun ld64 => ?_)
      rw [up_ne (show (0 : Nat) ≠ 34 by decide)]
      refine g_iconst C3 dX11_breaksOn_67 ?_
      refine g_iadd C3 dX11_breaksOn_68 ?_
      refine g_putJ C3 50 50 rfl okC11 rfl (by decide) (by decide) rfl rfl rfl (by omega) flX11_252 dX11_breaksOn_69 ?_
      have bop : BoP M (up (up (mB N2) 34 (mB N2 0 50) c) 0 50 (mB N2 0 50 + 1)) c := ⟨fun j a b d => by rw [up_ne b, up_ne d]; exact bo j a d, fun i hi => by rw [up_at, if_neg hi, up_ne (by decide)]; exact b0 i, by rw [up_same, b50], fun i a b => by rw [up_ne (by decide), up_at, if_neg (by rw [b50]; omega)]; exact b34 i a (by omega), by rw [up_ne (by decide), b50]; exact up_same⟩
      intro hM4 H4 locs4 ls4 hP4 hS4 hl4
      exact W.vret F.1.1 F.1.2.1 F.2.1.1 (fun t ht hW => ⟨⟨(up (up (mB N2) 34 (mB N2 0 50) c) 0 50 (mB N2 0 50 + 1), ad3 (adN ad 39 q)), rfl, ⟨bop, rfl⟩, hM4, by rw [ht]; exact hP4, va_K.moved hW.alike F.2.2.1, D3 _⟩, hS4.F ht⟩) hS4.2.2 dX11_breaksOn_72 F.2.1.2.1
  have hl2 : lv_has _ 4 (lm ad [(0, .inr 0), (1, .inl c)]) := hl
  have w := key hM s.heap [] _ hP (by rw [← hAA]; exact va_S.rf) hl2
  rw [show 0 + 2 * bl = 2 * bl by omega] at w
  exact w
