/-! UsageDesk$Holder: writeBreak, findBreak; hold -/
def LA (f : Int → Int) : Int → List Int → Prop
  | _, [] => True
  | i, c :: w => f i = c ∧ LA f (i + 1) w
/-- an array that holds a word, its first letter first -/
def WR (f : Int → Int) : List Int → Prop
  | [] => True
  | c :: w => f (w.length : Int) = c ∧ WR f w
theorem LA_turn {f f' : Int → Int} : ∀ (w : List Int) (i : Int), LA f i w → (∀ j, 0 ≤ j → j < (w.length : Int) → f' ((w.length : Int) - 1 - j) = f (i + j)) → WR f' w
  | [], _, _, _ => trivial
  | c :: w, i, h, g => by
    rw [List.length_cons] at g
    have g0 := g 0 (by omega) (by omega)
    rw [show ((w.length + 1 : Nat) : Int) - 1 - 0 = (w.length : Int) by omega, show i + 0 = i by omega] at g0
    refine ⟨by rw [g0]; exact h.1, LA_turn w (i + 1) h.2 (fun j a b => ?_)⟩
    have := g (j + 1) (by omega) (by omega)
    rw [show ((w.length + 1 : Nat) : Int) - 1 - (j + 1) = (w.length : Int) - 1 - j by omega, show i + (j + 1) = i + 1 + j by omega] at this
    exact this
def FF (M N : Mem) : Prop := (∀ j, j ≠ 45 → j ≠ 46 → N j = M j) ∧ ∀ i, i ≠ 1 → N 45 i = M 45 i
set_option maxHeartbeats 4000000 in
set_option maxRecDepth 100000 in
theorem l_wbr {K : Kt} (B : Mem) (W : Int → List Int) (g c : Int) (hg : 0 ≤ g ∧ g < B 39 9 ∧ g < 6030) (hc : 0 ≤ c ∧ c < 8) (hB : GrpB (B 39 9) g c (B 43) (B 44) W) (h0 : B 45 1 = 0) (C : Ctx shC nC RX3 cX3_writeBreak 5 none (lvl 1) (fun _ M' => FF B M' ∧ M' 45 1 = ((c :: W g).length : Int) ∧ WR (M' 46) (c :: W g)) K) (N : Mem) (hF : FF B N) (at1 t : Int) (ha : 0 ≤ at1 ∧ at1 ≤ g) (ht : 0 ≤ t ∧ t + (W at1).length ≤ (W g).length) (hz : N 45 1 + (W at1).length = (W g).length + 1 ∧ 1 ≤ N 45 1) (hI : ∀ f : Int → Int, (∀ i, 0 ≤ i → i < N 45 1 → f i = N 46 i) → LA f (N 45 1) (W at1) → LA f 0 (c :: W g)) : K 14 [(0, .inr 39), (1, .inl g), (2, .inl c), (3, .inl at1), (4, .inl t)] [] N := by
  have wg := W_len hB (g.toNat + 1) g (by omega) hg.1 hg.2.1
  have n43 := hF.1 43 (by decide) (by decide)
  have n44 := hF.1 44 (by decide) (by decide)
  have n39 := hF.1 39 (by decide) (by decide)
  have wa := W_len hB (at1.toNat + 1) at1 (by omega) ha.1 (by omega)
  refine k_iload C dX3_writeBreak_14 rfl ?_
  refine k_sipush C dX3_writeBreak_16 (by decide) ?_
  refine k_icmp_ge C (tgt := 60) dX3_writeBreak_19 rfl (by omega) (by omega) (fun c19 => ?_) (fun c19 => ?_)
  · refine k_aload_n C dX3_writeBreak_60 rfl rfl ?_
    refine k_getR C (j := 7) okC3 rfl (by decide) (by decide) rfl flX3_33 dX3_writeBreak_61 ?_
    refine k_callV C okX3_106 dX3_writeBreak_64 (c_Line_turn 45 46 6031 rfl (by decide) rfl (by decide) (by decide) N (by omega)) rfl rfl (by decide) rfl (by decide) rfl (Nat.le_of_ble_eq_true rfl) (fun r64 M64 hr64 hp64 => ?_)
    exact k_vret C dX3_writeBreak_67 (fun _ => by
      first
      | (exfalso; omega)
      | (have e0 : at1 = 0 := by omega
         subst e0
         rw [hB.1] at hz hI
         rw [List.length_nil] at hz
         have la := hI (N 46) (fun _ _ _ => rfl) trivial
         have e1 : M64 45 = N 45 := hp64.1 45 (by decide)
         refine ⟨⟨fun j a b => by rw [hp64.1 j b]; exact hF.1 j a b, fun i hi => by rw [e1]; exact hF.2 i hi⟩, by rw [e1, List.length_cons]; omega, LA_turn _ 0 la (fun j a b => ?_)⟩
         rw [List.length_cons] at b ⊢
         rw [hp64.2 _ (by omega) (by omega)]
         congr 1
         omega))
  · refine k_iload_n C dX3_writeBreak_22 rfl rfl ?_
    refine k_if_le C (tgt := 60) dX3_writeBreak_23 rfl (by omega) (fun c23 => ?_) (fun c23 => ?_)
    · refine k_aload_n C dX3_writeBreak_60 rfl rfl ?_
      refine k_getR C (j := 7) okC3 rfl (by decide) (by decide) rfl flX3_33 dX3_writeBreak_61 ?_
      refine k_callV C okX3_106 dX3_writeBreak_64 (c_Line_turn 45 46 6031 rfl (by decide) rfl (by decide) (by decide) N (by omega)) rfl rfl (by decide) rfl (by decide) rfl (Nat.le_of_ble_eq_true rfl) (fun r64 M64 hr64 hp64 => ?_)
      exact k_vret C dX3_writeBreak_67 (fun _ => by
      first
      | (exfalso; omega)
      | (have e0 : at1 = 0 := by omega
         subst e0
         rw [hB.1] at hz hI
         rw [List.length_nil] at hz
         have la := hI (N 46) (fun _ _ _ => rfl) trivial
         have e1 : M64 45 = N 45 := hp64.1 45 (by decide)
         refine ⟨⟨fun j a b => by rw [hp64.1 j b]; exact hF.1 j a b, fun i hi => by rw [e1]; exact hF.2 i hi⟩, by rw [e1, List.length_cons]; omega, LA_turn _ 0 la (fun j a b => ?_)⟩
         rw [List.length_cons] at b ⊢
         rw [hp64.2 _ (by omega) (by omega)]
         congr 1
         omega))
    · refine k_iload_n C dX3_writeBreak_26 rfl rfl ?_
      refine k_sipush C dX3_writeBreak_27 (by decide) ?_
      refine k_icmp_ge C (tgt := 60) dX3_writeBreak_30 rfl (by omega) (by omega) (fun c30 => ?_) (fun c30 => ?_)
      · refine k_aload_n C dX3_writeBreak_60 rfl rfl ?_
        refine k_getR C (j := 7) okC3 rfl (by decide) (by decide) rfl flX3_33 dX3_writeBreak_61 ?_
        refine k_callV C okX3_106 dX3_writeBreak_64 (c_Line_turn 45 46 6031 rfl (by decide) rfl (by decide) (by decide) N (by omega)) rfl rfl (by decide) rfl (by decide) rfl (Nat.le_of_ble_eq_true rfl) (fun r64 M64 hr64 hp64 => ?_)
        exact k_vret C dX3_writeBreak_67 (fun _ => by
      first
      | (exfalso; omega)
      | (have e0 : at1 = 0 := by omega
         subst e0
         rw [hB.1] at hz hI
         rw [List.length_nil] at hz
         have la := hI (N 46) (fun _ _ _ => rfl) trivial
         have e1 : M64 45 = N 45 := hp64.1 45 (by decide)
         refine ⟨⟨fun j a b => by rw [hp64.1 j b]; exact hF.1 j a b, fun i hi => by rw [e1]; exact hF.2 i hi⟩, by rw [e1, List.length_cons]; omega, LA_turn _ 0 la (fun j a b => ?_)⟩
         rw [List.length_cons] at b ⊢
         rw [hp64.2 _ (by omega) (by omega)]
         congr 1
         omega))
      · obtain ⟨k1, k2, k3, k4, k5, k6⟩ := hB.2.1 at1 (by omega) (by omega)
        have k5l : (W at1).length = (W (B 43 at1)).length + 1 := by rw [k5, List.length_cons]
        refine k_aload_n C dX3_writeBreak_33 rfl rfl ?_
        refine k_getR C (j := 7) okC3 rfl (by decide) (by decide) rfl flX3_33 dX3_writeBreak_34 ?_
        refine k_aload_n C dX3_writeBreak_37 rfl rfl ?_
        refine k_getR C (j := 6) okC3 rfl (by decide) (by decide) rfl flX3_25 dX3_writeBreak_38 ?_
        refine k_iload_n C dX3_writeBreak_41 rfl rfl ?_
        refine k_iaload C rfl (by decide) (by decide) ⟨by omega, by omega⟩ dX3_writeBreak_42 (fun ld42 => ?_)
        rw [n44] at ld42 ⊢
        refine k_callV C okX3_102 dX3_writeBreak_43 (c_Line_append 45 46 6031 rfl (by decide) rfl (by decide) (by decide) N (B 44 at1) (by omega)) rfl rfl (by decide) rfl (by decide) rfl (Nat.le_of_ble_eq_true rfl) (fun r43 M43 hr43 hp43 => ?_)
        rw [if_pos (by omega)] at hp43
        refine k_pop C dX3_writeBreak_46 ?_
        refine k_aload_n C dX3_writeBreak_47 rfl rfl ?_
        refine k_getR C (j := 5) okC3 rfl (by decide) (by decide) rfl flX3_22 dX3_writeBreak_48 ?_
        refine k_iload_n C dX3_writeBreak_51 rfl rfl ?_
        refine k_iaload C rfl (by decide) (by decide) ⟨by omega, by omega⟩ dX3_writeBreak_52 (fun ld52 => ?_)
        rw [show M43 43 = B 43 by rw [hp43.2, up_ne (by decide), up_ne (by decide)]; exact n43] at ld52 ⊢
        refine k_istore_n C dX3_writeBreak_53 rfl (by decide) ?_
        refine k_iinc C dX3_writeBreak_54 (by decide) rfl ?_
        refine k_goto C (tgt := 14) dX3_writeBreak_57 rfl ?_
        refine k_cut2 C (lv' := [(0, _), (1, _), (2, _), (3, _), (4, _)]) ⟨rfl, rfl, rfl, rfl, rfl, trivial⟩ ?_
        have z1 : M43 45 1 = N 45 1 + 1 := by rw [hp43.2, up_same]
        have z2 : ∀ i, M43 46 i = if i = N 45 1 then B 44 at1 else N 46 i := fun i => by rw [hp43.2, up_ne (show (46 : Nat) ≠ 45 by decide), up_at]
        have F2 : FF B M43 := ⟨fun j a b => by rw [hp43.2, up_ne a, up_ne b]; exact hF.1 j a b, fun i hi => by rw [hp43.2, up_at, if_neg hi, up_ne (by decide)]; exact hF.2 i hi⟩
        refine l_wbr B W g c hg hc hB h0 C M43 F2 (B 43 at1) (t + 1) (by omega) (by omega) (by omega) (fun f p q => hI f (fun i a b => by rw [p i a (by omega), z2, if_neg (by omega)]) ?_)
        rw [k5]
        rw [z1] at q
        exact ⟨by rw [p (N 45 1) (by omega) (by omega), z2, if_pos rfl], q⟩
termination_by at1.toNat
decreasing_by all_goals omega
set_option maxHeartbeats 4000000 in
set_option maxRecDepth 100000 in
theorem c_writeBreak (B : Mem) (W : Int → List Int) (g c : Int) (hg : 0 ≤ g ∧ g < B 39 9 ∧ g < 6030) (hc : 0 ≤ c ∧ c < 8) (hB : GrpB (B 39 9) g c (B 43) (B 44) W) (h0 : B 45 1 = 0) : Ct shC nC yX3_writeBreak cX3_writeBreak 5 none (lvl 1) [.inr 39, .inl g, .inl c] B (fun _ M' => FF B M' ∧ M' 45 1 = ((c :: W g).length : Int) ∧ WR (M' 46) (c :: W g)) := by
  refine Ct_of (by decide +kernel) (Nat.le_of_ble_eq_true rfl) (fun K C => ?_)
  have wg := W_len hB (g.toNat + 1) g (by omega) hg.1 hg.2.1
  refine k_aload_n C dX3_writeBreak_0 rfl rfl ?_
  refine k_getR C (j := 7) okC3 rfl (by decide) (by decide) rfl flX3_33 dX3_writeBreak_1 ?_
  refine k_iload_n C dX3_writeBreak_4 rfl rfl ?_
  refine k_callV C okX3_102 dX3_writeBreak_5 (c_Line_append 45 46 6031 rfl (by decide) rfl (by decide) (by decide) B c (by omega)) rfl rfl (by decide) rfl (by decide) rfl (Nat.le_of_ble_eq_true rfl) (fun r5 M5 hr5 hp5 => ?_)
  rw [if_pos (by omega)] at hp5
  refine k_pop C dX3_writeBreak_8 ?_
  refine k_iload_n C dX3_writeBreak_9 rfl rfl ?_
  refine k_istore_n C dX3_writeBreak_10 rfl (by decide) ?_
  refine k_iconst C dX3_writeBreak_11 ?_
  refine k_istore C dX3_writeBreak_12 (by decide) ?_
  refine k_cut2 C (lv' := [(0, _), (1, _), (2, _), (3, _), (4, _)]) ⟨rfl, rfl, rfl, rfl, rfl, trivial⟩ ?_
  have z1 : M5 45 1 = 1 := by rw [hp5.2, up_same, h0]; rfl
  have z2 : M5 46 0 = c := by rw [hp5.2, up_ne (show (46 : Nat) ≠ 45 by decide), h0]; exact up_same
  exact l_wbr B W g c hg hc hB h0 C M5 ⟨fun j a b => by rw [hp5.2, up_ne a, up_ne b], fun i hi => by rw [hp5.2, up_at, if_neg hi, up_ne (by decide)]⟩ g 0 (by omega) (by omega) (by omega) (fun f p q => ⟨by rw [p 0 (by omega) (by omega)]; exact z2, by rw [z1] at q; exact q⟩)
def HF (B N : Mem) : Prop := (∀ j, j < 39 ∨ 46 < j → N j = B j)
/-- the search, ahead of group g and call c -/
def HI (B N : Mem) (W : Int → List Int) (g c : Int) : Prop := HF B N ∧ PIc N ∧ GrpA (N 39 9) (N 42) (N 39 8) ∧ GrpB (N 39 9) g c (N 43) (N 44) W ∧ GrpC (EpC B) (StC B) (B 24) (N 40) (N 42) (N 39 9) W ∧ GrpD (EpC B) (N 40) (N 42) (N 39 9) ∧ GrpE (StC B) (B 24) (N 40) (N 42) (N 43) (N 44) (N 39 9) g c ∧ N 40 0 = 0 ∧ N 45 1 = 0
theorem HF.e {B N : Mem} (h : HF B N) : TxC N = TxC B ∧ EpC N = EpC B ∧ StC N = StC B ∧ N 23 = B 23 ∧ N 24 = B 24 ∧ N 31 = B 31 := by
  have a := h 31 (by decide); have b := h 32 (by decide); have c := h 33 (by decide); have d := h 34 (by decide); have e := h 35 (by decide); have f := h 36 (by decide)
  unfold TxC EpC StC
  rw [a, b, c, d, e, f]; exact ⟨rfl, rfl, rfl, h 23 (by decide), h 24 (by decide), rfl⟩
theorem HI_n {B N : Mem} {W : Int → List Int} {g : Int} (h : HI B N W g 8) : HI B N W (g + 1) 0 := by
  obtain ⟨a, b, c, d, e, f, i, j, k⟩ := h
  refine ⟨a, b, c, ⟨d.1, fun k p q => ?_, d.2.2⟩, e, f, fun k x y z p q r s t => i k x y z p q r s (by omega), j, k⟩
  have := d.2.1 k p q
  exact ⟨this.1, this.2.1, this.2.2.1, this.2.2.2.1, this.2.2.2.2.1, by omega⟩
/-- nothing new is met -/
theorem HI_s {B N L : Mem} {W : Int → List Int} {g c : Int} {Q : Int → Prop} (h : HI B N W g c) (hg : 0 ≤ g ∧ g < N 39 9) (hc : 0 ≤ c ∧ c < 8) (hX : PX N L Q) (h8 : L 39 8 = N 39 8) (hr : ∀ i q, N 42 g ≤ i → i < N 42 (g + 1) → StC B (N 40 i / 30) c q → ¬ B 24 (8 * (N 40 i % 30) + c) = -1 ∧ InC L (30 * q + B 24 (8 * (N 40 i % 30) + c))) : HI B L W g (c + 1) := by
  obtain ⟨a, b, cc, d, e, f, i, j, k⟩ := h
  have l9 := hX.2.1 9 (by decide)
  have l42 := hX.1 42 (by decide) (by decide) (by decide)
  have l43 := hX.1 43 (by decide) (by decide) (by decide)
  have l44 := hX.1 44 (by decide) (by decide) (by decide)
  have l45 := hX.1 45 (by decide) (by decide) (by decide)
  have pre := hX.2.2.2.2.1
  have h0 := b.1
  have bd : ∀ x, 0 ≤ x → x < N 39 9 → 0 ≤ N 42 x ∧ N 42 (x + 1) ≤ N 39 8 := fun x p q => by
    have u1 := gs_le cc (Int.le_refl 0) p (by omega)
    have u2 := gs_le cc (by omega : 0 ≤ x + 1) (by omega) (Int.le_refl (N 39 9))
    rw [cc.2.1] at u1
    rw [cc.2.2.1] at u2
    omega
  have gin : ∀ e x, e ≤ N 39 8 → (GIn (N 40) e x → GIn (L 40) e x) := fun e x he ⟨y, y1, y2, y3⟩ => ⟨y, y1, y2, by rw [pre y y1 (by omega)]; exact y3⟩
  have ad : ∀ x, 0 ≤ x → x < N 39 9 → ∀ y, N 42 x ≤ y → y < N 42 (x + 1) → L 40 y = N 40 y := fun x p q y p' q' => by
    have := bd x p q
    exact pre y (by omega) (by omega)
  refine ⟨fun x hx => by rw [hX.1 x (by omega) (by omega) (by omega)]; exact a x hx, hX.2.2.1, by rw [l9, l42, h8]; exact cc, ?_, ?_, ?_, ?_, by rw [pre 0 (by omega) (by have := bd 0 (by omega) (by have := cc.1; omega); have := cc.2.2.2 0 (by omega) (by have := cc.1; omega); rw [cc.2.1] at this; omega)]; exact j, by rw [l45]; exact k⟩
  · rw [l9, l43, l44]
    refine ⟨d.1, fun k p q => ?_, d.2.2⟩
    have := d.2.1 k p q
    exact ⟨this.1, this.2.1, this.2.2.1, this.2.2.2.1, this.2.2.2.2.1, by omega⟩
  · rw [l9, l42]
    intro x y p q p' q'
    rw [ad x p q y p' q']; exact e x y p q p' q'
  · rw [l9, l42]
    intro x y z p q p' q' hz
    rw [ad x p q y p' q'] at hz ⊢
    exact gin _ _ (bd x p q).2 (f x y z p q p' q' hz)
  · rw [l9, l42, l43, l44]
    intro x dd y z p q p1 q1 o p' q' hz
    rw [ad x p q y p' q'] at hz ⊢
    by_cases eo : x = g ∧ dd = c
    · obtain ⟨rfl, rfl⟩ := eo
      obtain ⟨r1, u, u1, u2, u3⟩ := hr y z p' q' hz
      refine ⟨r1, ?_⟩
      rw [h8] at u2
      obtain ⟨l, v1, v2, v3, v4⟩ := grp_of cc (N 39 9).toNat (N 39 9) (by have := cc.1; omega) (Int.le_refl _) u u1 (by rw [cc.2.2.1]; exact u2)
      refine ⟨l, u, v1, v2, v3, v4, u3, ?_⟩
      by_cases l0 : l = 0
      · exact Or.inl l0
      · have := (d.2.1 l (by omega) v2).2.2.2.2.2
        right; omega
    · obtain ⟨r1, l, u, v1, v2, v3, v4, v5, v6⟩ := i x dd y z p q p1 q1 (by omega) p' q' hz
      exact ⟨r1, l, u, v1, v2, v3, v4, by rw [ad l v1 v2 u v3 v4]; exact v5, v6⟩
/-- a new group -/
theorem HI_g {B N L L2 N2 : Mem} {W : Int → List Int} {g c : Int} (hT : TxC B) (h : HI B N W g c) (hg : 0 ≤ g ∧ g < N 39 9) (hc : 0 ≤ c ∧ c < 8)
    (hX : PX N L (fun x => ∃ i q, N 42 g ≤ i ∧ i < N 42 (g + 1) ∧ StC B (N 40 i / 30) c q ∧ ¬ B 24 (8 * (N 40 i % 30) + c) = -1 ∧ x = 30 * q + B 24 (8 * (N 40 i % 30) + c))) (hN : NxOk (B 23 2) (B 24)) (hgi : ∀ i, N 42 g ≤ i → i < N 42 (g + 1) → N 40 i % 30 < B 23 2)
    (hr : ∀ i q, N 42 g ≤ i → i < N 42 (g + 1) → StC B (N 40 i / 30) c q → ¬ B 24 (8 * (N 40 i % 30) + c) = -1 ∧ InC L (30 * q + B 24 (8 * (N 40 i % 30) + c)))
    (hlt : N 39 8 < L 39 8) (hX2 : PX L L2 (EqQ L (N 39 8) (L 39 8))) (hcl : ∀ i q, N 39 8 ≤ i → i < L2 39 8 → EpC B (L2 40 i / 30) q → InC L2 (30 * q + L2 40 i % 30)) (hEL : EpC L = EpC B)
    (o : ∀ j, j ≠ 39 → j ≠ 42 → j ≠ 43 → j ≠ 44 → N2 j = L2 j) (o39 : ∀ i, N2 39 i = if i = 9 then N 39 9 + 1 else L2 39 i) (o42 : ∀ i, N2 42 i = if i = N 39 9 + 1 then L2 39 8 else if i = N 39 9 then N 39 8 else L2 42 i) (o43 : ∀ i, N2 43 i = if i = N 39 9 then g else L2 43 i) (o44 : ∀ i, N2 44 i = if i = N 39 9 then c else L2 44 i) : HI B N2 (fun k => if k = N 39 9 then c :: W g else W k) g (c + 1) := by
  obtain ⟨a, b, cc, d, e, f, i, j, k⟩ := h
  have g1 := cc.1
  have h0 := b.1
  have m8 := hX2.2.2.2.1
  have pre2 := hX2.2.2.2.2.1
  have pre1 := hX.2.2.2.2.1
  have p40 : ∀ x, 0 ≤ x → x < N 39 8 → N2 40 x = N 40 x := fun x p q => by rw [o 40 (by decide) (by decide) (by decide) (by decide), pre2 x p (by omega), pre1 x p q]
  have q40 : ∀ x, N2 40 x = L2 40 x := fun x => by rw [o 40 (by decide) (by decide) (by decide) (by decide)]
  have e9 : N2 39 9 = N 39 9 + 1 := by rw [o39, if_pos rfl]
  have e8 : N2 39 8 = L2 39 8 := by rw [o39, if_neg (by decide)]
  have l42 : L2 42 = N 42 := by rw [hX2.1 42 (by decide) (by decide) (by decide), hX.1 42 (by decide) (by decide) (by decide)]
  have l43 : L2 43 = N 43 := by rw [hX2.1 43 (by decide) (by decide) (by decide), hX.1 43 (by decide) (by decide) (by decide)]
  have l44 : L2 44 = N 44 := by rw [hX2.1 44 (by decide) (by decide) (by decide), hX.1 44 (by decide) (by decide) (by decide)]
  rw [l42] at o42
  rw [l43] at o43
  rw [l44] at o44
  have s42 : ∀ x, x ≤ N 39 9 → N2 42 x = N 42 x := fun x hx => by
    rw [o42, if_neg (by omega)]
    by_cases z : x = N 39 9
    · rw [if_pos z, z, cc.2.2.1]
    · rw [if_neg z]
  have t42 : N2 42 (N 39 9 + 1) = L2 39 8 := by rw [o42, if_pos rfl]
  have bd : ∀ x, 0 ≤ x → x < N 39 9 → 0 ≤ N 42 x ∧ N 42 (x + 1) ≤ N 39 8 := fun x p q => by
    have u1 := gs_le cc (Int.le_refl 0) p (by omega)
    have u2 := gs_le cc (by omega : 0 ≤ x + 1) (by omega) (Int.le_refl (N 39 9))
    rw [cc.2.1] at u1
    rw [cc.2.2.1] at u2
    omega
  have ad : ∀ x, 0 ≤ x → x < N 39 9 → ∀ y, N 42 x ≤ y → y < N 42 (x + 1) → N2 40 y = N 40 y := fun x p q y p' q' => by
    have := bd x p q
    exact p40 y (by omega) (by omega)
  have i31 : N2 31 = L2 31 := o 31 (by decide) (by decide) (by decide) (by decide)
  have i41 : N2 41 = L2 41 := o 41 (by decide) (by decide) (by decide) (by decide)
  have i40 : N2 40 = L2 40 := o 40 (by decide) (by decide) (by decide) (by decide)
  have gG : N 42 (N 39 9) = N 39 8 := cc.2.2.1
  have newp : ∀ y, N 39 8 ≤ y → y < L2 39 8 → 0 ≤ N2 40 y ∧ N2 40 y % 30 = lst (B 24) (c :: W g) ∧ ¬ lst (B 24) (c :: W g) = -1 ∧ Pth (EpC B) (StC B) (c :: W g) (N2 40 y / 30) := by
    have base : ∀ y, N 39 8 ≤ y → y < L 39 8 → 0 ≤ L 40 y ∧ L 40 y % 30 = lst (B 24) (c :: W g) ∧ ¬ lst (B 24) (c :: W g) = -1 ∧ Pth (EpC B) (StC B) (c :: W g) (L 40 y / 30) := by
      intro y p q
      obtain ⟨u, v, u1, u2, u3, u4, u5⟩ := hX.2.2.2.2.2 y p q
      have ck := e g u hg.1 hg.2 u1 u2
      have nr := hN.2 (N 40 u % 30) c (by omega) (hgi u u1 u2) hc.1 hc.2
      have m30 := hN.1
      have sv := u3.2.2.2
      have sv1 := u3.1
      have le : lst (B 24) (c :: W g) = B 24 (8 * (N 40 u % 30) + c) := by rw [lst, if_neg ck.2.2.1, ck.2.1]
      rw [u5, le]
      refine ⟨by omega, by omega, u4, N 40 u / 30, v, ck.2.2.2, u3, ?_⟩
      rw [show (30 * v + B 24 (8 * (N 40 u % 30) + c)) / 30 = v by omega]; exact Ecl_r
    intro y p q
    rw [q40]
    by_cases z : y < L 39 8
    · rw [pre2 y (by omega) z]; exact base y p z
    · obtain ⟨u, u1, u2, u3, u4, u5⟩ := hX2.2.2.2.2.2 y (by omega) q
      have bu := base u u1 u2
      rw [hEL] at u3
      exact ⟨u5, by rw [u4]; exact bu.2.1, bu.2.2.1, Pth_e bu.2.2.2 u3⟩
  refine ⟨fun x hx => by rw [o x (by omega) (by omega) (by omega) (by omega), hX2.1 x (by omega) (by omega) (by omega), hX.1 x (by omega) (by omega) (by omega)]; exact a x hx, by unfold PIc; rw [i31, i41, i40, e8]; exact hX2.2.2.1, ?_, ?_, ?_, ?_, ?_, by rw [p40 0 (by omega) (by have := cc.2.2.2 0 (by omega) (by omega); have := bd 0 (by omega) (by omega); rw [cc.2.1] at *; omega)]; exact j, by rw [o 45 (by decide) (by decide) (by decide) (by decide), hX2.1 45 (by decide) (by decide) (by decide), hX.1 45 (by decide) (by decide) (by decide)]; exact k⟩
  · refine ⟨by omega, by rw [s42 0 (by omega)]; exact cc.2.1, by rw [e9, t42, e8], fun x p q => ?_⟩
    rw [e9] at q
    by_cases z : x = N 39 9
    · rw [z, t42, s42 _ (Int.le_refl _), gG]; omega
    · rw [s42 x (by omega), s42 (x + 1) (by omega)]; exact cc.2.2.2 x p (by omega)
  · refine ⟨by show (if (0 : Int) = N 39 9 then _ else W 0) = []; rw [if_neg (by omega)]; exact d.1, fun x p q => ?_, fun x y p q r => ?_⟩
    · rw [e9] at q
      rw [o43, o44]
      by_cases z : x = N 39 9
      · rw [if_pos z, if_pos z]
        refine ⟨hg.1, by omega, hc.1, hc.2, ?_, by omega⟩
        show (if x = N 39 9 then c :: W g else W x) = c :: (if g = N 39 9 then c :: W g else W g)
        rw [if_pos z, if_neg (by omega)]
      · rw [if_neg z, if_neg z]
        have := d.2.1 x p (by omega)
        refine ⟨this.1, this.2.1, this.2.2.1, this.2.2.2.1, ?_, by omega⟩
        show (if x = N 39 9 then c :: W g else W x) = N 44 x :: (if N 43 x = N 39 9 then c :: W g else W (N 43 x))
        rw [if_neg z, if_neg (by omega)]; exact this.2.2.2.2.1
    · rw [e9] at r
      rw [o43 x, o43 y, o44 x, o44 y, if_neg (show ¬ x = N 39 9 by omega), if_neg (show ¬ x = N 39 9 by omega)]
      have := (d.2.1 x p (by omega)).2.2.2.2.2
      by_cases z : y = N 39 9
      · rw [if_pos z, if_pos z]; exact this
      · rw [if_neg z, if_neg z]; exact d.2.2 x y p q (by omega)
  · intro x y p q p' q'
    rw [e9] at q
    by_cases z : x = N 39 9
    · subst z
      rw [s42 _ (Int.le_refl _), gG] at p'
      rw [t42] at q'
      simp only [if_true]
      exact newp y p' q'
    · rw [s42 x (by omega)] at p'
      rw [s42 (x + 1) (by omega)] at q'
      simp only [if_neg z]
      rw [ad x p (by omega) y p' q']; exact e x y p (by omega) p' q'
  · intro x y z p q p' q' hz
    rw [e9] at q
    by_cases zz : x = N 39 9
    · subst zz
      rw [s42 _ (Int.le_refl _), gG] at p'
      rw [t42] at q' ⊢
      rw [q40] at hz ⊢
      obtain ⟨u, u1, u2, u3⟩ := hcl y z p' q' hz
      exact ⟨u, u1, u2, by rw [q40]; exact u3⟩
    · rw [s42 x (by omega)] at p'
      rw [s42 (x + 1) (by omega)] at q' ⊢
      rw [ad x p (by omega) y p' q'] at hz ⊢
      obtain ⟨u, u1, u2, u3⟩ := f x y z p (by omega) p' q' hz
      exact ⟨u, u1, u2, by rw [p40 u u1 (by have := bd x p (by omega); omega)]; exact u3⟩
  · intro x dd y z p q p1 q1 oo p' q' hz
    rw [e9] at q
    have xG : x < N 39 9 := by omega
    rw [s42 x (by omega)] at p'
    rw [s42 (x + 1) (by omega)] at q'
    rw [ad x p xG y p' q'] at hz ⊢
    by_cases eo : x = g ∧ dd = c
    · obtain ⟨rfl, rfl⟩ := eo
      obtain ⟨r1, u, u1, u2, u3⟩ := hr y z p' q' hz
      refine ⟨r1, ?_⟩
      by_cases un : u < N 39 8
      · obtain ⟨l, v1, v2, v3, v4⟩ := grp_of cc (N 39 9).toNat (N 39 9) (by omega) (Int.le_refl _) u u1 (by rw [gG]; exact un)
        refine ⟨l, u, v1, by omega, by rw [s42 l (by omega)]; exact v3, by rw [s42 (l + 1) (by omega)]; exact v4, by rw [p40 u u1 un, ← pre1 u u1 un]; exact u3, ?_⟩
        by_cases l0 : l = 0
        · exact Or.inl l0
        · have := (d.2.1 l (by omega) v2).2.2.2.2.2
          rw [o43, o44, if_neg (by omega), if_neg (by omega)]
          right; omega
      · refine ⟨N 39 9, u, by omega, by omega, by rw [s42 _ (Int.le_refl _), gG]; omega, by rw [t42]; omega, by rw [q40, pre2 u u1 u2]; exact u3, ?_⟩
        rw [o43, o44, if_pos rfl, if_pos rfl]
        exact Or.inr (Or.inr ⟨rfl, Int.le_refl _⟩)
    · obtain ⟨r1, l, u, v1, v2, v3, v4, v5, v6⟩ := i x dd y z p xG p1 q1 (by omega) p' q' hz
      exact ⟨r1, l, u, v1, by omega, by rw [s42 l (by omega)]; exact v3, by rw [s42 (l + 1) (by omega)]; exact v4, by rw [ad l v1 v2 u v3 v4]; exact v5, by rw [o43, o44, if_neg (by omega), if_neg (by omega)]; exact v6⟩
def FbP (B N : Mem) : Prop := HF B N ∧ ((N 45 1 = 0 ∧ ∀ v, ¬ Brk (EpC B) (StC B) (B 24) v) ∨ ∃ w, BrkL (EpC B) (StC B) (B 24) w ∧ N 45 1 = (w.length : Int) ∧ N 45 1 ≤ 6031 ∧ WR (N 46) w)
set_option maxHeartbeats 4000000 in
set_option maxRecDepth 100000 in
theorem l_find2 {K : Kt} (B : Mem) (hT : TxC B) (hN : NxOk (B 23 2) (B 24)) (C : Ctx shC nC RX3 cX3_findBreak 3 none (lvl 4) (fun _ M' => FbP B M') K) (N : Mem) (W : Int → List Int) (g c : Int) (hg : 0 ≤ g ∧ g < N 39 9) (hc : 0 ≤ c ∧ c ≤ 8) (hI : HI B N W g c) (kk : ∀ N2 W2, HI B N2 W2 (g + 1) 0 → N 39 9 ≤ N2 39 9 → K 70 [(0, .inr 39), (1, .inl (g + 1))] [] N2) : K 87 [(0, .inr 39), (1, .inl g), (2, .inl c)] [] N := by
  have t1 := hT.1
  obtain ⟨e1, e2, e3, e23, e24, e31⟩ := hI.1.e
  have cap := PIv_cap hI.2.1 (by rw [e31]; exact t1.1)
  rw [e31] at cap
  have cc := hI.2.2.1
  have gl := gs_le cc hg.1 (show g ≤ g + 1 by omega) (by omega)
  have gl2 := gs_le cc (show 0 ≤ g + 1 by omega) (show g + 1 ≤ N 39 9 by omega) (Int.le_refl _)
  have gl0 := gs_le cc (Int.le_refl 0) hg.1 (by omega)
  have glG := gs_le cc (Int.le_refl 0) (show 0 ≤ N 39 9 by omega) (Int.le_refl _)
  rw [cc.2.2.1] at gl2 glG
  rw [cc.2.1] at gl0 glG
  have hgi : ∀ i, N 42 g ≤ i → i < N 42 (g + 1) → N 40 i % 30 < B 23 2 := fun i p q => by
    have ck := hI.2.2.2.2.1 g i hg.1 hg.2 p q
    have := lst_rg (Ep := EpC B) (fun p d q h => ⟨h.1.1, h.2.1.1, h.2.1.2⟩) hN (W g) _ ck.2.2.2
    omega
  refine k_iload_n C dX3_findBreak_87 rfl rfl ?_
  refine k_bipush C dX3_findBreak_88 (by decide) ?_
  refine k_icmp_ge C (tgt := 121) dX3_findBreak_90 rfl (by omega) (by omega) (fun c90 => ?_) (fun c90 => ?_)
  · refine k_iinc C dX3_findBreak_121 (by decide) rfl ?_
    refine k_goto C (tgt := 70) dX3_findBreak_124 rfl ?_
    refine k_cut2 C (lv' := [(0, _), (1, _)]) ⟨rfl, rfl, trivial⟩ ?_
    have e8 : c = 8 := by omega
    subst e8
    exact kk N W (HI_n hI) (Int.le_refl _)
  · refine k_aload_n C dX3_findBreak_93 rfl rfl ?_
    refine k_iload_n C dX3_findBreak_94 rfl rfl ?_
    refine k_iload_n C dX3_findBreak_95 rfl rfl ?_
    refine k_callV C okX3_65 dX3_findBreak_96 (c_breaks N (by rw [e1]; exact hT) hI.2.1 (by rw [e23, e24]; exact hN) g c (by omega) (by omega) (by omega) (by rw [e23]; exact hgi)) rfl rfl (by decide) rfl (by decide) rfl (Nat.le_of_ble_eq_true rfl) (fun r96 M96 hr96 hp96 => ?_)
    obtain ⟨X96, hp96⟩ := hp96
    rw [e3, e24] at X96 hp96
    have x9 := X96.2.1 9 (by decide)
    have x42 := X96.1 42 (by decide) (by decide) (by decide)
    have x43 := X96.1 43 (by decide) (by decide) (by decide)
    have x44 := X96.1 44 (by decide) (by decide) (by decide)
    have x45 := X96.1 45 (by decide) (by decide) (by decide)
    refine k_if_eq C (tgt := 109) dX3_findBreak_99 rfl (by omega) (fun c99 => ?_) (fun c99 => ?_)
    · refine k_aload_n C dX3_findBreak_109 rfl rfl ?_
      refine k_iload_n C dX3_findBreak_110 rfl rfl ?_
      refine k_iload_n C dX3_findBreak_111 rfl rfl ?_
      refine k_callV C okX3_62 dX3_findBreak_112 (c_close M96 (by rw [X96.tx.1, e1]; exact hT) X96.2.2.1 g c (N 39 8) (by rw [x9]; have := X96.2.2.2.1; omega) (by rw [x9, x42, if_neg (by omega), cc.2.2.1]) (by rw [x9]; have := X96.2.2.2.1; omega) (by omega) (by omega)) rfl rfl (by decide) rfl (by decide) rfl (Nat.le_of_ble_eq_true rfl) (fun r112 M112 hr112 hp112 => ?_)
      refine k_iinc C dX3_findBreak_115 (by decide) rfl ?_
      refine k_goto C (tgt := 87) dX3_findBreak_118 rfl ?_
      refine k_cut2 C (lv' := [(0, _), (1, _), (2, _)]) ⟨rfl, rfl, rfl, trivial⟩ ?_
      have hr : ∀ i q, N 42 g ≤ i → i < N 42 (g + 1) → StC B (N 40 i / 30) c q → ¬ B 24 (8 * (N 40 i % 30) + c) = -1 ∧ InC M96 (30 * q + B 24 (8 * (N 40 i % 30) + c)) := by rcases hp96 with z | z; (exfalso; omega); exact z.2
      rcases hp112 with ⟨z1, z2⟩ | ⟨z1, L2, z2, z3, z4⟩
      · rw [z2]
        exact l_find2 B hT hN C M96 W g (c + 1) (by rw [x9]; exact hg) (by omega) (HI_s hI hg (by omega) X96 z1.symm hr) (fun N2 W2 y1 y2 => kk N2 W2 y1 (by rw [x9] at y2; exact y2))
      · rw [x9] at z4
        have eE : EpC M96 = EpC B := by rw [X96.tx.2.1, e2]
        rw [eE] at z3
        have o39 : ∀ i, M112 39 i = if i = 9 then N 39 9 + 1 else L2 39 i := fun i => by rw [z4, up_ne (show (39 : Nat) ≠ 42 by decide), up_at, up_ne (show (39 : Nat) ≠ 44 by decide), up_ne (show (39 : Nat) ≠ 43 by decide), up_ne (show (39 : Nat) ≠ 42 by decide)]
        have o42 : ∀ i, M112 42 i = if i = N 39 9 + 1 then L2 39 8 else if i = N 39 9 then N 39 8 else L2 42 i := fun i => by rw [z4, up_at, up_ne (show (42 : Nat) ≠ 39 by decide), up_ne (show (42 : Nat) ≠ 44 by decide), up_ne (show (42 : Nat) ≠ 43 by decide), up_at]
        have o43 : ∀ i, M112 43 i = if i = N 39 9 then g else L2 43 i := fun i => by rw [z4, up_ne (show (43 : Nat) ≠ 42 by decide), up_ne (show (43 : Nat) ≠ 39 by decide), up_ne (show (43 : Nat) ≠ 44 by decide), up_at, up_ne (show (43 : Nat) ≠ 42 by decide)]
        have o44 : ∀ i, M112 44 i = if i = N 39 9 then c else L2 44 i := fun i => by rw [z4, up_ne (show (44 : Nat) ≠ 42 by decide), up_ne (show (44 : Nat) ≠ 39 by decide), up_at, up_ne (show (44 : Nat) ≠ 43 by decide), up_ne (show (44 : Nat) ≠ 42 by decide)]
        have oo : ∀ j, j ≠ 39 → j ≠ 42 → j ≠ 43 → j ≠ 44 → M112 j = L2 j := fun j p q r s => by rw [z4, up_ne q, up_ne p, up_ne s, up_ne r, up_ne q]
        have e9 : M112 39 9 = N 39 9 + 1 := by rw [o39, if_pos rfl]
        exact l_find2 B hT hN C M112 _ g (c + 1) (by omega) (by omega) (HI_g hT hI hg (by omega) X96 hN hgi hr z1 z2 z3 eE oo o39 o42 o43 o44) (fun N2 W2 y1 y2 => kk N2 W2 y1 (by omega))
    · refine k_aload_n C dX3_findBreak_102 rfl rfl ?_
      refine k_iload_n C dX3_findBreak_103 rfl rfl ?_
      refine k_iload_n C dX3_findBreak_104 rfl rfl ?_
      refine k_callV C okX3_69 dX3_findBreak_105 (c_writeBreak M96 W g c (by rw [x9]; omega) (by omega) (by rw [x9, x43, x44]; exact hI.2.2.2.1) (by rw [x45]; exact hI.2.2.2.2.2.2.2.2)) rfl rfl (by decide) rfl (by decide) rfl (Nat.le_of_ble_eq_true rfl) (fun r105 M105 hr105 hp105 => ?_)
      exact k_vret C dX3_findBreak_108 (fun _ => by
      rcases hp96 with ⟨z0, i, q, z1, z2, z3, z4⟩ | z
      · have bl := brk_first hI.2.2.1 hI.2.2.2.1 hI.2.2.2.2.1 hI.2.2.2.2.2.1 hI.2.2.2.2.2.2.1 hI.2.2.2.2.2.2.2.1 hg (fun p d q h => ⟨h.1.1, h.2.1.1, h.2.1.2⟩) hN ⟨z1, z2⟩ z3 z4
        have wl := W_len hI.2.2.2.1 (g.toNat + 1) g (by omega) hg.1 hg.2
        refine ⟨fun j hj => ?_, Or.inr ⟨c :: W g, bl, hp105.2.1, ?_, hp105.2.2⟩⟩
        · rw [hp105.1.1 j (by omega) (by omega), X96.1 j (by omega) (by omega) (by omega)]; exact hI.1 j hj
        · rw [hp105.2.1, List.length_cons]; omega
      · exfalso; omega)
termination_by (8 - c).toNat
decreasing_by all_goals omega
set_option maxHeartbeats 4000000 in
set_option maxRecDepth 100000 in
theorem l_find1 {K : Kt} (B : Mem) (hT : TxC B) (hN : NxOk (B 23 2) (B 24)) (C : Ctx shC nC RX3 cX3_findBreak 3 none (lvl 4) (fun _ M' => FbP B M') K) (N : Mem) (W : Int → List Int) (g : Int) (hg : 0 ≤ g ∧ g ≤ N 39 9) (hI : HI B N W g 0) : K 70 [(0, .inr 39), (1, .inl g)] [] N := by
  have t1 := hT.1
  obtain ⟨e1, e2, e3, e23, e24, e31⟩ := hI.1.e
  have cap := PIv_cap hI.2.1 (by rw [e31]; exact t1.1)
  rw [e31] at cap
  have cc := hI.2.2.1
  have glG := gs_le cc (Int.le_refl 0) (show 0 ≤ N 39 9 by omega) (Int.le_refl _)
  rw [cc.2.2.1, cc.2.1] at glG
  refine k_iload_n C dX3_findBreak_70 rfl rfl ?_
  refine k_aload_n C dX3_findBreak_71 rfl rfl ?_
  refine k_getJ C 9 9 rfl okC3 rfl (by decide) (by decide) rfl flX3_54 dX3_findBreak_72 (fun ld72 => ?_)
  refine k_icmp_ge C (tgt := 127) dX3_findBreak_75 rfl (by omega) (by omega) (fun c75 => ?_) (fun c75 => ?_)
  · exact k_vret C dX3_findBreak_127 (fun _ => by
      first
      | (exfalso; omega)
      | (have eg : g = N 39 9 := by omega
         subst eg
         exact ⟨hI.1, Or.inl ⟨hI.2.2.2.2.2.2.2.2, brk_none hI.2.2.1 hI.2.2.2.1 hI.2.2.2.2.1 hI.2.2.2.2.2.1 hI.2.2.2.2.2.2.1 hI.2.2.2.2.2.2.2.1 (fun p d q h => ⟨h.1.1, h.2.1.1, h.2.1.2⟩) hN⟩⟩))
  · refine k_iload_n C dX3_findBreak_78 rfl rfl ?_
    refine k_sipush C dX3_findBreak_79 (by decide) ?_
    refine k_icmp_ge C (tgt := 127) dX3_findBreak_82 rfl (by omega) (by omega) (fun c82 => ?_) (fun c82 => ?_)
    · exact k_vret C dX3_findBreak_127 (fun _ => by
      first
      | (exfalso; omega)
      | (have eg : g = N 39 9 := by omega
         subst eg
         exact ⟨hI.1, Or.inl ⟨hI.2.2.2.2.2.2.2.2, brk_none hI.2.2.1 hI.2.2.2.1 hI.2.2.2.2.1 hI.2.2.2.2.2.1 hI.2.2.2.2.2.2.1 hI.2.2.2.2.2.2.2.1 (fun p d q h => ⟨h.1.1, h.2.1.1, h.2.1.2⟩) hN⟩⟩))
    · refine k_iconst C dX3_findBreak_85 ?_
      refine k_istore_n C dX3_findBreak_86 rfl (by decide) ?_
      refine k_cut2 C (lv' := [(0, _), (1, _), (2, _)]) ⟨rfl, rfl, rfl, trivial⟩ ?_
      refine l_find2 B hT hN C N W g 0 (by omega) (by omega) hI (fun N2 W2 y1 y2 => ?_)
      have cap2 := PIv_cap y1.2.1 (by rw [y1.1.e.2.2.2.2.2]; exact t1.1)
      rw [y1.1.e.2.2.2.2.2] at cap2
      exact l_find1 B hT hN C N2 W2 (g + 1) (by omega) y1
termination_by (6031 - g).toNat
decreasing_by all_goals omega
set_option maxHeartbeats 4000000 in
set_option maxRecDepth 100000 in
theorem l_find0 {K : Kt} (B : Mem) (hT : TxC B) (hN : NxOk (B 23 2) (B 24)) (C : Ctx shC nC RX3 cX3_findBreak 3 none (lvl 4) (fun _ M' => FbP B M') K) (N : Mem) (hF : ∀ j, j ≠ 41 → N j = B j) (x : Int) (hx : 0 ≤ x ∧ x ≤ 30 * (B 31 7 + 1)) (hI : ∀ y, 0 ≤ y → y < x → N 41 y = 0) : K 2 [(0, .inr 39), (1, .inl x)] [] N := by
  have t1 := hT.1
  have e31 := hF 31 (by decide)
  refine k_iload_n C dX3_findBreak_2 rfl rfl ?_
  refine k_aload_n C dX3_findBreak_3 rfl rfl ?_
  refine k_getR C (j := 0) okC3 rfl (by decide) (by decide) rfl flX3_37 dX3_findBreak_4 ?_
  refine k_getJ C 7 7 rfl okC8 rfl (by decide) (by decide) rfl flX3_45 dX3_findBreak_7 (fun ld7 => ?_)
  rw [e31] at ld7 ⊢
  refine k_iconst C dX3_findBreak_10 ?_
  refine k_iadd C dX3_findBreak_11 ?_
  refine k_bipush C dX3_findBreak_12 (by decide) ?_
  refine k_imul C dX3_findBreak_14 ?_
  rw [show (B 31 7 + 1) * 30 = 30 * (B 31 7 + 1) by omega]
  refine k_icmp_ge C (tgt := 38) dX3_findBreak_15 rfl (by omega) (by omega) (fun c15 => ?_) (fun c15 => ?_)
  · refine k_aload_n C dX3_findBreak_38 rfl rfl ?_
    refine k_iconst C dX3_findBreak_39 ?_
    refine k_putJ C 8 8 rfl okC3 rfl (by decide) (by decide) rfl rfl rfl (by omega) flX3_51 dX3_findBreak_40 ?_
    refine k_aload_n C dX3_findBreak_43 rfl rfl ?_
    refine k_iconst C dX3_findBreak_44 ?_
    refine k_putJ C 9 9 rfl okC3 rfl (by decide) (by decide) rfl rfl rfl (by omega) flX3_54 dX3_findBreak_45 ?_
    refine k_aload_n C dX3_findBreak_48 rfl rfl ?_
    refine k_getR C (j := 7) okC3 rfl (by decide) (by decide) rfl flX3_33 dX3_findBreak_49 ?_
    refine k_iconst C dX3_findBreak_52 ?_
    refine k_putJ C 1 1 rfl okC5 rfl (by decide) (by decide) rfl rfl rfl (by omega) flX3_57 dX3_findBreak_53 ?_
    have o : ∀ j, j ≠ 39 → j ≠ 45 → up (up (up N 39 8 0) 39 9 0) 45 1 0 j = N j := fun j p q => by rw [up_ne q, up_ne p, up_ne p]
    have o8 : up (up (up N 39 8 0) 39 9 0) 45 1 0 39 8 = 0 := by rw [up_ne (by decide), up_at, if_neg (by decide)]; exact up_same
    have o9 : up (up (up N 39 8 0) 39 9 0) 45 1 0 39 9 = 0 := by rw [up_ne (by decide)]; exact up_same
    have o45 : up (up (up N 39 8 0) 39 9 0) 45 1 0 45 1 = 0 := up_same
    generalize up (up (up N 39 8 0) 39 9 0) 45 1 0 = L at *
    have hFL : HF B L := fun j hj => by rw [o j (by omega) (by omega)]; exact hF j (by omega)
    obtain ⟨f1, f2, f3, f23, f24, f31⟩ := hFL.e
    have P0 : PIc L := by
      unfold PIc
      rw [o8, f31]
      exact ⟨Int.le_refl _, fun i p q => by omega, fun y p q => Or.inl (by rw [o 41 (by decide) (by decide)]; exact hI y p (by omega)), fun i j p q r => by omega⟩
    refine k_aload_n C dX3_findBreak_56 rfl rfl ?_
    refine k_iconst C dX3_findBreak_57 ?_
    refine k_iconst C dX3_findBreak_58 ?_
    refine k_callV C okX3_58 dX3_findBreak_59 (c_meet L (by rw [f31]; exact t1) P0 0 0 (by rw [f31]; omega) (by omega)) rfl rfl (by decide) rfl (by decide) rfl (Nat.le_of_ble_eq_true rfl) (fun r59 M59 hr59 hp59 => ?_)
    have y9 : M59 39 9 = 0 := by rw [hp59.1.2.1 9 (by decide)]; exact o9
    refine k_aload_n C dX3_findBreak_62 rfl rfl ?_
    refine k_iconst C dX3_findBreak_63 ?_
    refine k_iconst C dX3_findBreak_64 ?_
    refine k_callV C okX3_62 dX3_findBreak_65 (c_close M59 (by rw [hp59.1.tx.1, f1]; exact hT) hp59.1.2.2.1 (-1) (-1) 0 (by rw [y9]; have := hp59.1.2.2.1.1; omega) (by rw [y9, if_pos rfl]) (by rw [y9]; have := hp59.1.2.2.1.1; omega) (by decide) (by decide)) rfl rfl (by decide) rfl (by decide) rfl (Nat.le_of_ble_eq_true rfl) (fun r65 M65 hr65 hp65 => ?_)
    refine k_iconst C dX3_findBreak_68 ?_
    refine k_istore_n C dX3_findBreak_69 rfl (by decide) ?_
    refine k_cut2 C (lv' := [(0, _), (1, _)]) ⟨rfl, rfl, trivial⟩ ?_
    first
    | (exfalso; omega)
    | (have pos : 0 < M59 39 8 := by obtain ⟨i, a, b, _⟩ := hp59.2; omega
       have all0 : ∀ i, 0 ≤ i → i < M59 39 8 → M59 40 i = 0 := fun i p q => by have := hp59.1.2.2.2.2.2 i (by omega) q; omega
       have eE : EpC M59 = EpC B := by rw [hp59.1.tx.2.1, f2]
       rcases hp65 with ⟨z1, z2⟩ | ⟨z1, L2, z2, z3, z4⟩
       · exfalso; omega
       · rw [y9] at z4
         rw [eE] at z3
         have o39 : ∀ i, M65 39 i = if i = 9 then 1 else L2 39 i := fun i => by rw [z4, up_ne (show (39 : Nat) ≠ 42 by decide), up_at, up_ne (show (39 : Nat) ≠ 44 by decide), up_ne (show (39 : Nat) ≠ 43 by decide), up_ne (show (39 : Nat) ≠ 42 by decide)]; rfl
         have o42 : ∀ i, M65 42 i = if i = 1 then L2 39 8 else if i = 0 then 0 else L2 42 i := fun i => by rw [z4, up_at, up_ne (show (42 : Nat) ≠ 39 by decide), up_ne (show (42 : Nat) ≠ 44 by decide), up_ne (show (42 : Nat) ≠ 43 by decide), up_at]; rfl
         have oo : ∀ j, j ≠ 39 → j ≠ 42 → j ≠ 43 → j ≠ 44 → M65 j = L2 j := fun j p q r s => by rw [z4, up_ne q, up_ne p, up_ne s, up_ne r, up_ne q]
         have e9 : M65 39 9 = 1 := by rw [o39, if_pos rfl]
         have e8 : M65 39 8 = L2 39 8 := by rw [o39, if_neg (by decide)]
         have m8 := z2.2.2.2.1
         have pre2 := z2.2.2.2.2.1
         have q40 : M65 40 = L2 40 := oo 40 (by decide) (by decide) (by decide) (by decide)
         have s0 : M65 42 0 = 0 := by rw [o42, if_neg (by decide), if_pos rfl]
         have s1 : M65 42 1 = L2 39 8 := by rw [o42, if_pos rfl]
         have fL : ∀ j, j < 39 ∨ 46 < j → M65 j = B j := fun j hj => by rw [oo j (by omega) (by omega) (by omega) (by omega), z2.1 j (by omega) (by omega) (by omega), hp59.1.1 j (by omega) (by omega) (by omega)]; exact hFL j hj
         refine l_find1 B hT hN C M65 (fun _ => []) 0 (by omega) ⟨fL, ?_, ⟨by omega, s0, by rw [e9, s1, e8], fun k p q => ?_⟩, ⟨rfl, fun k p q => by omega, fun j k p q r => by omega⟩, fun k i p q p' q' => ?_, fun k i y p q p' q' hy => ?_, fun k d i y p q p1 q1 o => by omega, by rw [q40, pre2 0 (by omega) pos]; exact all0 0 (by omega) pos, ?_⟩
         · unfold PIc
           rw [oo 31 (by decide) (by decide) (by decide) (by decide), oo 41 (by decide) (by decide) (by decide) (by decide), q40, e8]; exact z2.2.2.1
         · have : k = 0 := by omega
           subst this
           rw [s0, show (0 : Int) + 1 = 1 by omega, s1]; omega
         · have : k = 0 := by omega
           subst this
           rw [s0] at p'
           rw [show (0 : Int) + 1 = 1 by omega, s1] at q'
           rw [q40]
           show 0 ≤ L2 40 i ∧ L2 40 i % 30 = 0 ∧ ¬ (0 : Int) = -1 ∧ Ecl (EpC B) 0 (L2 40 i / 30)
           by_cases zi : i < M59 39 8
           · rw [pre2 i p' zi, all0 i p' zi]; exact ⟨by omega, by decide, by decide, Ecl_r⟩
           · obtain ⟨u, u1, u2, u3, u4, u5⟩ := z2.2.2.2.2.2 i (by omega) q'
             rw [all0 u u1 u2] at u3 u4
             rw [eE] at u3
             exact ⟨u5, u4, by decide, u3⟩
         · have : k = 0 := by omega
           subst this
           rw [s0] at p'
           rw [show (0 : Int) + 1 = 1 by omega, s1] at q' ⊢
           rw [q40] at hy ⊢
           exact z3 i y p' q' hy
         · rw [oo 45 (by decide) (by decide) (by decide) (by decide), z2.1 45 (by decide) (by decide) (by decide), hp59.1.1 45 (by decide) (by decide) (by decide)]; exact o45)
  · refine k_iload_n C dX3_findBreak_18 rfl rfl ?_
    refine k_sipush C dX3_findBreak_19 (by decide) ?_
    refine k_icmp_ge C (tgt := 38) dX3_findBreak_22 rfl (by omega) (by omega) (fun c22 => ?_) (fun c22 => ?_)
    · refine k_aload_n C dX3_findBreak_38 rfl rfl ?_
      refine k_iconst C dX3_findBreak_39 ?_
      refine k_putJ C 8 8 rfl okC3 rfl (by decide) (by decide) rfl rfl rfl (by omega) flX3_51 dX3_findBreak_40 ?_
      refine k_aload_n C dX3_findBreak_43 rfl rfl ?_
      refine k_iconst C dX3_findBreak_44 ?_
      refine k_putJ C 9 9 rfl okC3 rfl (by decide) (by decide) rfl rfl rfl (by omega) flX3_54 dX3_findBreak_45 ?_
      refine k_aload_n C dX3_findBreak_48 rfl rfl ?_
      refine k_getR C (j := 7) okC3 rfl (by decide) (by decide) rfl flX3_33 dX3_findBreak_49 ?_
      refine k_iconst C dX3_findBreak_52 ?_
      refine k_putJ C 1 1 rfl okC5 rfl (by decide) (by decide) rfl rfl rfl (by omega) flX3_57 dX3_findBreak_53 ?_
      have o : ∀ j, j ≠ 39 → j ≠ 45 → up (up (up N 39 8 0) 39 9 0) 45 1 0 j = N j := fun j p q => by rw [up_ne q, up_ne p, up_ne p]
      have o8 : up (up (up N 39 8 0) 39 9 0) 45 1 0 39 8 = 0 := by rw [up_ne (by decide), up_at, if_neg (by decide)]; exact up_same
      have o9 : up (up (up N 39 8 0) 39 9 0) 45 1 0 39 9 = 0 := by rw [up_ne (by decide)]; exact up_same
      have o45 : up (up (up N 39 8 0) 39 9 0) 45 1 0 45 1 = 0 := up_same
      generalize up (up (up N 39 8 0) 39 9 0) 45 1 0 = L at *
      have hFL : HF B L := fun j hj => by rw [o j (by omega) (by omega)]; exact hF j (by omega)
      obtain ⟨f1, f2, f3, f23, f24, f31⟩ := hFL.e
      have P0 : PIc L := by
        unfold PIc
        rw [o8, f31]
        exact ⟨Int.le_refl _, fun i p q => by omega, fun y p q => Or.inl (by rw [o 41 (by decide) (by decide)]; exact hI y p (by omega)), fun i j p q r => by omega⟩
      refine k_aload_n C dX3_findBreak_56 rfl rfl ?_
      refine k_iconst C dX3_findBreak_57 ?_
      refine k_iconst C dX3_findBreak_58 ?_
      refine k_callV C okX3_58 dX3_findBreak_59 (c_meet L (by rw [f31]; exact t1) P0 0 0 (by rw [f31]; omega) (by omega)) rfl rfl (by decide) rfl (by decide) rfl (Nat.le_of_ble_eq_true rfl) (fun r59 M59 hr59 hp59 => ?_)
      have y9 : M59 39 9 = 0 := by rw [hp59.1.2.1 9 (by decide)]; exact o9
      refine k_aload_n C dX3_findBreak_62 rfl rfl ?_
      refine k_iconst C dX3_findBreak_63 ?_
      refine k_iconst C dX3_findBreak_64 ?_
      refine k_callV C okX3_62 dX3_findBreak_65 (c_close M59 (by rw [hp59.1.tx.1, f1]; exact hT) hp59.1.2.2.1 (-1) (-1) 0 (by rw [y9]; have := hp59.1.2.2.1.1; omega) (by rw [y9, if_pos rfl]) (by rw [y9]; have := hp59.1.2.2.1.1; omega) (by decide) (by decide)) rfl rfl (by decide) rfl (by decide) rfl (Nat.le_of_ble_eq_true rfl) (fun r65 M65 hr65 hp65 => ?_)
      refine k_iconst C dX3_findBreak_68 ?_
      refine k_istore_n C dX3_findBreak_69 rfl (by decide) ?_
      refine k_cut2 C (lv' := [(0, _), (1, _)]) ⟨rfl, rfl, trivial⟩ ?_
      first
      | (exfalso; omega)
      | (have pos : 0 < M59 39 8 := by obtain ⟨i, a, b, _⟩ := hp59.2; omega
         have all0 : ∀ i, 0 ≤ i → i < M59 39 8 → M59 40 i = 0 := fun i p q => by have := hp59.1.2.2.2.2.2 i (by omega) q; omega
         have eE : EpC M59 = EpC B := by rw [hp59.1.tx.2.1, f2]
         rcases hp65 with ⟨z1, z2⟩ | ⟨z1, L2, z2, z3, z4⟩
         · exfalso; omega
         · rw [y9] at z4
           rw [eE] at z3
           have o39 : ∀ i, M65 39 i = if i = 9 then 1 else L2 39 i := fun i => by rw [z4, up_ne (show (39 : Nat) ≠ 42 by decide), up_at, up_ne (show (39 : Nat) ≠ 44 by decide), up_ne (show (39 : Nat) ≠ 43 by decide), up_ne (show (39 : Nat) ≠ 42 by decide)]; rfl
           have o42 : ∀ i, M65 42 i = if i = 1 then L2 39 8 else if i = 0 then 0 else L2 42 i := fun i => by rw [z4, up_at, up_ne (show (42 : Nat) ≠ 39 by decide), up_ne (show (42 : Nat) ≠ 44 by decide), up_ne (show (42 : Nat) ≠ 43 by decide), up_at]; rfl
           have oo : ∀ j, j ≠ 39 → j ≠ 42 → j ≠ 43 → j ≠ 44 → M65 j = L2 j := fun j p q r s => by rw [z4, up_ne q, up_ne p, up_ne s, up_ne r, up_ne q]
           have e9 : M65 39 9 = 1 := by rw [o39, if_pos rfl]
           have e8 : M65 39 8 = L2 39 8 := by rw [o39, if_neg (by decide)]
           have m8 := z2.2.2.2.1
           have pre2 := z2.2.2.2.2.1
           have q40 : M65 40 = L2 40 := oo 40 (by decide) (by decide) (by decide) (by decide)
           have s0 : M65 42 0 = 0 := by rw [o42, if_neg (by decide), if_pos rfl]
           have s1 : M65 42 1 = L2 39 8 := by rw [o42, if_pos rfl]
           have fL : ∀ j, j < 39 ∨ 46 < j → M65 j = B j := fun j hj => by rw [oo j (by omega) (by omega) (by omega) (by omega), z2.1 j (by omega) (by omega) (by omega), hp59.1.1 j (by omega) (by omega) (by omega)]; exact hFL j hj
           refine l_find1 B hT hN C M65 (fun _ => []) 0 (by omega) ⟨fL, ?_, ⟨by omega, s0, by rw [e9, s1, e8], fun k p q => ?_⟩, ⟨rfl, fun k p q => by omega, fun j k p q r => by omega⟩, fun k i p q p' q' => ?_, fun k i y p q p' q' hy => ?_, fun k d i y p q p1 q1 o => by omega, by rw [q40, pre2 0 (by omega) pos]; exact all0 0 (by omega) pos, ?_⟩
           · unfold PIc
             rw [oo 31 (by decide) (by decide) (by decide) (by decide), oo 41 (by decide) (by decide) (by decide) (by decide), q40, e8]; exact z2.2.2.1
           · have : k = 0 := by omega
             subst this
             rw [s0, show (0 : Int) + 1 = 1 by omega, s1]; omega
           · have : k = 0 := by omega
             subst this
             rw [s0] at p'
             rw [show (0 : Int) + 1 = 1 by omega, s1] at q'
             rw [q40]
             show 0 ≤ L2 40 i ∧ L2 40 i % 30 = 0 ∧ ¬ (0 : Int) = -1 ∧ Ecl (EpC B) 0 (L2 40 i / 30)
             by_cases zi : i < M59 39 8
             · rw [pre2 i p' zi, all0 i p' zi]; exact ⟨by omega, by decide, by decide, Ecl_r⟩
             · obtain ⟨u, u1, u2, u3, u4, u5⟩ := z2.2.2.2.2.2 i (by omega) q'
               rw [all0 u u1 u2] at u3 u4
               rw [eE] at u3
               exact ⟨u5, u4, by decide, u3⟩
           · have : k = 0 := by omega
             subst this
             rw [s0] at p'
             rw [show (0 : Int) + 1 = 1 by omega, s1] at q' ⊢
             rw [q40] at hy ⊢
             exact z3 i y p' q' hy
           · rw [oo 45 (by decide) (by decide) (by decide) (by decide), z2.1 45 (by decide) (by decide) (by decide), hp59.1.1 45 (by decide) (by decide) (by decide)]; exact o45)
    · refine k_aload_n C dX3_findBreak_25 rfl rfl ?_
      refine k_getR C (j := 3) okC3 rfl (by decide) (by decide) rfl flX3_15 dX3_findBreak_26 ?_
      refine k_iload_n C dX3_findBreak_29 rfl rfl ?_
      refine k_iconst C dX3_findBreak_30 ?_
      refine k_zastore C rfl (by decide) (by decide) ⟨by omega, by omega⟩ (by omega) dX3_findBreak_31 ?_
      refine k_iinc C dX3_findBreak_32 (by decide) rfl ?_
      refine k_goto C (tgt := 2) dX3_findBreak_35 rfl ?_
      refine k_cut2 C (lv' := [(0, _), (1, _)]) ⟨rfl, rfl, trivial⟩ ?_
      refine l_find0 B hT hN C _ (fun j a => by rw [up_ne a]; exact hF j a) (x + 1) (by omega) (fun y p q => ?_)
      rw [up_at]
      by_cases z : y = x
      · rw [if_pos z]
      · rw [if_neg z]; exact hI y p (by omega)
termination_by (30 * (B 31 7 + 1) - x).toNat
decreasing_by all_goals omega
set_option maxHeartbeats 4000000 in
set_option maxRecDepth 100000 in
theorem c_find (B : Mem) (hT : TxC B) (hN : NxOk (B 23 2) (B 24)) : Ct shC nC yX3_findBreak cX3_findBreak 3 none (lvl 4) [.inr 39] B (fun _ M' => FbP B M') := by
  refine Ct_of (by decide +kernel) (Nat.le_of_ble_eq_true rfl) (fun K C => ?_)
  have t1 := hT.1
  refine k_iconst C dX3_findBreak_0 ?_
  refine k_istore_n C dX3_findBreak_1 rfl (by decide) ?_
  refine k_cut2 C (lv' := [(0, _), (1, _)]) ⟨rfl, rfl, trivial⟩ ?_
  exact l_find0 B hT hN C B (fun _ _ => rfl) 0 (by omega) (fun y p q => by omega)
set_option maxHeartbeats 4000000 in
set_option maxRecDepth 100000 in
theorem c_hold (B : Mem) (hT : TxC B) (hN : NxOk (B 23 2) (B 24)) : Ct shC nC yX10_hold cX10_hold 1 (some .int) (lvl 5) [.inr 0] B (fun r M' => FbP B M' ∧ r = M' 45 1) := by
  refine Ct_of (by decide +kernel) (Nat.le_of_ble_eq_true rfl) (fun K C => ?_)
  refine k_aload_n C dX10_hold_0 rfl rfl ?_
  refine k_getR C (j := 8) okC10 rfl (by decide) (by decide) rfl flX10_72 dX10_hold_1 ?_
  refine k_callV C okX10_196 dX10_hold_4 (c_find B hT hN) rfl rfl (by decide) rfl (by decide) rfl (Nat.le_of_ble_eq_true rfl) (fun r4 M4 hr4 hp4 => ?_)
  refine k_aload_n C dX10_hold_7 rfl rfl ?_
  refine k_getR C (j := 8) okC10 rfl (by decide) (by decide) rfl flX10_72 dX10_hold_8 ?_
  refine k_getR C (j := 7) okC3 rfl (by decide) (by decide) rfl flX10_199 dX10_hold_11 ?_
  refine k_getJ C 1 1 rfl okC5 rfl (by decide) (by decide) rfl flX10_106 dX10_hold_14 (fun ld14 => ?_)
  exact k_iret C dX10_hold_17 (by omega) (fun _ => ⟨hp4, rfl⟩)
