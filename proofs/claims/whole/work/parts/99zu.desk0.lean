/-! CONSTRUCTORS: UsageDesk$Law, UsageDesk -/
set_option maxRecDepth 100000 in
theorem l_fillG {K : Kt} {sh : Nat → Sh} {N : Nat} (k n : Nat) (hsc : sh k = .inl (.int, n)) (hkc : k < N) (hnc : n < 2147483648) (M : Mem) (v : Int) (hv : inR v) (C : Ctx sh N RJ7 cJ7_fill_53178 4 none (lvl 0) (fun _ M' => M' = fillM M k n v) K) (i : Int) (hi : 0 ≤ i ∧ i ≤ n) : K 5 [(0, .inr k), (1, .inl v), (2, .inl i), (3, .inl (n : Int))] [] (fillM M k i v) := by
  refine k_iload_n C dJ7_fill_53178_5 rfl rfl ?_
  refine k_iload_n C dJ7_fill_53178_6 rfl rfl ?_
  refine k_icmp_ge C (tgt := 20) dJ7_fill_53178_7 rfl (by omega) (by omega) (fun c7 => ?_) (fun c7 => ?_)
  · exact k_vret C dJ7_fill_53178_20 (fun _ => by rw [show i = (n : Int) by omega])
  · refine k_aload_n C dJ7_fill_53178_10 rfl rfl ?_
    refine k_iload_n C dJ7_fill_53178_11 rfl rfl ?_
    refine k_iload_n C dJ7_fill_53178_12 rfl rfl ?_
    refine k_iastore C hsc hkc hnc ⟨by omega, by omega⟩ (by omega) dJ7_fill_53178_13 ?_
    refine k_iinc C dJ7_fill_53178_14 (by decide) rfl ?_
    refine k_goto C (tgt := 5) dJ7_fill_53178_17 rfl ?_
    refine k_cut2 C (lv' := [(0, _), (1, _), (2, _), (3, _)]) ⟨rfl, rfl, rfl, rfl, trivial⟩ ?_
    rw [fillM_s M k v hi.1]
    exact l_fillG k n hsc hkc hnc M v hv C (i + 1) (by omega)
termination_by ((n : Int) - i).toNat
decreasing_by all_goals omega
set_option maxRecDepth 100000 in
theorem c_fillG {sh : Nat → Sh} {N : Nat} (k n : Nat) (hsc : sh k = .inl (.int, n)) (hkc : k < N) (hnc : n < 2147483648) (M : Mem) (v : Int) (hv : inR v) : Ct sh N yJ7_fill_53178 cJ7_fill_53178 4 none (lvl 0) [.inr k, .inl v] M (fun _ M' => M' = fillM M k n v) := by
  refine Ct_of (by decide +kernel) (Nat.le_of_ble_eq_true rfl) (fun K C => ?_)
  refine k_iconst C dJ7_fill_53178_0 ?_
  refine k_istore_n C dJ7_fill_53178_1 rfl (by decide) ?_
  refine k_aload_n C dJ7_fill_53178_2 rfl rfl ?_
  refine k_len C hsc hkc (by decide) dJ7_fill_53178_3 (fun n3 hn3 => ?_)
  subst hn3
  refine k_istore_n C dJ7_fill_53178_4 rfl (by decide) ?_
  refine k_cut2 C (lv' := [(0, _), (1, _), (2, _), (3, _)]) ⟨rfl, rfl, rfl, rfl, trivial⟩ ?_
  have h := l_fillG k n hsc hkc hnc M v hv C 0 (by omega)
  rw [fillM_0] at h
  exact h
def shL : Nat → Sh
  | 0 => .inr (4, [some 1, some 2, none])
  | _ => .inl (.int, 240)
def mZ : Mem := fun _ _ => 0
def mL : Mem := up (fillM mZ 1 ((240 : Nat) : Int) (-1)) 0 2 1
theorem mZ_R : Rg mZ := fun _ _ => (by decide : inR 0)
def rsX4 (cI cZ cB : ClassId) (q : Nat) (u : Nat → Nat) : va_W := wsOf shL 3 cI cZ cB (adQ q u) mL
set_option maxHeartbeats 4000000 in
set_option maxRecDepth 100000 in
theorem cn_X4 : CnI yX4_init cX4_init 1 { frames := 1, cells := 2, slots := 480, locals := 64 } (.inr (4, nlX4)) [] rsX4 := by
  refine CnI_of (by decide +kernel) rfl (fun q => Nat.le_of_ble_eq_true rfl) ?_
  intro p l e s m below meth c D cI cZ cB q A F hin
  refine cw_aload F 0 rfl dX4_init_0 ?_
  refine cw_obj F ow_X4 ⟨Nat.le_of_ble_eq_true rfl, Nat.le_of_ble_eq_true rfl⟩ dX4_init_1 ?_
  refine cw_aload F 0 rfl dX4_init_4 ?_
  refine cw_sipush F 240 (by decide) dX4_init_5 ?_
  refine cw_newa F (ty := .int) rfl 0 rfl (fun _ h => h) arr_int rfl (n := 240) (by decide) (by decide) (Nat.le_of_ble_eq_true rfl) ⟨Nat.le_of_ble_eq_true rfl, Nat.le_of_ble_eq_true rfl⟩ dX4_init_8 (fun q8 => ?_)
  refine cw_putF F okC4 hin (by decide) flX4_9 rfl rfl rfl rfl (Nat.le_of_ble_eq_true rfl) dX4_init_10 ?_
  refine cw_aload F 0 rfl dX4_init_13 ?_
  refine cw_sipush F 240 (by decide) dX4_init_14 ?_
  refine cw_newa F (ty := .int) rfl 0 rfl (fun _ h => h) arr_int rfl (n := 240) (by decide) (by decide) (Nat.le_of_ble_eq_true rfl) ⟨Nat.le_of_ble_eq_true rfl, Nat.le_of_ble_eq_true rfl⟩ dX4_init_17 (fun q17 => ?_)
  refine cw_putF F okC4 hin (by decide) flX4_15 rfl rfl rfl rfl (Nat.le_of_ble_eq_true rfl) dX4_init_19 ?_
  refine cw_kk (sh := shL) (N := 3) (ad := adQ q (fun i => [q8, q17].getD i 0)) (M := mZ) (cI := cI) (cZ := cZ) (cB := cB) (lv' := [(0, .inr 0)]) (stk' := []) rfl rfl rfl mZ_R (fun D1 => ?_)
  have C1 := F.g (l := l) (e := e) (below := below) (R := { frames := 1, cells := 2, slots := 480, locals := 64 }) (Q := MQ below (va_Qv (fun _ : Nat → Nat => True) (fun u t => va_P D vwCl (rsX4 cI cZ cB q u) t.heap ∧ va_D A (rsX4 cI cZ cB q u)) A) (Value.ref q :: []).toArray s 2 480 A) D1 (ce := 2) (sn := 480) ⟨Nat.le_refl _, Nat.le_refl _⟩
  refine g_aload_n C1 dX4_init_22 rfl rfl ?_
  refine g_getR C1 (j := 0) okC4 rfl (by decide) (by decide) rfl flX4_9 dX4_init_23 ?_
  refine g_iconst C1 dX4_init_26 ?_
  refine g_callS C1 okX4_18 dX4_init_27 (c_fillG (sh := shL) (N := 3) 1 240 rfl (by decide) (by decide) mZ (-1) (by decide)) rfl ⟨rfl, rfl, Nat.le_of_ble_eq_true rfl, Nat.le_of_ble_eq_true rfl⟩ rfl (Nat.le_of_ble_eq_true rfl) (fun r27 M27 hr27 hp27 => ?_)
  subst hp27
  refine g_aload_n C1 dX4_init_30 rfl rfl ?_
  refine g_iconst C1 dX4_init_31 ?_
  refine g_putJ C1 2 2 rfl okC4 rfl (by decide) (by decide) rfl rfl rfl (by decide) flX4_24 dX4_init_32 ?_
  intro hM4 H4 locs4 ls4 hP4 hS4 hl4
  exact W.vret F.1.1 F.1.2.1 F.2.1.1 (fun t ht hW => ⟨⟨fun i => [q8, q17].getD i 0, rfl, trivial, by rw [ht]; exact hP4, D1 _⟩, hS4.F ht⟩) hS4.2.2 dX4_init_35 F.2.1.2.1
def mC0 : Mem
  | 23 => mL 0
  | 24 => mL 1
  | 25 => mL 2
  | _ => fun _ => 0
def rsX10 (cI cZ cB : ClassId) (q : Nat) (u : Nat → Nat) : va_W := wsOf shC nC cI cZ cB (adQ q u) mC0
set_option maxHeartbeats 4000000 in
set_option maxRecDepth 100000 in
theorem cn_X10 : CnI yX10_init cX10_init 1 { frames := 3, cells := 54, slots := 56192, locals := 192 } (.inr (10, nlX10)) [] rsX10 := by
  refine CnI_of (by decide +kernel) rfl (fun q => Nat.le_of_ble_eq_true rfl) ?_
  intro p l e s m below meth c D cI cZ cB q A F hin
  refine cw_aload F 0 rfl dX10_init_0 ?_
  refine cw_obj F ow_X10 ⟨Nat.le_of_ble_eq_true rfl, Nat.le_of_ble_eq_true rfl⟩ dX10_init_1 ?_
  refine cw_aload F 0 rfl dX10_init_4 ?_
  refine cw_new F (fs := nlX5) okC5 clX10_9 ins_X5 ini_X5 (by decide +kernel) ⟨Nat.le_of_ble_eq_true rfl, Nat.le_of_ble_eq_true rfl⟩ dX10_init_5 (fun q5 => ?_)
  refine cw_dup F dX10_init_8 ?_
  refine cw_bipush F 12 (by decide) dX10_init_9 ?_
  refine cw_call (ws := [(q, .inr (10, [.null, .null, .null, .null, .null, .null, .null, .null, .null, .null, .null]))]) (q := q5) (As := [.int 12]) F ciX10_11 dX10_init_11 (cn_X5 12 12 (by decide) (by decide) (by decide) (by decide)) ⟨Nat.le_of_ble_eq_true rfl, Nat.le_of_ble_eq_true rfl⟩ ⟨Nat.le_of_ble_eq_true rfl, Nat.le_of_ble_eq_true rfl⟩ rfl (Nat.le_of_ble_eq_true rfl) rfl (fun u11 => ?_)
  refine cw_putF F okC10 hin (by decide) flX10_14 rfl rfl rfl rfl (Nat.le_of_ble_eq_true rfl) dX10_init_14 ?_
  refine cw_eq (ws2 := (q, .inr (10, [.ref q5, .null, .null, .null, .null, .null, .null, .null, .null, .null, .null])) :: (rsX5 12 cI cZ cB q5 u11)) rfl ?_
  refine cw_aload F 0 rfl dX10_init_17 ?_
  refine cw_new F (fs := nlX0) okC0 clX10_18 ins_X0 ini_X0 (by decide +kernel) ⟨Nat.le_of_ble_eq_true rfl, Nat.le_of_ble_eq_true rfl⟩ dX10_init_18 (fun q18 => ?_)
  refine cw_dup F dX10_init_21 ?_
  refine cw_callN (ws := (q, .inr (10, [.ref q5, .null, .null, .null, .null, .null, .null, .null, .null, .null, .null])) :: (rsX5 12 cI cZ cB q5 u11)) (q := q18) (As := []) F ciX10_20 dX10_init_22 (cn_X0 ) ⟨Nat.le_of_ble_eq_true rfl, Nat.le_of_ble_eq_true rfl⟩ ⟨Nat.le_of_ble_eq_true rfl, Nat.le_of_ble_eq_true rfl⟩ rfl (Nat.le_of_ble_eq_true rfl) rfl (fun u22 => ?_)
  refine cw_putF F okC10 hin (by decide) flX10_21 rfl rfl rfl rfl (Nat.le_of_ble_eq_true rfl) dX10_init_25 ?_
  refine cw_eq (ws2 := (q, .inr (10, [.ref q5, .ref q18, .null, .null, .null, .null, .null, .null, .null, .null, .null])) :: ((rsX5 12 cI cZ cB q5 u11) ++ (rsX0 cI cZ cB q18 u22))) rfl ?_
  refine cw_aload F 0 rfl dX10_init_28 ?_
  refine cw_new F (fs := nlX9) okC9 clX10_25 ins_X9 ini_X9 (by decide +kernel) ⟨Nat.le_of_ble_eq_true rfl, Nat.le_of_ble_eq_true rfl⟩ dX10_init_29 (fun q29 => ?_)
  refine cw_dup F dX10_init_32 ?_
  refine cw_aload F 0 rfl dX10_init_33 ?_
  refine cw_get F okC10 (by decide) flX10_21 rfl dX10_init_34 ?_
  refine cw_call (ws := (q, .inr (10, [.ref q5, .ref q18, .null, .null, .null, .null, .null, .null, .null, .null, .null])) :: ((rsX5 12 cI cZ cB q5 u11) ++ (rsX0 cI cZ cB q18 u22))) (q := q29) (As := [.ref q18]) F ciX10_27 dX10_init_37 (cn_X9 q18) ⟨Nat.le_of_ble_eq_true rfl, Nat.le_of_ble_eq_true rfl⟩ ⟨Nat.le_of_ble_eq_true rfl, Nat.le_of_ble_eq_true rfl⟩ rfl (Nat.le_of_ble_eq_true rfl) rfl (fun u37 => ?_)
  refine cw_putF F okC10 hin (by decide) flX10_30 rfl rfl rfl rfl (Nat.le_of_ble_eq_true rfl) dX10_init_40 ?_
  refine cw_eq (ws2 := (q, .inr (10, [.ref q5, .ref q18, .ref q29, .null, .null, .null, .null, .null, .null, .null, .null])) :: (((rsX5 12 cI cZ cB q5 u11) ++ (rsX0 cI cZ cB q18 u22)) ++ (rsX9 q18 cI cZ cB q29 u37))) rfl ?_
  refine cw_aload F 0 rfl dX10_init_43 ?_
  refine cw_new F (fs := nlX6) okC6 clX10_34 ins_X6 ini_X6 (by decide +kernel) ⟨Nat.le_of_ble_eq_true rfl, Nat.le_of_ble_eq_true rfl⟩ dX10_init_44 (fun q44 => ?_)
  refine cw_dup F dX10_init_47 ?_
  refine cw_aload F 0 rfl dX10_init_48 ?_
  refine cw_get F okC10 (by decide) flX10_21 rfl dX10_init_49 ?_
  refine cw_aload F 0 rfl dX10_init_52 ?_
  refine cw_get F okC10 (by decide) flX10_30 rfl dX10_init_53 ?_
  refine cw_call (ws := (q, .inr (10, [.ref q5, .ref q18, .ref q29, .null, .null, .null, .null, .null, .null, .null, .null])) :: (((rsX5 12 cI cZ cB q5 u11) ++ (rsX0 cI cZ cB q18 u22)) ++ (rsX9 q18 cI cZ cB q29 u37))) (q := q44) (As := [.ref q18, .ref q29]) F ciX10_36 dX10_init_56 (cn_X6 q18 q29) ⟨Nat.le_of_ble_eq_true rfl, Nat.le_of_ble_eq_true rfl⟩ ⟨Nat.le_of_ble_eq_true rfl, Nat.le_of_ble_eq_true rfl⟩ rfl (Nat.le_of_ble_eq_true rfl) rfl (fun u56 => ?_)
  refine cw_putF F okC10 hin (by decide) flX10_39 rfl rfl rfl rfl (Nat.le_of_ble_eq_true rfl) dX10_init_59 ?_
  refine cw_eq (ws2 := (q, .inr (10, [.ref q5, .ref q18, .ref q29, .ref q44, .null, .null, .null, .null, .null, .null, .null])) :: ((((rsX5 12 cI cZ cB q5 u11) ++ (rsX0 cI cZ cB q18 u22)) ++ (rsX9 q18 cI cZ cB q29 u37)) ++ (rsX6 q18 q29 cI cZ cB q44 u56))) rfl ?_
  refine cw_aload F 0 rfl dX10_init_62 ?_
  refine cw_new F (fs := nlX4) okC4 clX10_43 ins_X4 ini_X4 (by decide +kernel) ⟨Nat.le_of_ble_eq_true rfl, Nat.le_of_ble_eq_true rfl⟩ dX10_init_63 (fun q63 => ?_)
  refine cw_dup F dX10_init_66 ?_
  refine cw_call (ws := (q, .inr (10, [.ref q5, .ref q18, .ref q29, .ref q44, .null, .null, .null, .null, .null, .null, .null])) :: ((((rsX5 12 cI cZ cB q5 u11) ++ (rsX0 cI cZ cB q18 u22)) ++ (rsX9 q18 cI cZ cB q29 u37)) ++ (rsX6 q18 q29 cI cZ cB q44 u56))) (q := q63) (As := []) F ciX10_45 dX10_init_67 (cn_X4 ) ⟨Nat.le_of_ble_eq_true rfl, Nat.le_of_ble_eq_true rfl⟩ ⟨Nat.le_of_ble_eq_true rfl, Nat.le_of_ble_eq_true rfl⟩ rfl (Nat.le_of_ble_eq_true rfl) rfl (fun u67 => ?_)
  refine cw_putF F okC10 hin (by decide) flX10_46 rfl rfl rfl rfl (Nat.le_of_ble_eq_true rfl) dX10_init_70 ?_
  refine cw_eq (ws2 := (q, .inr (10, [.ref q5, .ref q18, .ref q29, .ref q44, .ref q63, .null, .null, .null, .null, .null, .null])) :: (((((rsX5 12 cI cZ cB q5 u11) ++ (rsX0 cI cZ cB q18 u22)) ++ (rsX9 q18 cI cZ cB q29 u37)) ++ (rsX6 q18 q29 cI cZ cB q44 u56)) ++ (rsX4 cI cZ cB q63 u67))) rfl ?_
  refine cw_aload F 0 rfl dX10_init_73 ?_
  refine cw_new F (fs := nlX1) okC1 clX10_50 ins_X1 ini_X1 (by decide +kernel) ⟨Nat.le_of_ble_eq_true rfl, Nat.le_of_ble_eq_true rfl⟩ dX10_init_74 (fun q74 => ?_)
  refine cw_dup F dX10_init_77 ?_
  refine cw_aload F 0 rfl dX10_init_78 ?_
  refine cw_get F okC10 (by decide) flX10_21 rfl dX10_init_79 ?_
  refine cw_aload F 0 rfl dX10_init_82 ?_
  refine cw_get F okC10 (by decide) flX10_30 rfl dX10_init_83 ?_
  refine cw_call (ws := (q, .inr (10, [.ref q5, .ref q18, .ref q29, .ref q44, .ref q63, .null, .null, .null, .null, .null, .null])) :: (((((rsX5 12 cI cZ cB q5 u11) ++ (rsX0 cI cZ cB q18 u22)) ++ (rsX9 q18 cI cZ cB q29 u37)) ++ (rsX6 q18 q29 cI cZ cB q44 u56)) ++ (rsX4 cI cZ cB q63 u67))) (q := q74) (As := [.ref q18, .ref q29]) F ciX10_52 dX10_init_86 (cn_X1 q18 q29) ⟨Nat.le_of_ble_eq_true rfl, Nat.le_of_ble_eq_true rfl⟩ ⟨Nat.le_of_ble_eq_true rfl, Nat.le_of_ble_eq_true rfl⟩ rfl (Nat.le_of_ble_eq_true rfl) rfl (fun u86 => ?_)
  refine cw_putF F okC10 hin (by decide) flX10_53 rfl rfl rfl rfl (Nat.le_of_ble_eq_true rfl) dX10_init_89 ?_
  refine cw_eq (ws2 := (q, .inr (10, [.ref q5, .ref q18, .ref q29, .ref q44, .ref q63, .ref q74, .null, .null, .null, .null, .null])) :: ((((((rsX5 12 cI cZ cB q5 u11) ++ (rsX0 cI cZ cB q18 u22)) ++ (rsX9 q18 cI cZ cB q29 u37)) ++ (rsX6 q18 q29 cI cZ cB q44 u56)) ++ (rsX4 cI cZ cB q63 u67)) ++ (rsX1 q18 q29 cI cZ cB q74 u86))) rfl ?_
  refine cw_aload F 0 rfl dX10_init_92 ?_
  refine cw_new F (fs := nlX5) okC5 clX10_9 ins_X5 ini_X5 (by decide +kernel) ⟨Nat.le_of_ble_eq_true rfl, Nat.le_of_ble_eq_true rfl⟩ dX10_init_93 (fun q93 => ?_)
  refine cw_dup F dX10_init_96 ?_
  refine cw_sipush F 200 (by decide) dX10_init_97 ?_
  refine cw_call (ws := (q, .inr (10, [.ref q5, .ref q18, .ref q29, .ref q44, .ref q63, .ref q74, .null, .null, .null, .null, .null])) :: ((((((rsX5 12 cI cZ cB q5 u11) ++ (rsX0 cI cZ cB q18 u22)) ++ (rsX9 q18 cI cZ cB q29 u37)) ++ (rsX6 q18 q29 cI cZ cB q44 u56)) ++ (rsX4 cI cZ cB q63 u67)) ++ (rsX1 q18 q29 cI cZ cB q74 u86))) (q := q93) (As := [.int 200]) F ciX10_11 dX10_init_100 (cn_X5 200 200 (by decide) (by decide) (by decide) (by decide)) ⟨Nat.le_of_ble_eq_true rfl, Nat.le_of_ble_eq_true rfl⟩ ⟨Nat.le_of_ble_eq_true rfl, Nat.le_of_ble_eq_true rfl⟩ rfl (Nat.le_of_ble_eq_true rfl) rfl (fun u100 => ?_)
  refine cw_putF F okC10 hin (by decide) flX10_57 rfl rfl rfl rfl (Nat.le_of_ble_eq_true rfl) dX10_init_103 ?_
  refine cw_eq (ws2 := (q, .inr (10, [.ref q5, .ref q18, .ref q29, .ref q44, .ref q63, .ref q74, .ref q93, .null, .null, .null, .null])) :: (((((((rsX5 12 cI cZ cB q5 u11) ++ (rsX0 cI cZ cB q18 u22)) ++ (rsX9 q18 cI cZ cB q29 u37)) ++ (rsX6 q18 q29 cI cZ cB q44 u56)) ++ (rsX4 cI cZ cB q63 u67)) ++ (rsX1 q18 q29 cI cZ cB q74 u86)) ++ (rsX5 200 cI cZ cB q93 u100))) rfl ?_
  refine cw_aload F 0 rfl dX10_init_106 ?_
  refine cw_new F (fs := nlX8) okC8 clX10_60 ins_X8 ini_X8 (by decide +kernel) ⟨Nat.le_of_ble_eq_true rfl, Nat.le_of_ble_eq_true rfl⟩ dX10_init_107 (fun q107 => ?_)
  refine cw_dup F dX10_init_110 ?_
  refine cw_callN (ws := (q, .inr (10, [.ref q5, .ref q18, .ref q29, .ref q44, .ref q63, .ref q74, .ref q93, .null, .null, .null, .null])) :: (((((((rsX5 12 cI cZ cB q5 u11) ++ (rsX0 cI cZ cB q18 u22)) ++ (rsX9 q18 cI cZ cB q29 u37)) ++ (rsX6 q18 q29 cI cZ cB q44 u56)) ++ (rsX4 cI cZ cB q63 u67)) ++ (rsX1 q18 q29 cI cZ cB q74 u86)) ++ (rsX5 200 cI cZ cB q93 u100))) (q := q107) (As := []) F ciX10_62 dX10_init_111 (cn_X8 ) ⟨Nat.le_of_ble_eq_true rfl, Nat.le_of_ble_eq_true rfl⟩ ⟨Nat.le_of_ble_eq_true rfl, Nat.le_of_ble_eq_true rfl⟩ rfl (Nat.le_of_ble_eq_true rfl) rfl (fun u111 => ?_)
  refine cw_putF F okC10 hin (by decide) flX10_63 rfl rfl rfl rfl (Nat.le_of_ble_eq_true rfl) dX10_init_114 ?_
  refine cw_eq (ws2 := (q, .inr (10, [.ref q5, .ref q18, .ref q29, .ref q44, .ref q63, .ref q74, .ref q93, .ref q107, .null, .null, .null])) :: ((((((((rsX5 12 cI cZ cB q5 u11) ++ (rsX0 cI cZ cB q18 u22)) ++ (rsX9 q18 cI cZ cB q29 u37)) ++ (rsX6 q18 q29 cI cZ cB q44 u56)) ++ (rsX4 cI cZ cB q63 u67)) ++ (rsX1 q18 q29 cI cZ cB q74 u86)) ++ (rsX5 200 cI cZ cB q93 u100)) ++ (rsX8 cI cZ cB q107 u111))) rfl ?_
  refine cw_aload F 0 rfl dX10_init_117 ?_
  refine cw_new F (fs := nlX3) okC3 clX10_67 ins_X3 ini_X3 (by decide +kernel) ⟨Nat.le_of_ble_eq_true rfl, Nat.le_of_ble_eq_true rfl⟩ dX10_init_118 (fun q118 => ?_)
  refine cw_dup F dX10_init_121 ?_
  refine cw_aload F 0 rfl dX10_init_122 ?_
  refine cw_get F okC10 (by decide) flX10_63 rfl dX10_init_123 ?_
  refine cw_aload F 0 rfl dX10_init_126 ?_
  refine cw_get F okC10 (by decide) flX10_46 rfl dX10_init_127 ?_
  refine cw_call (ws := (q, .inr (10, [.ref q5, .ref q18, .ref q29, .ref q44, .ref q63, .ref q74, .ref q93, .ref q107, .null, .null, .null])) :: ((((((((rsX5 12 cI cZ cB q5 u11) ++ (rsX0 cI cZ cB q18 u22)) ++ (rsX9 q18 cI cZ cB q29 u37)) ++ (rsX6 q18 q29 cI cZ cB q44 u56)) ++ (rsX4 cI cZ cB q63 u67)) ++ (rsX1 q18 q29 cI cZ cB q74 u86)) ++ (rsX5 200 cI cZ cB q93 u100)) ++ (rsX8 cI cZ cB q107 u111))) (q := q118) (As := [.ref q107, .ref q63]) F ciX10_69 dX10_init_130 (cn_X3 q107 q63) ⟨Nat.le_of_ble_eq_true rfl, Nat.le_of_ble_eq_true rfl⟩ ⟨Nat.le_of_ble_eq_true rfl, Nat.le_of_ble_eq_true rfl⟩ rfl (Nat.le_of_ble_eq_true rfl) rfl (fun u130 => ?_)
  refine cw_putF F okC10 hin (by decide) flX10_72 rfl rfl rfl rfl (Nat.le_of_ble_eq_true rfl) dX10_init_133 ?_
  refine cw_eq (ws2 := (q, .inr (10, [.ref q5, .ref q18, .ref q29, .ref q44, .ref q63, .ref q74, .ref q93, .ref q107, .ref q118, .null, .null])) :: (((((((((rsX5 12 cI cZ cB q5 u11) ++ (rsX0 cI cZ cB q18 u22)) ++ (rsX9 q18 cI cZ cB q29 u37)) ++ (rsX6 q18 q29 cI cZ cB q44 u56)) ++ (rsX4 cI cZ cB q63 u67)) ++ (rsX1 q18 q29 cI cZ cB q74 u86)) ++ (rsX5 200 cI cZ cB q93 u100)) ++ (rsX8 cI cZ cB q107 u111)) ++ (rsX3 q107 q63 cI cZ cB q118 u130))) rfl ?_
  refine cw_aload F 0 rfl dX10_init_136 ?_
  refine cw_new F (fs := nlX7) okC7 clX10_76 ins_X7 ini_X7 (by decide +kernel) ⟨Nat.le_of_ble_eq_true rfl, Nat.le_of_ble_eq_true rfl⟩ dX10_init_137 (fun q137 => ?_)
  refine cw_dup F dX10_init_140 ?_
  refine cw_aload F 0 rfl dX10_init_141 ?_
  refine cw_get F okC10 (by decide) flX10_14 rfl dX10_init_142 ?_
  refine cw_aload F 0 rfl dX10_init_145 ?_
  refine cw_get F okC10 (by decide) flX10_46 rfl dX10_init_146 ?_
  refine cw_call (ws := (q, .inr (10, [.ref q5, .ref q18, .ref q29, .ref q44, .ref q63, .ref q74, .ref q93, .ref q107, .ref q118, .null, .null])) :: (((((((((rsX5 12 cI cZ cB q5 u11) ++ (rsX0 cI cZ cB q18 u22)) ++ (rsX9 q18 cI cZ cB q29 u37)) ++ (rsX6 q18 q29 cI cZ cB q44 u56)) ++ (rsX4 cI cZ cB q63 u67)) ++ (rsX1 q18 q29 cI cZ cB q74 u86)) ++ (rsX5 200 cI cZ cB q93 u100)) ++ (rsX8 cI cZ cB q107 u111)) ++ (rsX3 q107 q63 cI cZ cB q118 u130))) (q := q137) (As := [.ref q5, .ref q63]) F ciX10_78 dX10_init_149 (cn_X7 q5 q63) ⟨Nat.le_of_ble_eq_true rfl, Nat.le_of_ble_eq_true rfl⟩ ⟨Nat.le_of_ble_eq_true rfl, Nat.le_of_ble_eq_true rfl⟩ rfl (Nat.le_of_ble_eq_true rfl) rfl (fun u149 => ?_)
  refine cw_putF F okC10 hin (by decide) flX10_81 rfl rfl rfl rfl (Nat.le_of_ble_eq_true rfl) dX10_init_152 ?_
  refine cw_eq (ws2 := (q, .inr (10, [.ref q5, .ref q18, .ref q29, .ref q44, .ref q63, .ref q74, .ref q93, .ref q107, .ref q118, .ref q137, .null])) :: ((((((((((rsX5 12 cI cZ cB q5 u11) ++ (rsX0 cI cZ cB q18 u22)) ++ (rsX9 q18 cI cZ cB q29 u37)) ++ (rsX6 q18 q29 cI cZ cB q44 u56)) ++ (rsX4 cI cZ cB q63 u67)) ++ (rsX1 q18 q29 cI cZ cB q74 u86)) ++ (rsX5 200 cI cZ cB q93 u100)) ++ (rsX8 cI cZ cB q107 u111)) ++ (rsX3 q107 q63 cI cZ cB q118 u130)) ++ (rsX7 q5 q63 cI cZ cB q137 u149))) rfl ?_
  refine cw_aload F 0 rfl dX10_init_155 ?_
  refine cw_new F (fs := nlX2) okC2 clX10_85 ins_X2 ini_X2 (by decide +kernel) ⟨Nat.le_of_ble_eq_true rfl, Nat.le_of_ble_eq_true rfl⟩ dX10_init_156 (fun q156 => ?_)
  refine cw_dup F dX10_init_159 ?_
  refine cw_aload F 0 rfl dX10_init_160 ?_
  refine cw_get F okC10 (by decide) flX10_21 rfl dX10_init_161 ?_
  refine cw_call (ws := (q, .inr (10, [.ref q5, .ref q18, .ref q29, .ref q44, .ref q63, .ref q74, .ref q93, .ref q107, .ref q118, .ref q137, .null])) :: ((((((((((rsX5 12 cI cZ cB q5 u11) ++ (rsX0 cI cZ cB q18 u22)) ++ (rsX9 q18 cI cZ cB q29 u37)) ++ (rsX6 q18 q29 cI cZ cB q44 u56)) ++ (rsX4 cI cZ cB q63 u67)) ++ (rsX1 q18 q29 cI cZ cB q74 u86)) ++ (rsX5 200 cI cZ cB q93 u100)) ++ (rsX8 cI cZ cB q107 u111)) ++ (rsX3 q107 q63 cI cZ cB q118 u130)) ++ (rsX7 q5 q63 cI cZ cB q137 u149))) (q := q156) (As := [.ref q18]) F ciX10_87 dX10_init_164 (cn_X2 q18) ⟨Nat.le_of_ble_eq_true rfl, Nat.le_of_ble_eq_true rfl⟩ ⟨Nat.le_of_ble_eq_true rfl, Nat.le_of_ble_eq_true rfl⟩ rfl (Nat.le_of_ble_eq_true rfl) rfl (fun u164 => ?_)
  refine cw_putF F okC10 hin (by decide) flX10_88 rfl rfl rfl rfl (Nat.le_of_ble_eq_true rfl) dX10_init_167 ?_
  refine cw_eq (ws2 := (q, .inr (10, [.ref q5, .ref q18, .ref q29, .ref q44, .ref q63, .ref q74, .ref q93, .ref q107, .ref q118, .ref q137, .ref q156])) :: (((((((((((rsX5 12 cI cZ cB q5 u11) ++ (rsX0 cI cZ cB q18 u22)) ++ (rsX9 q18 cI cZ cB q29 u37)) ++ (rsX6 q18 q29 cI cZ cB q44 u56)) ++ (rsX4 cI cZ cB q63 u67)) ++ (rsX1 q18 q29 cI cZ cB q74 u86)) ++ (rsX5 200 cI cZ cB q93 u100)) ++ (rsX8 cI cZ cB q107 u111)) ++ (rsX3 q107 q63 cI cZ cB q118 u130)) ++ (rsX7 q5 q63 cI cZ cB q137 u149)) ++ (rsX2 q18 cI cZ cB q156 u164))) rfl ?_
  exact cw_ret F (fun i => [q5, u11 0, q18, u22 0, u22 1, u22 2, u22 3, u22 4, q29, u37 0, u37 1, u37 2, u37 3, u37 4, q44, u56 0, u56 1, u56 2, u56 3, u56 4, u56 5, u56 6, q63, u67 0, u67 1, q74, u86 0, u86 1, q93, u100 0, q107, u111 0, u111 1, u111 2, u111 3, u111 4, u111 5, u111 6, q118, u130 0, u130 1, u130 2, u130 3, u130 4, u130 5, u130 6, q137, u149 0, u149 1, u149 2, q156, u164 0, u164 1, u164 2].getD i 0) rfl dX10_init_170
