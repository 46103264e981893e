/-! CONSTRUCTORS of the class's parts -/
set_option maxRecDepth 100000 in
theorem ow_X0 : Cond.methodLink RX0 3 Lib.objectInit ∈ tbg := in_1 55 (by decide +kernel) rfl
set_option maxRecDepth 100000 in
theorem ins_X0 : Cond.instantiable RX0 7 ∈ tbg := in_1 51 (by decide +kernel) rfl
set_option maxRecDepth 100000 in
theorem ini_X0 : Cond.initialized RX0 ∈ tbg := in_1 4 (by decide +kernel) rfl
set_option maxRecDepth 100000 in
theorem ow_X1 : Cond.methodLink RX1 3 Lib.objectInit ∈ tbg := in_1 195 (by decide +kernel) rfl
set_option maxRecDepth 100000 in
theorem ins_X1 : Cond.instantiable RX1 5 ∈ tbg := in_1 191 (by decide +kernel) rfl
set_option maxRecDepth 100000 in
theorem ini_X1 : Cond.initialized RX1 ∈ tbg := in_1 9 (by decide +kernel) rfl
set_option maxRecDepth 100000 in
theorem ow_X2 : Cond.methodLink RX2 3 Lib.objectInit ∈ tbg := in_2 81 (by decide +kernel) rfl
set_option maxRecDepth 100000 in
theorem ins_X2 : Cond.instantiable RX2 4 ∈ tbg := in_2 77 (by decide +kernel) rfl
set_option maxRecDepth 100000 in
theorem ini_X2 : Cond.initialized RX2 ∈ tbg := in_1 13 (by decide +kernel) rfl
set_option maxRecDepth 100000 in
theorem ow_X3 : Cond.methodLink RX3 3 Lib.objectInit ∈ tbg := in_2 14 (by decide +kernel) rfl
set_option maxRecDepth 100000 in
theorem ins_X3 : Cond.instantiable RX3 10 ∈ tbg := in_2 10 (by decide +kernel) rfl
set_option maxRecDepth 100000 in
theorem ini_X3 : Cond.initialized RX3 ∈ tbg := in_1 11 (by decide +kernel) rfl
set_option maxRecDepth 100000 in
theorem ow_X4 : Cond.methodLink RX4 3 Lib.objectInit ∈ tbg := in_1 174 (by decide +kernel) rfl
set_option maxRecDepth 100000 in
theorem ins_X4 : Cond.instantiable RX4 3 ∈ tbg := in_1 170 (by decide +kernel) rfl
set_option maxRecDepth 100000 in
theorem ini_X4 : Cond.initialized RX4 ∈ tbg := in_1 7 (by decide +kernel) rfl
set_option maxRecDepth 100000 in
theorem ow_X5 : Cond.methodLink RX5 3 Lib.objectInit ∈ tbg := in_1 33 (by decide +kernel) rfl
set_option maxRecDepth 100000 in
theorem ins_X5 : Cond.instantiable RX5 2 ∈ tbg := in_1 29 (by decide +kernel) rfl
set_option maxRecDepth 100000 in
theorem ini_X5 : Cond.initialized RX5 ∈ tbg := in_1 2 (by decide +kernel) rfl
set_option maxRecDepth 100000 in
theorem ow_X6 : Cond.methodLink RX6 3 Lib.objectInit ∈ tbg := in_1 128 (by decide +kernel) rfl
set_option maxRecDepth 100000 in
theorem ins_X6 : Cond.instantiable RX6 13 ∈ tbg := in_1 124 (by decide +kernel) rfl
set_option maxRecDepth 100000 in
theorem ini_X6 : Cond.initialized RX6 ∈ tbg := in_1 6 (by decide +kernel) rfl
set_option maxRecDepth 100000 in
theorem ow_X7 : Cond.methodLink RX7 3 Lib.objectInit ∈ tbg := in_2 54 (by decide +kernel) rfl
set_option maxRecDepth 100000 in
theorem ins_X7 : Cond.instantiable RX7 6 ∈ tbg := in_2 50 (by decide +kernel) rfl
set_option maxRecDepth 100000 in
theorem ini_X7 : Cond.initialized RX7 ∈ tbg := in_1 12 (by decide +kernel) rfl
set_option maxRecDepth 100000 in
theorem ow_X8 : Cond.methodLink RX8 3 Lib.objectInit ∈ tbg := in_1 217 (by decide +kernel) rfl
set_option maxRecDepth 100000 in
theorem ins_X8 : Cond.instantiable RX8 8 ∈ tbg := in_1 213 (by decide +kernel) rfl
set_option maxRecDepth 100000 in
theorem ini_X8 : Cond.initialized RX8 ∈ tbg := in_1 10 (by decide +kernel) rfl
set_option maxRecDepth 100000 in
theorem ow_X9 : Cond.methodLink RX9 3 Lib.objectInit ∈ tbg := in_1 93 (by decide +kernel) rfl
set_option maxRecDepth 100000 in
theorem ins_X9 : Cond.instantiable RX9 7 ∈ tbg := in_1 89 (by decide +kernel) rfl
set_option maxRecDepth 100000 in
theorem ini_X9 : Cond.initialized RX9 ∈ tbg := in_1 5 (by decide +kernel) rfl
set_option maxRecDepth 100000 in
theorem ow_X10 : Cond.methodLink RX10 3 Lib.objectInit ∈ tbg := in_1 25 (by decide +kernel) rfl
set_option maxRecDepth 100000 in
theorem ins_X10 : Cond.instantiable RX10 11 ∈ tbg := in_1 21 (by decide +kernel) rfl
set_option maxRecDepth 100000 in
theorem ini_X10 : Cond.initialized RX10 ∈ tbg := in_1 1 (by decide +kernel) rfl
set_option maxRecDepth 100000 in
theorem ow_X11 : Cond.methodLink RX11 1 Lib.objectInit ∈ tbg := in_4 217 (by decide +kernel) rfl
set_option maxRecDepth 100000 in
theorem ins_X11 : Cond.instantiable RX11 55 ∈ tbg := in_4 213 (by decide +kernel) rfl
set_option maxRecDepth 100000 in
theorem ini_X11 : Cond.initialized RX11 ∈ tbg := in_1 14 (by decide +kernel) rfl
set_option maxRecDepth 100000 in
theorem clL_8 : Cond.classLink RL 8 RX10 ∈ tbg := in_1 20 (by decide +kernel) rfl
set_option maxRecDepth 100000 in
theorem ciL_41 : okI RL 41 yX10_init cX10_init 1 0 := ⟨⟨in_1 22 (by decide +kernel) rfl, in_1 23 (by decide +kernel) rfl, in_1 1 (by decide +kernel) rfl, in_1 24 (by decide +kernel) rfl⟩, rfl, by decide +kernel⟩
set_option maxRecDepth 100000 in
theorem clX10_9 : Cond.classLink RX10 9 RX5 ∈ tbg := in_1 28 (by decide +kernel) rfl
set_option maxRecDepth 100000 in
theorem ciX10_11 : okI RX10 11 yX5_init cX5_init 2 1 := ⟨⟨in_1 30 (by decide +kernel) rfl, in_1 31 (by decide +kernel) rfl, in_1 2 (by decide +kernel) rfl, in_1 32 (by decide +kernel) rfl⟩, rfl, by decide +kernel⟩
set_option maxRecDepth 100000 in
theorem clX10_18 : Cond.classLink RX10 18 RX0 ∈ tbg := in_1 50 (by decide +kernel) rfl
set_option maxRecDepth 100000 in
theorem ciX10_20 : okIN RX10 20 yX0_init RX10 cX0_init 1 0 := ⟨⟨List.mem_of_getElem? (i := 0) rfl, in_1 53 (by decide +kernel) rfl, in_1 4 (by decide +kernel) rfl, in_1 54 (by decide +kernel) rfl⟩, rfl, by decide +kernel⟩
set_option maxRecDepth 100000 in
theorem clX10_25 : Cond.classLink RX10 25 RX9 ∈ tbg := in_1 88 (by decide +kernel) rfl
set_option maxRecDepth 100000 in
theorem ciX10_27 : okI RX10 27 yX9_init cX9_init 2 1 := ⟨⟨in_1 90 (by decide +kernel) rfl, in_1 91 (by decide +kernel) rfl, in_1 5 (by decide +kernel) rfl, in_1 92 (by decide +kernel) rfl⟩, rfl, by decide +kernel⟩
set_option maxRecDepth 100000 in
theorem clX10_34 : Cond.classLink RX10 34 RX6 ∈ tbg := in_1 123 (by decide +kernel) rfl
set_option maxRecDepth 100000 in
theorem ciX10_36 : okI RX10 36 yX6_init cX6_init 3 2 := ⟨⟨in_1 125 (by decide +kernel) rfl, in_1 126 (by decide +kernel) rfl, in_1 6 (by decide +kernel) rfl, in_1 127 (by decide +kernel) rfl⟩, rfl, by decide +kernel⟩
set_option maxRecDepth 100000 in
theorem clX10_43 : Cond.classLink RX10 43 RX4 ∈ tbg := in_1 169 (by decide +kernel) rfl
set_option maxRecDepth 100000 in
theorem ciX10_45 : okI RX10 45 yX4_init cX4_init 1 0 := ⟨⟨in_1 171 (by decide +kernel) rfl, in_1 172 (by decide +kernel) rfl, in_1 7 (by decide +kernel) rfl, in_1 173 (by decide +kernel) rfl⟩, rfl, by decide +kernel⟩
set_option maxRecDepth 100000 in
theorem clX10_50 : Cond.classLink RX10 50 RX1 ∈ tbg := in_1 190 (by decide +kernel) rfl
set_option maxRecDepth 100000 in
theorem ciX10_52 : okI RX10 52 yX1_init cX1_init 3 2 := ⟨⟨in_1 192 (by decide +kernel) rfl, in_1 193 (by decide +kernel) rfl, in_1 9 (by decide +kernel) rfl, in_1 194 (by decide +kernel) rfl⟩, rfl, by decide +kernel⟩
set_option maxRecDepth 100000 in
theorem clX10_60 : Cond.classLink RX10 60 RX8 ∈ tbg := in_1 212 (by decide +kernel) rfl
set_option maxRecDepth 100000 in
theorem ciX10_62 : okIN RX10 62 yX8_init RX10 cX8_init 1 0 := ⟨⟨List.mem_of_getElem? (i := 1) rfl, in_1 215 (by decide +kernel) rfl, in_1 10 (by decide +kernel) rfl, in_1 216 (by decide +kernel) rfl⟩, rfl, by decide +kernel⟩
set_option maxRecDepth 100000 in
theorem clX10_67 : Cond.classLink RX10 67 RX3 ∈ tbg := in_2 9 (by decide +kernel) rfl
set_option maxRecDepth 100000 in
theorem ciX10_69 : okI RX10 69 yX3_init cX3_init 3 2 := ⟨⟨in_2 11 (by decide +kernel) rfl, in_2 12 (by decide +kernel) rfl, in_1 11 (by decide +kernel) rfl, in_2 13 (by decide +kernel) rfl⟩, rfl, by decide +kernel⟩
set_option maxRecDepth 100000 in
theorem clX3_28 : Cond.classLink RX3 28 RX5 ∈ tbg := in_2 15 (by decide +kernel) rfl
set_option maxRecDepth 100000 in
theorem ciX3_30 : okI RX3 30 yX5_init cX5_init 2 1 := ⟨⟨in_2 16 (by decide +kernel) rfl, in_1 31 (by decide +kernel) rfl, in_1 2 (by decide +kernel) rfl, in_1 32 (by decide +kernel) rfl⟩, rfl, by decide +kernel⟩
set_option maxRecDepth 100000 in
theorem clX10_76 : Cond.classLink RX10 76 RX7 ∈ tbg := in_2 49 (by decide +kernel) rfl
set_option maxRecDepth 100000 in
theorem ciX10_78 : okI RX10 78 yX7_init cX7_init 3 2 := ⟨⟨in_2 51 (by decide +kernel) rfl, in_2 52 (by decide +kernel) rfl, in_1 12 (by decide +kernel) rfl, in_2 53 (by decide +kernel) rfl⟩, rfl, by decide +kernel⟩
set_option maxRecDepth 100000 in
theorem clX7_15 : Cond.classLink RX7 15 RX5 ∈ tbg := in_2 55 (by decide +kernel) rfl
set_option maxRecDepth 100000 in
theorem ciX7_17 : okI RX7 17 yX5_init cX5_init 2 1 := ⟨⟨in_2 56 (by decide +kernel) rfl, in_1 31 (by decide +kernel) rfl, in_1 2 (by decide +kernel) rfl, in_1 32 (by decide +kernel) rfl⟩, rfl, by decide +kernel⟩
set_option maxRecDepth 100000 in
theorem clX10_85 : Cond.classLink RX10 85 RX2 ∈ tbg := in_2 76 (by decide +kernel) rfl
set_option maxRecDepth 100000 in
theorem ciX10_87 : okI RX10 87 yX2_init cX2_init 2 1 := ⟨⟨in_2 78 (by decide +kernel) rfl, in_2 79 (by decide +kernel) rfl, in_1 13 (by decide +kernel) rfl, in_2 80 (by decide +kernel) rfl⟩, rfl, by decide +kernel⟩
set_option maxRecDepth 100000 in
theorem clL_42 : Cond.classLink RL 42 RX11 ∈ tbg := in_4 212 (by decide +kernel) rfl
set_option maxRecDepth 100000 in
theorem ciL_44 : okI RL 44 yX11_init cX11_init 2 0 := ⟨⟨in_4 214 (by decide +kernel) rfl, in_4 215 (by decide +kernel) rfl, in_1 14 (by decide +kernel) rfl, in_4 216 (by decide +kernel) rfl⟩, rfl, by decide +kernel⟩
set_option maxRecDepth 100000 in
theorem arr_boolean : Cond.arrayClass .boolean ∈ tbg := in_1 87 (by decide +kernel) rfl
set_option maxRecDepth 100000 in
theorem arr_byte : Cond.arrayClass .byte ∈ tbg := in_4 65 (by decide +kernel) rfl
def adQ (q : Nat) (u : Nat → Nat) : Nat → Nat
  | 0 => q
  | k + 1 => u k
theorem cw_eq {nL : Nat} {R : Room} {p : Program} {l : Launch} {e : Env} {s : State} {m : MethodId} {args : Array Value} {below : List Frame} {meth : Method} {c : Code} {D : va_G} {A : Nat → Prop} {Q : State → Prop} {ce sn pc : Nat} {lv : List (Nat × Value)} {stk : List Value} {ws ws2 : va_W} (h : ws = ws2) (kk : CW nL R p l e s m args below meth c D A Q ce sn pc lv stk ws2) : CW nL R p l e s m args below meth c D A Q ce sn pc lv stk ws := by
  subst h; exact kk
theorem cw_max {p : Program} {l : Launch} {e : Env} {s : State} {m : MethodId} {args : Array Value} {below : List Frame} {meth : Method} {c : Code} {D : va_G} {cI cZ cB : ClassId} {A : Nat → Prop} {own : String} {cc : ByteArray} {nL : Nat} {ret : Option FieldType} {R : Room} {Q : State → Prop} {ce sn pc : Nat} {lv : List (Nat × Value)} {stk : List Value} {ws : va_W} (F : FX p s m args meth c D cI cZ cB A own cc nL ret) {index : Nat} {x y z : Int32} (hz : (if x < y then y else x) = z) (hw : okS own index yJ9_max_7cf53 cJ9_max_7cf53 2 (some .int) 2) (hd : decode cc pc = .ok (.invokestatic index, 3)) (hR : 1 ≤ R.frames ∧ (stk.map fun v => v.category).sum + 13 ≤ R.locals) (hcs : ce ≤ R.cells ∧ sn ≤ R.slots) (kk : CW nL R p l e s m args below meth c D A Q ce sn (pc + 3) lv (.int z :: stk) ws) : CW nL R p l e s m args below meth c D A Q ce sn pc lv (.int y :: .int x :: stk) ws := by
  intro H locs ls hP hD hS hl
  have ok : ∀ w ∈ va_wsS own index yJ9_max_7cf53 [.code yJ9_max_7cf53 cJ9_max_7cf53 2 (some .int)], w.before args s = true := fun w h => F.1.2.2.2.2 w (hw.1 w h).1
  refine va_mmax F.1.1 F.1.2.1 (by rw [F.1.2.2.1]; exact hl.1.symm) F.1.2.2.2.1 (ok (.methodLink own index yJ9_max_7cf53) (by simp [va_wsS])) (ok (.static yJ9_max_7cf53) (by simp [va_wsS])) (ok (.initialized yJ9_max_7cf53.cls) (by simp [va_wsS])) (ok (.code yJ9_max_7cf53 cJ9_max_7cf53 2 (some .int)) (by simp [va_wsS])) hR.1 hR.2 hcs.1 hcs.2 hd ?_
  rw [hz]
  exact kk H locs ls hP hD hS hl
abbrev nlX0 : List Value := [.null, .null, .null, .null, .null, .int 0, .int 0]
abbrev nlX1 : List Value := [.null, .null, .null, .null, .int 0]
abbrev nlX2 : List Value := [.null, .null, .null, .null]
abbrev nlX3 : List Value := [.null, .null, .null, .null, .null, .null, .null, .null, .int 0, .int 0]
abbrev nlX4 : List Value := [.null, .null, .int 0]
abbrev nlX5 : List Value := [.null, .int 0]
abbrev nlX6 : List Value := [.null, .null, .null, .null, .null, .null, .null, .null, .null, .int 0, .int 0, .int 0, .int 0]
abbrev nlX7 : List Value := [.null, .null, .null, .null, .int 0, .int 0]
abbrev nlX8 : List Value := [.null, .null, .null, .null, .null, .null, .null, .int 0]
abbrev nlX9 : List Value := [.null, .null, .null, .null, .null, .null, .int 0]
abbrev nlX10 : List Value := [.null, .null, .null, .null, .null, .null, .null, .null, .null, .null, .null]
abbrev nlX11 : List Value := [.int 0, .null, .int 0, .null, .null, .null, .null, .int 0, .null, .null, .null, .null, .null, .int 0, .null, .null, .null, .null, .null, .null, .int 0, .null, .null, .null, .null, .int 0, .null, .null, .null, .null, .int 0, .int 0, .int 0, .int 0, .null, .null, .null, .int 0, .int 0, .int 0, .null, .null, .null, .int 0, .int 0, .int 0, .null, .null, .null, .null, .int 0, .null, .null, .null, .null]
def rsX5 (n : Nat) (cI cZ cB : ClassId) (q : Nat) (u : Nat → Nat) : va_W := [(q, .inr (5, [.ref (u 0), .int 0])), (u 0, .inl (cI, n, .inl (fun _ => 0)))]
set_option maxHeartbeats 4000000 in
set_option maxRecDepth 100000 in
theorem cn_X5 (n : Nat) (v : Int32) (hz : (if v < 0 then 0 else v) = v) (hn0 : ¬ v < 0) (hn1 : v.toNatClampNeg = n) (hs : n < 100000) : CnI yX5_init cX5_init 2 { frames := 1, cells := 1, slots := n, locals := 64 } (.inr (5, nlX5)) [.int v] (rsX5 n) := by
  refine CnI_of (by decide +kernel) rfl (fun q => Nat.le_of_ble_eq_true rfl) ?_
  intro p l e s m below meth c D cI cZ cB q A F hin
  refine cw_aload F 0 rfl dX5_init_0 ?_
  refine cw_obj F ow_X5 ⟨Nat.le_of_ble_eq_true rfl, Nat.le_of_ble_eq_true rfl⟩ dX5_init_1 ?_
  refine cw_aload F 0 rfl dX5_init_4 ?_
  refine cw_iload F 1 rfl dX5_init_5 ?_
  refine cw_iconst F 0 (by decide) dX5_init_6 ?_
  refine cw_max F (z := v) hz okX5_9 dX5_init_7 ⟨Nat.le_of_ble_eq_true rfl, Nat.le_of_ble_eq_true rfl⟩ ⟨Nat.zero_le _, Nat.zero_le _⟩ ?_
  refine cw_newa F (ty := .int) rfl 0 rfl (fun _ h => h) arr_int rfl (n := n) hn0 hn1 (by show n * 4 ≤ 536870912; omega) ⟨Nat.le_of_ble_eq_true rfl, by show 0 + n ≤ n; omega⟩ dX5_init_10 (fun q10 => ?_)
  refine cw_putF F okC5 hin (by decide) flX5_15 rfl rfl rfl rfl (Nat.le_of_ble_eq_true rfl) dX5_init_12 ?_
  rw [Nat.zero_add n]
  exact cw_ret F (fun i => [q10].getD i 0) rfl dX5_init_15
def rsX0 (cI cZ cB : ClassId) (q : Nat) (u : Nat → Nat) : va_W := [(q, .inr (0, [.ref (u 0), .ref (u 1), .ref (u 2), .ref (u 3), .ref (u 4), .int 0, .int 0])), (u 0, .inl (cI, 720, .inl (fun _ => 0))), (u 1, .inl (cI, 60, .inl (fun _ => 0))), (u 2, .inl (cZ, 60, .inl (fun _ => 0))), (u 3, .inl (cZ, 60, .inl (fun _ => 0))), (u 4, .inl (cI, 60, .inl (fun _ => 0)))]
set_option maxHeartbeats 4000000 in
set_option maxRecDepth 100000 in
theorem cn_X0 : CnI yX0_init cX0_init 1 { frames := 1, cells := 5, slots := 960, locals := 64 } (.inr (0, nlX0)) [] (rsX0) := by
  refine CnI_of (by decide +kernel) rfl (fun q => Nat.le_of_ble_eq_true rfl) ?_
  intro p l e s m below meth c D cI cZ cB q A F hin
  refine cw_aload F 0 rfl dX0_init_0 ?_
  refine cw_obj F ow_X0 ⟨Nat.le_of_ble_eq_true rfl, Nat.le_of_ble_eq_true rfl⟩ dX0_init_1 ?_
  refine cw_aload F 0 rfl dX0_init_4 ?_
  refine cw_sipush F 720 (by decide) dX0_init_5 ?_
  refine cw_newa F (ty := .int) rfl 0 rfl (fun _ h => h) arr_int rfl (n := 720) (by decide) (by decide) (Nat.le_of_ble_eq_true rfl) ⟨Nat.le_of_ble_eq_true rfl, Nat.le_of_ble_eq_true rfl⟩ dX0_init_8 (fun q8 => ?_)
  refine cw_putF F okC0 hin (by decide) flX0_9 rfl rfl rfl rfl (Nat.le_of_ble_eq_true rfl) dX0_init_10 ?_
  refine cw_aload F 0 rfl dX0_init_13 ?_
  refine cw_bipush F 60 (by decide) dX0_init_14 ?_
  refine cw_newa F (ty := .int) rfl 0 rfl (fun _ h => h) arr_int rfl (n := 60) (by decide) (by decide) (Nat.le_of_ble_eq_true rfl) ⟨Nat.le_of_ble_eq_true rfl, Nat.le_of_ble_eq_true rfl⟩ dX0_init_16 (fun q16 => ?_)
  refine cw_putF F okC0 hin (by decide) flX0_15 rfl rfl rfl rfl (Nat.le_of_ble_eq_true rfl) dX0_init_18 ?_
  refine cw_aload F 0 rfl dX0_init_21 ?_
  refine cw_bipush F 60 (by decide) dX0_init_22 ?_
  refine cw_newa F (ty := .boolean) rfl 1 rfl (fun _ h => h) arr_boolean rfl (n := 60) (by decide) (by decide) (Nat.le_of_ble_eq_true rfl) ⟨Nat.le_of_ble_eq_true rfl, Nat.le_of_ble_eq_true rfl⟩ dX0_init_24 (fun q24 => ?_)
  refine cw_putF F okC0 hin (by decide) flX0_18 rfl rfl rfl rfl (Nat.le_of_ble_eq_true rfl) dX0_init_26 ?_
  refine cw_aload F 0 rfl dX0_init_29 ?_
  refine cw_bipush F 60 (by decide) dX0_init_30 ?_
  refine cw_newa F (ty := .boolean) rfl 1 rfl (fun _ h => h) arr_boolean rfl (n := 60) (by decide) (by decide) (Nat.le_of_ble_eq_true rfl) ⟨Nat.le_of_ble_eq_true rfl, Nat.le_of_ble_eq_true rfl⟩ dX0_init_32 (fun q32 => ?_)
  refine cw_putF F okC0 hin (by decide) flX0_22 rfl rfl rfl rfl (Nat.le_of_ble_eq_true rfl) dX0_init_34 ?_
  refine cw_aload F 0 rfl dX0_init_37 ?_
  refine cw_bipush F 60 (by decide) dX0_init_38 ?_
  refine cw_newa F (ty := .int) rfl 0 rfl (fun _ h => h) arr_int rfl (n := 60) (by decide) (by decide) (Nat.le_of_ble_eq_true rfl) ⟨Nat.le_of_ble_eq_true rfl, Nat.le_of_ble_eq_true rfl⟩ dX0_init_40 (fun q40 => ?_)
  refine cw_putF F okC0 hin (by decide) flX0_25 rfl rfl rfl rfl (Nat.le_of_ble_eq_true rfl) dX0_init_42 ?_
  exact cw_ret F (fun i => [q8, q16, q24, q32, q40].getD i 0) rfl dX0_init_45
def rsX9 (b0 : Nat) (cI cZ cB : ClassId) (q : Nat) (u : Nat → Nat) : va_W := [(q, .inr (9, [.ref b0, .ref (u 0), .ref (u 1), .ref (u 2), .ref (u 3), .ref (u 4), .int 0])), (u 0, .inl (cI, 5768, .inl (fun _ => 0))), (u 1, .inl (cI, 721, .inl (fun _ => 0))), (u 2, .inl (cI, 721, .inl (fun _ => 0))), (u 3, .inl (cI, 60, .inl (fun _ => 0))), (u 4, .inl (cI, 60, .inl (fun _ => 0)))]
set_option maxHeartbeats 4000000 in
set_option maxRecDepth 100000 in
theorem cn_X9 (b0 : Nat) : CnI yX9_init cX9_init 2 { frames := 1, cells := 5, slots := 7330, locals := 64 } (.inr (9, nlX9)) [.ref b0] (rsX9 b0) := by
  refine CnI_of (by decide +kernel) rfl (fun q => Nat.le_of_ble_eq_true rfl) ?_
  intro p l e s m below meth c D cI cZ cB q A F hin
  refine cw_aload F 0 rfl dX9_init_0 ?_
  refine cw_obj F ow_X9 ⟨Nat.le_of_ble_eq_true rfl, Nat.le_of_ble_eq_true rfl⟩ dX9_init_1 ?_
  refine cw_aload F 0 rfl dX9_init_4 ?_
  refine cw_sipush F 5768 (by decide) dX9_init_5 ?_
  refine cw_newa F (ty := .int) rfl 0 rfl (fun _ h => h) arr_int rfl (n := 5768) (by decide) (by decide) (Nat.le_of_ble_eq_true rfl) ⟨Nat.le_of_ble_eq_true rfl, Nat.le_of_ble_eq_true rfl⟩ dX9_init_8 (fun q8 => ?_)
  refine cw_putF F okC9 hin (by decide) flX9_9 rfl rfl rfl rfl (Nat.le_of_ble_eq_true rfl) dX9_init_10 ?_
  refine cw_aload F 0 rfl dX9_init_13 ?_
  refine cw_sipush F 721 (by decide) dX9_init_14 ?_
  refine cw_newa F (ty := .int) rfl 0 rfl (fun _ h => h) arr_int rfl (n := 721) (by decide) (by decide) (Nat.le_of_ble_eq_true rfl) ⟨Nat.le_of_ble_eq_true rfl, Nat.le_of_ble_eq_true rfl⟩ dX9_init_17 (fun q17 => ?_)
  refine cw_putF F okC9 hin (by decide) flX9_15 rfl rfl rfl rfl (Nat.le_of_ble_eq_true rfl) dX9_init_19 ?_
  refine cw_aload F 0 rfl dX9_init_22 ?_
  refine cw_sipush F 721 (by decide) dX9_init_23 ?_
  refine cw_newa F (ty := .int) rfl 0 rfl (fun _ h => h) arr_int rfl (n := 721) (by decide) (by decide) (Nat.le_of_ble_eq_true rfl) ⟨Nat.le_of_ble_eq_true rfl, Nat.le_of_ble_eq_true rfl⟩ dX9_init_26 (fun q26 => ?_)
  refine cw_putF F okC9 hin (by decide) flX9_18 rfl rfl rfl rfl (Nat.le_of_ble_eq_true rfl) dX9_init_28 ?_
  refine cw_aload F 0 rfl dX9_init_31 ?_
  refine cw_bipush F 60 (by decide) dX9_init_32 ?_
  refine cw_newa F (ty := .int) rfl 0 rfl (fun _ h => h) arr_int rfl (n := 60) (by decide) (by decide) (Nat.le_of_ble_eq_true rfl) ⟨Nat.le_of_ble_eq_true rfl, Nat.le_of_ble_eq_true rfl⟩ dX9_init_34 (fun q34 => ?_)
  refine cw_putF F okC9 hin (by decide) flX9_21 rfl rfl rfl rfl (Nat.le_of_ble_eq_true rfl) dX9_init_36 ?_
  refine cw_aload F 0 rfl dX9_init_39 ?_
  refine cw_bipush F 60 (by decide) dX9_init_40 ?_
  refine cw_newa F (ty := .int) rfl 0 rfl (fun _ h => h) arr_int rfl (n := 60) (by decide) (by decide) (Nat.le_of_ble_eq_true rfl) ⟨Nat.le_of_ble_eq_true rfl, Nat.le_of_ble_eq_true rfl⟩ dX9_init_42 (fun q42 => ?_)
  refine cw_putF F okC9 hin (by decide) flX9_24 rfl rfl rfl rfl (Nat.le_of_ble_eq_true rfl) dX9_init_44 ?_
  refine cw_aload F 0 rfl dX9_init_47 ?_
  refine cw_aload F 1 rfl dX9_init_48 ?_
  refine cw_putF F okC9 hin (by decide) flX9_27 rfl rfl rfl rfl (Nat.le_of_ble_eq_true rfl) dX9_init_49 ?_
  exact cw_ret F (fun i => [q8, q17, q26, q34, q42].getD i 0) rfl dX9_init_52
def rsX6 (b0 b1 : Nat) (cI cZ cB : ClassId) (q : Nat) (u : Nat → Nat) : va_W := [(q, .inr (6, [.ref b0, .ref b1, .ref (u 0), .ref (u 1), .ref (u 2), .ref (u 3), .ref (u 4), .ref (u 5), .ref (u 6), .int 0, .int 0, .int 0, .int 0])), (u 0, .inl (cI, 721, .inl (fun _ => 0))), (u 1, .inl (cI, 30, .inl (fun _ => 0))), (u 2, .inl (cI, 721, .inl (fun _ => 0))), (u 3, .inl (cI, 721, .inl (fun _ => 0))), (u 4, .inl (cI, 721, .inl (fun _ => 0))), (u 5, .inl (cI, 721, .inl (fun _ => 0))), (u 6, .inl (cI, 5768, .inl (fun _ => 0)))]
set_option maxHeartbeats 4000000 in
set_option maxRecDepth 100000 in
theorem cn_X6 (b0 b1 : Nat) : CnI yX6_init cX6_init 3 { frames := 1, cells := 7, slots := 9403, locals := 64 } (.inr (6, nlX6)) [.ref b0, .ref b1] (rsX6 b0 b1) := by
  refine CnI_of (by decide +kernel) rfl (fun q => Nat.le_of_ble_eq_true rfl) ?_
  intro p l e s m below meth c D cI cZ cB q A F hin
  refine cw_aload F 0 rfl dX6_init_0 ?_
  refine cw_obj F ow_X6 ⟨Nat.le_of_ble_eq_true rfl, Nat.le_of_ble_eq_true rfl⟩ dX6_init_1 ?_
  refine cw_aload F 0 rfl dX6_init_4 ?_
  refine cw_sipush F 721 (by decide) dX6_init_5 ?_
  refine cw_newa F (ty := .int) rfl 0 rfl (fun _ h => h) arr_int rfl (n := 721) (by decide) (by decide) (Nat.le_of_ble_eq_true rfl) ⟨Nat.le_of_ble_eq_true rfl, Nat.le_of_ble_eq_true rfl⟩ dX6_init_8 (fun q8 => ?_)
  refine cw_putF F okC6 hin (by decide) flX6_9 rfl rfl rfl rfl (Nat.le_of_ble_eq_true rfl) dX6_init_10 ?_
  refine cw_aload F 0 rfl dX6_init_13 ?_
  refine cw_bipush F 30 (by decide) dX6_init_14 ?_
  refine cw_newa F (ty := .int) rfl 0 rfl (fun _ h => h) arr_int rfl (n := 30) (by decide) (by decide) (Nat.le_of_ble_eq_true rfl) ⟨Nat.le_of_ble_eq_true rfl, Nat.le_of_ble_eq_true rfl⟩ dX6_init_16 (fun q16 => ?_)
  refine cw_putF F okC6 hin (by decide) flX6_15 rfl rfl rfl rfl (Nat.le_of_ble_eq_true rfl) dX6_init_18 ?_
  refine cw_aload F 0 rfl dX6_init_21 ?_
  refine cw_sipush F 721 (by decide) dX6_init_22 ?_
  refine cw_newa F (ty := .int) rfl 0 rfl (fun _ h => h) arr_int rfl (n := 721) (by decide) (by decide) (Nat.le_of_ble_eq_true rfl) ⟨Nat.le_of_ble_eq_true rfl, Nat.le_of_ble_eq_true rfl⟩ dX6_init_25 (fun q25 => ?_)
  refine cw_putF F okC6 hin (by decide) flX6_18 rfl rfl rfl rfl (Nat.le_of_ble_eq_true rfl) dX6_init_27 ?_
  refine cw_aload F 0 rfl dX6_init_30 ?_
  refine cw_sipush F 721 (by decide) dX6_init_31 ?_
  refine cw_newa F (ty := .int) rfl 0 rfl (fun _ h => h) arr_int rfl (n := 721) (by decide) (by decide) (Nat.le_of_ble_eq_true rfl) ⟨Nat.le_of_ble_eq_true rfl, Nat.le_of_ble_eq_true rfl⟩ dX6_init_34 (fun q34 => ?_)
  refine cw_putF F okC6 hin (by decide) flX6_21 rfl rfl rfl rfl (Nat.le_of_ble_eq_true rfl) dX6_init_36 ?_
  refine cw_aload F 0 rfl dX6_init_39 ?_
  refine cw_sipush F 721 (by decide) dX6_init_40 ?_
  refine cw_newa F (ty := .int) rfl 0 rfl (fun _ h => h) arr_int rfl (n := 721) (by decide) (by decide) (Nat.le_of_ble_eq_true rfl) ⟨Nat.le_of_ble_eq_true rfl, Nat.le_of_ble_eq_true rfl⟩ dX6_init_43 (fun q43 => ?_)
  refine cw_putF F okC6 hin (by decide) flX6_24 rfl rfl rfl rfl (Nat.le_of_ble_eq_true rfl) dX6_init_45 ?_
  refine cw_aload F 0 rfl dX6_init_48 ?_
  refine cw_sipush F 721 (by decide) dX6_init_49 ?_
  refine cw_newa F (ty := .int) rfl 0 rfl (fun _ h => h) arr_int rfl (n := 721) (by decide) (by decide) (Nat.le_of_ble_eq_true rfl) ⟨Nat.le_of_ble_eq_true rfl, Nat.le_of_ble_eq_true rfl⟩ dX6_init_52 (fun q52 => ?_)
  refine cw_putF F okC6 hin (by decide) flX6_27 rfl rfl rfl rfl (Nat.le_of_ble_eq_true rfl) dX6_init_54 ?_
  refine cw_aload F 0 rfl dX6_init_57 ?_
  refine cw_sipush F 5768 (by decide) dX6_init_58 ?_
  refine cw_newa F (ty := .int) rfl 0 rfl (fun _ h => h) arr_int rfl (n := 5768) (by decide) (by decide) (Nat.le_of_ble_eq_true rfl) ⟨Nat.le_of_ble_eq_true rfl, Nat.le_of_ble_eq_true rfl⟩ dX6_init_61 (fun q61 => ?_)
  refine cw_putF F okC6 hin (by decide) flX6_30 rfl rfl rfl rfl (Nat.le_of_ble_eq_true rfl) dX6_init_63 ?_
  refine cw_aload F 0 rfl dX6_init_66 ?_
  refine cw_aload F 1 rfl dX6_init_67 ?_
  refine cw_putF F okC6 hin (by decide) flX6_33 rfl rfl rfl rfl (Nat.le_of_ble_eq_true rfl) dX6_init_68 ?_
  refine cw_aload F 0 rfl dX6_init_71 ?_
  refine cw_aload F 2 rfl dX6_init_72 ?_
  refine cw_putF F okC6 hin (by decide) flX6_37 rfl rfl rfl rfl (Nat.le_of_ble_eq_true rfl) dX6_init_73 ?_
  exact cw_ret F (fun i => [q8, q16, q25, q34, q43, q52, q61].getD i 0) rfl dX6_init_76
def rsX1 (b0 b1 : Nat) (cI cZ cB : ClassId) (q : Nat) (u : Nat → Nat) : va_W := [(q, .inr (1, [.ref b0, .ref b1, .ref (u 0), .ref (u 1), .int 0])), (u 0, .inl (cI, 24, .inl (fun _ => 0))), (u 1, .inl (cI, 16, .inl (fun _ => 0)))]
set_option maxHeartbeats 4000000 in
set_option maxRecDepth 100000 in
theorem cn_X1 (b0 b1 : Nat) : CnI yX1_init cX1_init 3 { frames := 1, cells := 2, slots := 40, locals := 64 } (.inr (1, nlX1)) [.ref b0, .ref b1] (rsX1 b0 b1) := by
  refine CnI_of (by decide +kernel) rfl (fun q => Nat.le_of_ble_eq_true rfl) ?_
  intro p l e s m below meth c D cI cZ cB q A F hin
  refine cw_aload F 0 rfl dX1_init_0 ?_
  refine cw_obj F ow_X1 ⟨Nat.le_of_ble_eq_true rfl, Nat.le_of_ble_eq_true rfl⟩ dX1_init_1 ?_
  refine cw_aload F 0 rfl dX1_init_4 ?_
  refine cw_bipush F 24 (by decide) dX1_init_5 ?_
  refine cw_newa F (ty := .int) rfl 0 rfl (fun _ h => h) arr_int rfl (n := 24) (by decide) (by decide) (Nat.le_of_ble_eq_true rfl) ⟨Nat.le_of_ble_eq_true rfl, Nat.le_of_ble_eq_true rfl⟩ dX1_init_7 (fun q7 => ?_)
  refine cw_putF F okC1 hin (by decide) flX1_9 rfl rfl rfl rfl (Nat.le_of_ble_eq_true rfl) dX1_init_9 ?_
  refine cw_aload F 0 rfl dX1_init_12 ?_
  refine cw_bipush F 16 (by decide) dX1_init_13 ?_
  refine cw_newa F (ty := .int) rfl 0 rfl (fun _ h => h) arr_int rfl (n := 16) (by decide) (by decide) (Nat.le_of_ble_eq_true rfl) ⟨Nat.le_of_ble_eq_true rfl, Nat.le_of_ble_eq_true rfl⟩ dX1_init_15 (fun q15 => ?_)
  refine cw_putF F okC1 hin (by decide) flX1_15 rfl rfl rfl rfl (Nat.le_of_ble_eq_true rfl) dX1_init_17 ?_
  refine cw_aload F 0 rfl dX1_init_20 ?_
  refine cw_aload F 1 rfl dX1_init_21 ?_
  refine cw_putF F okC1 hin (by decide) flX1_18 rfl rfl rfl rfl (Nat.le_of_ble_eq_true rfl) dX1_init_22 ?_
  refine cw_aload F 0 rfl dX1_init_25 ?_
  refine cw_aload F 2 rfl dX1_init_26 ?_
  refine cw_putF F okC1 hin (by decide) flX1_22 rfl rfl rfl rfl (Nat.le_of_ble_eq_true rfl) dX1_init_27 ?_
  exact cw_ret F (fun i => [q7, q15].getD i 0) rfl dX1_init_30
def rsX8 (cI cZ cB : ClassId) (q : Nat) (u : Nat → Nat) : va_W := [(q, .inr (8, [.ref (u 0), .ref (u 1), .ref (u 2), .ref (u 3), .ref (u 4), .ref (u 5), .ref (u 6), .int 0])), (u 0, .inl (cI, 200, .inl (fun _ => 0))), (u 1, .inl (cI, 200, .inl (fun _ => 0))), (u 2, .inl (cI, 200, .inl (fun _ => 0))), (u 3, .inl (cI, 200, .inl (fun _ => 0))), (u 4, .inl (cZ, 200, .inl (fun _ => 0))), (u 5, .inl (cI, 10, .inl (fun _ => 0))), (u 6, .inl (cI, 10, .inl (fun _ => 0)))]
set_option maxHeartbeats 4000000 in
set_option maxRecDepth 100000 in
theorem cn_X8 : CnI yX8_init cX8_init 1 { frames := 1, cells := 7, slots := 1020, locals := 64 } (.inr (8, nlX8)) [] (rsX8) := by
  refine CnI_of (by decide +kernel) rfl (fun q => Nat.le_of_ble_eq_true rfl) ?_
  intro p l e s m below meth c D cI cZ cB q A F hin
  refine cw_aload F 0 rfl dX8_init_0 ?_
  refine cw_obj F ow_X8 ⟨Nat.le_of_ble_eq_true rfl, Nat.le_of_ble_eq_true rfl⟩ dX8_init_1 ?_
  refine cw_aload F 0 rfl dX8_init_4 ?_
  refine cw_sipush F 200 (by decide) dX8_init_5 ?_
  refine cw_newa F (ty := .int) rfl 0 rfl (fun _ h => h) arr_int rfl (n := 200) (by decide) (by decide) (Nat.le_of_ble_eq_true rfl) ⟨Nat.le_of_ble_eq_true rfl, Nat.le_of_ble_eq_true rfl⟩ dX8_init_8 (fun q8 => ?_)
  refine cw_putF F okC8 hin (by decide) flX8_9 rfl rfl rfl rfl (Nat.le_of_ble_eq_true rfl) dX8_init_10 ?_
  refine cw_aload F 0 rfl dX8_init_13 ?_
  refine cw_sipush F 200 (by decide) dX8_init_14 ?_
  refine cw_newa F (ty := .int) rfl 0 rfl (fun _ h => h) arr_int rfl (n := 200) (by decide) (by decide) (Nat.le_of_ble_eq_true rfl) ⟨Nat.le_of_ble_eq_true rfl, Nat.le_of_ble_eq_true rfl⟩ dX8_init_17 (fun q17 => ?_)
  refine cw_putF F okC8 hin (by decide) flX8_15 rfl rfl rfl rfl (Nat.le_of_ble_eq_true rfl) dX8_init_19 ?_
  refine cw_aload F 0 rfl dX8_init_22 ?_
  refine cw_sipush F 200 (by decide) dX8_init_23 ?_
  refine cw_newa F (ty := .int) rfl 0 rfl (fun _ h => h) arr_int rfl (n := 200) (by decide) (by decide) (Nat.le_of_ble_eq_true rfl) ⟨Nat.le_of_ble_eq_true rfl, Nat.le_of_ble_eq_true rfl⟩ dX8_init_26 (fun q26 => ?_)
  refine cw_putF F okC8 hin (by decide) flX8_18 rfl rfl rfl rfl (Nat.le_of_ble_eq_true rfl) dX8_init_28 ?_
  refine cw_aload F 0 rfl dX8_init_31 ?_
  refine cw_sipush F 200 (by decide) dX8_init_32 ?_
  refine cw_newa F (ty := .int) rfl 0 rfl (fun _ h => h) arr_int rfl (n := 200) (by decide) (by decide) (Nat.le_of_ble_eq_true rfl) ⟨Nat.le_of_ble_eq_true rfl, Nat.le_of_ble_eq_true rfl⟩ dX8_init_35 (fun q35 => ?_)
  refine cw_putF F okC8 hin (by decide) flX8_21 rfl rfl rfl rfl (Nat.le_of_ble_eq_true rfl) dX8_init_37 ?_
  refine cw_aload F 0 rfl dX8_init_40 ?_
  refine cw_sipush F 200 (by decide) dX8_init_41 ?_
  refine cw_newa F (ty := .boolean) rfl 1 rfl (fun _ h => h) arr_boolean rfl (n := 200) (by decide) (by decide) (Nat.le_of_ble_eq_true rfl) ⟨Nat.le_of_ble_eq_true rfl, Nat.le_of_ble_eq_true rfl⟩ dX8_init_44 (fun q44 => ?_)
  refine cw_putF F okC8 hin (by decide) flX8_24 rfl rfl rfl rfl (Nat.le_of_ble_eq_true rfl) dX8_init_46 ?_
  refine cw_aload F 0 rfl dX8_init_49 ?_
  refine cw_bipush F 10 (by decide) dX8_init_50 ?_
  refine cw_newa F (ty := .int) rfl 0 rfl (fun _ h => h) arr_int rfl (n := 10) (by decide) (by decide) (Nat.le_of_ble_eq_true rfl) ⟨Nat.le_of_ble_eq_true rfl, Nat.le_of_ble_eq_true rfl⟩ dX8_init_52 (fun q52 => ?_)
  refine cw_putF F okC8 hin (by decide) flX8_28 rfl rfl rfl rfl (Nat.le_of_ble_eq_true rfl) dX8_init_54 ?_
  refine cw_aload F 0 rfl dX8_init_57 ?_
  refine cw_bipush F 10 (by decide) dX8_init_58 ?_
  refine cw_newa F (ty := .int) rfl 0 rfl (fun _ h => h) arr_int rfl (n := 10) (by decide) (by decide) (Nat.le_of_ble_eq_true rfl) ⟨Nat.le_of_ble_eq_true rfl, Nat.le_of_ble_eq_true rfl⟩ dX8_init_60 (fun q60 => ?_)
  refine cw_putF F okC8 hin (by decide) flX8_31 rfl rfl rfl rfl (Nat.le_of_ble_eq_true rfl) dX8_init_62 ?_
  exact cw_ret F (fun i => [q8, q17, q26, q35, q44, q52, q60].getD i 0) rfl dX8_init_65
def rsX3 (b0 b1 : Nat) (cI cZ cB : ClassId) (q : Nat) (u : Nat → Nat) : va_W := [(q, .inr (3, [.ref b0, .ref b1, .ref (u 0), .ref (u 1), .ref (u 2), .ref (u 3), .ref (u 4), .ref (u 5), .int 0, .int 0])), (u 0, .inl (cI, 6030, .inl (fun _ => 0))), (u 1, .inl (cZ, 6030, .inl (fun _ => 0))), (u 2, .inl (cI, 6031, .inl (fun _ => 0))), (u 3, .inl (cI, 6030, .inl (fun _ => 0))), (u 4, .inl (cI, 6030, .inl (fun _ => 0))), (u 5, .inr (5, [.ref (u 6), .int 0])), (u 6, .inl (cI, 6031, .inl (fun _ => 0)))]
set_option maxHeartbeats 4000000 in
set_option maxRecDepth 100000 in
theorem cn_X3 (b0 b1 : Nat) : CnI yX3_init cX3_init 3 { frames := 2, cells := 7, slots := 36184, locals := 128 } (.inr (3, nlX3)) [.ref b0, .ref b1] (rsX3 b0 b1) := by
  refine CnI_of (by decide +kernel) rfl (fun q => Nat.le_of_ble_eq_true rfl) ?_
  intro p l e s m below meth c D cI cZ cB q A F hin
  refine cw_aload F 0 rfl dX3_init_0 ?_
  refine cw_obj F ow_X3 ⟨Nat.le_of_ble_eq_true rfl, Nat.le_of_ble_eq_true rfl⟩ dX3_init_1 ?_
  refine cw_aload F 0 rfl dX3_init_4 ?_
  refine cw_sipush F 6030 (by decide) dX3_init_5 ?_
  refine cw_newa F (ty := .int) rfl 0 rfl (fun _ h => h) arr_int rfl (n := 6030) (by decide) (by decide) (Nat.le_of_ble_eq_true rfl) ⟨Nat.le_of_ble_eq_true rfl, Nat.le_of_ble_eq_true rfl⟩ dX3_init_8 (fun q8 => ?_)
  refine cw_putF F okC3 hin (by decide) flX3_9 rfl rfl rfl rfl (Nat.le_of_ble_eq_true rfl) dX3_init_10 ?_
  refine cw_aload F 0 rfl dX3_init_13 ?_
  refine cw_sipush F 6030 (by decide) dX3_init_14 ?_
  refine cw_newa F (ty := .boolean) rfl 1 rfl (fun _ h => h) arr_boolean rfl (n := 6030) (by decide) (by decide) (Nat.le_of_ble_eq_true rfl) ⟨Nat.le_of_ble_eq_true rfl, Nat.le_of_ble_eq_true rfl⟩ dX3_init_17 (fun q17 => ?_)
  refine cw_putF F okC3 hin (by decide) flX3_15 rfl rfl rfl rfl (Nat.le_of_ble_eq_true rfl) dX3_init_19 ?_
  refine cw_aload F 0 rfl dX3_init_22 ?_
  refine cw_sipush F 6031 (by decide) dX3_init_23 ?_
  refine cw_newa F (ty := .int) rfl 0 rfl (fun _ h => h) arr_int rfl (n := 6031) (by decide) (by decide) (Nat.le_of_ble_eq_true rfl) ⟨Nat.le_of_ble_eq_true rfl, Nat.le_of_ble_eq_true rfl⟩ dX3_init_26 (fun q26 => ?_)
  refine cw_putF F okC3 hin (by decide) flX3_19 rfl rfl rfl rfl (Nat.le_of_ble_eq_true rfl) dX3_init_28 ?_
  refine cw_aload F 0 rfl dX3_init_31 ?_
  refine cw_sipush F 6030 (by decide) dX3_init_32 ?_
  refine cw_newa F (ty := .int) rfl 0 rfl (fun _ h => h) arr_int rfl (n := 6030) (by decide) (by decide) (Nat.le_of_ble_eq_true rfl) ⟨Nat.le_of_ble_eq_true rfl, Nat.le_of_ble_eq_true rfl⟩ dX3_init_35 (fun q35 => ?_)
  refine cw_putF F okC3 hin (by decide) flX3_22 rfl rfl rfl rfl (Nat.le_of_ble_eq_true rfl) dX3_init_37 ?_
  refine cw_aload F 0 rfl dX3_init_40 ?_
  refine cw_sipush F 6030 (by decide) dX3_init_41 ?_
  refine cw_newa F (ty := .int) rfl 0 rfl (fun _ h => h) arr_int rfl (n := 6030) (by decide) (by decide) (Nat.le_of_ble_eq_true rfl) ⟨Nat.le_of_ble_eq_true rfl, Nat.le_of_ble_eq_true rfl⟩ dX3_init_44 (fun q44 => ?_)
  refine cw_putF F okC3 hin (by decide) flX3_25 rfl rfl rfl rfl (Nat.le_of_ble_eq_true rfl) dX3_init_46 ?_
  refine cw_aload F 0 rfl dX3_init_49 ?_
  refine cw_new F (fs := nlX5) okC5 clX3_28 ins_X5 ini_X5 (by decide +kernel) ⟨Nat.le_of_ble_eq_true rfl, Nat.le_of_ble_eq_true rfl⟩ dX3_init_50 (fun q50 => ?_)
  refine cw_dup F dX3_init_53 ?_
  refine cw_sipush F 6031 (by decide) dX3_init_54 ?_
  refine cw_call (ws := [(q, .inr (3, [.null, .null, .ref q8, .ref q17, .ref q26, .ref q35, .ref q44, .null, .int 0, .int 0])), (q8, .inl (cI, 6030, .inl (fun _ => 0))), (q17, .inl (cZ, 6030, .inl (fun _ => 0))), (q26, .inl (cI, 6031, .inl (fun _ => 0))), (q35, .inl (cI, 6030, .inl (fun _ => 0))), (q44, .inl (cI, 6030, .inl (fun _ => 0)))]) (q := q50) (As := [.int 6031]) F ciX3_30 dX3_init_57 (cn_X5 6031 6031 (by decide) (by decide) (by decide) (by decide)) ⟨Nat.le_of_ble_eq_true rfl, Nat.le_of_ble_eq_true rfl⟩ ⟨Nat.le_of_ble_eq_true rfl, Nat.le_of_ble_eq_true rfl⟩ rfl (Nat.le_of_ble_eq_true rfl) rfl (fun u57 => ?_)
  refine cw_putF F okC3 hin (by decide) flX3_33 rfl rfl rfl rfl (Nat.le_of_ble_eq_true rfl) dX3_init_60 ?_
  refine cw_aload F 0 rfl dX3_init_63 ?_
  refine cw_aload F 1 rfl dX3_init_64 ?_
  refine cw_putF F okC3 hin (by decide) flX3_37 rfl rfl rfl rfl (Nat.le_of_ble_eq_true rfl) dX3_init_65 ?_
  refine cw_aload F 0 rfl dX3_init_68 ?_
  refine cw_aload F 2 rfl dX3_init_69 ?_
  refine cw_putF F okC3 hin (by decide) flX3_41 rfl rfl rfl rfl (Nat.le_of_ble_eq_true rfl) dX3_init_70 ?_
  exact cw_ret F (fun i => [q8, q17, q26, q35, q44, q50, u57 0].getD i 0) rfl dX3_init_73
def rsX7 (b0 b1 : Nat) (cI cZ cB : ClassId) (q : Nat) (u : Nat → Nat) : va_W := [(q, .inr (7, [.ref b0, .ref b1, .ref (u 0), .ref (u 1), .int 0, .int 0])), (u 0, .inl (cI, 390, .inl (fun _ => 0))), (u 1, .inr (5, [.ref (u 2), .int 0])), (u 2, .inl (cI, 24, .inl (fun _ => 0)))]
set_option maxHeartbeats 4000000 in
set_option maxRecDepth 100000 in
theorem cn_X7 (b0 b1 : Nat) : CnI yX7_init cX7_init 3 { frames := 2, cells := 3, slots := 416, locals := 128 } (.inr (7, nlX7)) [.ref b0, .ref b1] (rsX7 b0 b1) := by
  refine CnI_of (by decide +kernel) rfl (fun q => Nat.le_of_ble_eq_true rfl) ?_
  intro p l e s m below meth c D cI cZ cB q A F hin
  refine cw_aload F 0 rfl dX7_init_0 ?_
  refine cw_obj F ow_X7 ⟨Nat.le_of_ble_eq_true rfl, Nat.le_of_ble_eq_true rfl⟩ dX7_init_1 ?_
  refine cw_aload F 0 rfl dX7_init_4 ?_
  refine cw_sipush F 390 (by decide) dX7_init_5 ?_
  refine cw_newa F (ty := .int) rfl 0 rfl (fun _ h => h) arr_int rfl (n := 390) (by decide) (by decide) (Nat.le_of_ble_eq_true rfl) ⟨Nat.le_of_ble_eq_true rfl, Nat.le_of_ble_eq_true rfl⟩ dX7_init_8 (fun q8 => ?_)
  refine cw_putF F okC7 hin (by decide) flX7_9 rfl rfl rfl rfl (Nat.le_of_ble_eq_true rfl) dX7_init_10 ?_
  refine cw_aload F 0 rfl dX7_init_13 ?_
  refine cw_new F (fs := nlX5) okC5 clX7_15 ins_X5 ini_X5 (by decide +kernel) ⟨Nat.le_of_ble_eq_true rfl, Nat.le_of_ble_eq_true rfl⟩ dX7_init_14 (fun q14 => ?_)
  refine cw_dup F dX7_init_17 ?_
  refine cw_bipush F 24 (by decide) dX7_init_18 ?_
  refine cw_call (ws := [(q, .inr (7, [.null, .null, .ref q8, .null, .int 0, .int 0])), (q8, .inl (cI, 390, .inl (fun _ => 0)))]) (q := q14) (As := [.int 24]) F ciX7_17 dX7_init_20 (cn_X5 24 24 (by decide) (by decide) (by decide) (by decide)) ⟨Nat.le_of_ble_eq_true rfl, Nat.le_of_ble_eq_true rfl⟩ ⟨Nat.le_of_ble_eq_true rfl, Nat.le_of_ble_eq_true rfl⟩ rfl (Nat.le_of_ble_eq_true rfl) rfl (fun u20 => ?_)
  refine cw_putF F okC7 hin (by decide) flX7_20 rfl rfl rfl rfl (Nat.le_of_ble_eq_true rfl) dX7_init_23 ?_
  refine cw_aload F 0 rfl dX7_init_26 ?_
  refine cw_aload F 1 rfl dX7_init_27 ?_
  refine cw_putF F okC7 hin (by decide) flX7_24 rfl rfl rfl rfl (Nat.le_of_ble_eq_true rfl) dX7_init_28 ?_
  refine cw_aload F 0 rfl dX7_init_31 ?_
  refine cw_aload F 2 rfl dX7_init_32 ?_
  refine cw_putF F okC7 hin (by decide) flX7_27 rfl rfl rfl rfl (Nat.le_of_ble_eq_true rfl) dX7_init_33 ?_
  exact cw_ret F (fun i => [q8, q14, u20 0].getD i 0) rfl dX7_init_36
def rsX2 (b0 : Nat) (cI cZ cB : ClassId) (q : Nat) (u : Nat → Nat) : va_W := [(q, .inr (2, [.ref b0, .ref (u 0), .ref (u 1), .ref (u 2)])), (u 0, .inl (cI, 8, .inl (fun _ => 0))), (u 1, .inl (cI, 64, .inl (fun _ => 0))), (u 2, .inl (cI, 8, .inl (fun _ => 0)))]
set_option maxHeartbeats 4000000 in
set_option maxRecDepth 100000 in
theorem cn_X2 (b0 : Nat) : CnI yX2_init cX2_init 2 { frames := 1, cells := 3, slots := 80, locals := 64 } (.inr (2, nlX2)) [.ref b0] (rsX2 b0) := by
  refine CnI_of (by decide +kernel) rfl (fun q => Nat.le_of_ble_eq_true rfl) ?_
  intro p l e s m below meth c D cI cZ cB q A F hin
  refine cw_aload F 0 rfl dX2_init_0 ?_
  refine cw_obj F ow_X2 ⟨Nat.le_of_ble_eq_true rfl, Nat.le_of_ble_eq_true rfl⟩ dX2_init_1 ?_
  refine cw_aload F 0 rfl dX2_init_4 ?_
  refine cw_bipush F 8 (by decide) dX2_init_5 ?_
  refine cw_newa F (ty := .int) rfl 0 rfl (fun _ h => h) arr_int rfl (n := 8) (by decide) (by decide) (Nat.le_of_ble_eq_true rfl) ⟨Nat.le_of_ble_eq_true rfl, Nat.le_of_ble_eq_true rfl⟩ dX2_init_7 (fun q7 => ?_)
  refine cw_putF F okC2 hin (by decide) flX2_9 rfl rfl rfl rfl (Nat.le_of_ble_eq_true rfl) dX2_init_9 ?_
  refine cw_aload F 0 rfl dX2_init_12 ?_
  refine cw_bipush F 64 (by decide) dX2_init_13 ?_
  refine cw_newa F (ty := .int) rfl 0 rfl (fun _ h => h) arr_int rfl (n := 64) (by decide) (by decide) (Nat.le_of_ble_eq_true rfl) ⟨Nat.le_of_ble_eq_true rfl, Nat.le_of_ble_eq_true rfl⟩ dX2_init_15 (fun q15 => ?_)
  refine cw_putF F okC2 hin (by decide) flX2_15 rfl rfl rfl rfl (Nat.le_of_ble_eq_true rfl) dX2_init_17 ?_
  refine cw_aload F 0 rfl dX2_init_20 ?_
  refine cw_bipush F 8 (by decide) dX2_init_21 ?_
  refine cw_newa F (ty := .int) rfl 0 rfl (fun _ h => h) arr_int rfl (n := 8) (by decide) (by decide) (Nat.le_of_ble_eq_true rfl) ⟨Nat.le_of_ble_eq_true rfl, Nat.le_of_ble_eq_true rfl⟩ dX2_init_23 (fun q23 => ?_)
  refine cw_putF F okC2 hin (by decide) flX2_18 rfl rfl rfl rfl (Nat.le_of_ble_eq_true rfl) dX2_init_25 ?_
  refine cw_aload F 0 rfl dX2_init_28 ?_
  refine cw_aload F 1 rfl dX2_init_29 ?_
  refine cw_putF F okC2 hin (by decide) flX2_21 rfl rfl rfl rfl (Nat.le_of_ble_eq_true rfl) dX2_init_30 ?_
  exact cw_ret F (fun i => [q7, q15, q23].getD i 0) rfl dX2_init_33
