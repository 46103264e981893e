/-! CONSTRUCTORS: UsageDeskModel -/
def mM1 : Mem := up mZ 0 25 1
theorem mM1_R : Rg mM1 := mZ_R.up (by decide)
def mN0 : Mem := up (fillM mM1 19 ((240 : Nat) : Int) (-1)) 0 50 0
def rsX11 (cI cZ cB : ClassId) (q : Nat) (u : Nat → Nat) : va_W := wsOf (shM 64) nM cI cZ cB (adQ q u) mN0
set_option maxRecDepth 100000 in
theorem l_X11 {R : Room} {K : Kt} (C : CtxG (shM 64) nM RX11 cX11_init 2 none R K) (M : Mem) (i : Int) (hi : 0 ≤ i ∧ i ≤ 240) (kk : K 360 [(0, .inr 0), (1, .inl 240)] [] (fillM M 19 240 (-1))) : K 340 [(0, .inr 0), (1, .inl i)] [] (fillM M 19 i (-1)) := by
  refine g_iload_n C dX11_init_340 rfl rfl ?_
  refine g_sipush C dX11_init_341 (by decide) ?_
  refine g_icmp_ge C (tgt := 360) dX11_init_344 rfl (by omega) (by omega) (fun c7 => ?_) (fun c7 => ?_)
  · rw [show i = 240 by omega]; exact kk
  · refine g_aload_n C dX11_init_347 rfl rfl ?_
    refine g_getR C (j := 23) okC11 rfl (by decide) (by decide) rfl flX11_65 dX11_init_348 ?_
    refine g_iload_n C dX11_init_351 rfl rfl ?_
    refine g_iconst C dX11_init_352 ?_
    refine g_iastore C rfl (by decide) (by decide) ⟨by omega, by omega⟩ (by decide) dX11_init_353 ?_
    refine g_iinc C dX11_init_354 (by decide) rfl ?_
    refine g_goto C (tgt := 340) dX11_init_357 rfl ?_
    refine g_cut2 C (lv' := [(0, _), (1, _)]) ⟨rfl, rfl, trivial⟩ ?_
    rw [fillM_s M 19 (-1) hi.1]
    exact l_X11 C M (i + 1) (by omega) kk
termination_by (240 - i).toNat
decreasing_by all_goals omega
set_option maxHeartbeats 4000000 in
set_option maxRecDepth 100000 in
theorem cn_X11 : CnI yX11_init cX11_init 2 { frames := 3, cells := 38, slots := 93004, locals := 192 } (.inr (11, nlX11)) [] rsX11 := by
  refine CnI_of (by decide +kernel) rfl (fun q => Nat.le_of_ble_eq_true rfl) ?_
  intro p l e s m below meth c D cI cZ cB q A F hin
  refine cw_aload F 0 rfl dX11_init_0 ?_
  refine cw_obj F ow_X11 ⟨Nat.le_of_ble_eq_true rfl, Nat.le_of_ble_eq_true rfl⟩ dX11_init_1 ?_
  refine cw_aload F 0 rfl dX11_init_4 ?_
  refine cw_bipush F 12 (by decide) dX11_init_5 ?_
  refine cw_newa F (ty := .int) rfl 0 rfl (fun _ h => h) arr_int rfl (n := 12) (by decide) (by decide) (Nat.le_of_ble_eq_true rfl) ⟨Nat.le_of_ble_eq_true rfl, Nat.le_of_ble_eq_true rfl⟩ dX11_init_7 (fun q7 => ?_)
  refine cw_putF F okC11 hin (by decide) flX11_9 rfl rfl rfl rfl (Nat.le_of_ble_eq_true rfl) dX11_init_9 ?_
  refine cw_aload F 0 rfl dX11_init_12 ?_
  refine cw_sipush F 720 (by decide) dX11_init_13 ?_
  refine cw_newa F (ty := .int) rfl 0 rfl (fun _ h => h) arr_int rfl (n := 720) (by decide) (by decide) (Nat.le_of_ble_eq_true rfl) ⟨Nat.le_of_ble_eq_true rfl, Nat.le_of_ble_eq_true rfl⟩ dX11_init_16 (fun q16 => ?_)
  refine cw_putF F okC11 hin (by decide) flX11_13 rfl rfl rfl rfl (Nat.le_of_ble_eq_true rfl) dX11_init_18 ?_
  refine cw_aload F 0 rfl dX11_init_21 ?_
  refine cw_bipush F 60 (by decide) dX11_init_22 ?_
  refine cw_newa F (ty := .int) rfl 0 rfl (fun _ h => h) arr_int rfl (n := 60) (by decide) (by decide) (Nat.le_of_ble_eq_true rfl) ⟨Nat.le_of_ble_eq_true rfl, Nat.le_of_ble_eq_true rfl⟩ dX11_init_24 (fun q24 => ?_)
  refine cw_putF F okC11 hin (by decide) flX11_16 rfl rfl rfl rfl (Nat.le_of_ble_eq_true rfl) dX11_init_26 ?_
  refine cw_aload F 0 rfl dX11_init_29 ?_
  refine cw_bipush F 60 (by decide) dX11_init_30 ?_
  refine cw_newa F (ty := .boolean) rfl 1 rfl (fun _ h => h) arr_boolean rfl (n := 60) (by decide) (by decide) (Nat.le_of_ble_eq_true rfl) ⟨Nat.le_of_ble_eq_true rfl, Nat.le_of_ble_eq_true rfl⟩ dX11_init_32 (fun q32 => ?_)
  refine cw_putF F okC11 hin (by decide) flX11_19 rfl rfl rfl rfl (Nat.le_of_ble_eq_true rfl) dX11_init_34 ?_
  refine cw_aload F 0 rfl dX11_init_37 ?_
  refine cw_bipush F 60 (by decide) dX11_init_38 ?_
  refine cw_newa F (ty := .boolean) rfl 1 rfl (fun _ h => h) arr_boolean rfl (n := 60) (by decide) (by decide) (Nat.le_of_ble_eq_true rfl) ⟨Nat.le_of_ble_eq_true rfl, Nat.le_of_ble_eq_true rfl⟩ dX11_init_40 (fun q40 => ?_)
  refine cw_putF F okC11 hin (by decide) flX11_23 rfl rfl rfl rfl (Nat.le_of_ble_eq_true rfl) dX11_init_42 ?_
  refine cw_aload F 0 rfl dX11_init_45 ?_
  refine cw_bipush F 60 (by decide) dX11_init_46 ?_
  refine cw_newa F (ty := .int) rfl 0 rfl (fun _ h => h) arr_int rfl (n := 60) (by decide) (by decide) (Nat.le_of_ble_eq_true rfl) ⟨Nat.le_of_ble_eq_true rfl, Nat.le_of_ble_eq_true rfl⟩ dX11_init_48 (fun q48 => ?_)
  refine cw_putF F okC11 hin (by decide) flX11_26 rfl rfl rfl rfl (Nat.le_of_ble_eq_true rfl) dX11_init_50 ?_
  refine cw_aload F 0 rfl dX11_init_53 ?_
  refine cw_bipush F 60 (by decide) dX11_init_54 ?_
  refine cw_newa F (ty := .boolean) rfl 1 rfl (fun _ h => h) arr_boolean rfl (n := 60) (by decide) (by decide) (Nat.le_of_ble_eq_true rfl) ⟨Nat.le_of_ble_eq_true rfl, Nat.le_of_ble_eq_true rfl⟩ dX11_init_56 (fun q56 => ?_)
  refine cw_putF F okC11 hin (by decide) flX11_29 rfl rfl rfl rfl (Nat.le_of_ble_eq_true rfl) dX11_init_58 ?_
  refine cw_aload F 0 rfl dX11_init_61 ?_
  refine cw_sipush F 5776 (by decide) dX11_init_62 ?_
  refine cw_newa F (ty := .int) rfl 0 rfl (fun _ h => h) arr_int rfl (n := 5776) (by decide) (by decide) (Nat.le_of_ble_eq_true rfl) ⟨Nat.le_of_ble_eq_true rfl, Nat.le_of_ble_eq_true rfl⟩ dX11_init_65 (fun q65 => ?_)
  refine cw_putF F okC11 hin (by decide) flX11_32 rfl rfl rfl rfl (Nat.le_of_ble_eq_true rfl) dX11_init_67 ?_
  refine cw_aload F 0 rfl dX11_init_70 ?_
  refine cw_sipush F 722 (by decide) dX11_init_71 ?_
  refine cw_newa F (ty := .int) rfl 0 rfl (fun _ h => h) arr_int rfl (n := 722) (by decide) (by decide) (Nat.le_of_ble_eq_true rfl) ⟨Nat.le_of_ble_eq_true rfl, Nat.le_of_ble_eq_true rfl⟩ dX11_init_74 (fun q74 => ?_)
  refine cw_putF F okC11 hin (by decide) flX11_35 rfl rfl rfl rfl (Nat.le_of_ble_eq_true rfl) dX11_init_76 ?_
  refine cw_aload F 0 rfl dX11_init_79 ?_
  refine cw_sipush F 722 (by decide) dX11_init_80 ?_
  refine cw_newa F (ty := .int) rfl 0 rfl (fun _ h => h) arr_int rfl (n := 722) (by decide) (by decide) (Nat.le_of_ble_eq_true rfl) ⟨Nat.le_of_ble_eq_true rfl, Nat.le_of_ble_eq_true rfl⟩ dX11_init_83 (fun q83 => ?_)
  refine cw_putF F okC11 hin (by decide) flX11_38 rfl rfl rfl rfl (Nat.le_of_ble_eq_true rfl) dX11_init_85 ?_
  refine cw_aload F 0 rfl dX11_init_88 ?_
  refine cw_sipush F 5776 (by decide) dX11_init_89 ?_
  refine cw_newa F (ty := .int) rfl 0 rfl (fun _ h => h) arr_int rfl (n := 5776) (by decide) (by decide) (Nat.le_of_ble_eq_true rfl) ⟨Nat.le_of_ble_eq_true rfl, Nat.le_of_ble_eq_true rfl⟩ dX11_init_92 (fun q92 => ?_)
  refine cw_putF F okC11 hin (by decide) flX11_41 rfl rfl rfl rfl (Nat.le_of_ble_eq_true rfl) dX11_init_94 ?_
  refine cw_aload F 0 rfl dX11_init_97 ?_
  refine cw_sipush F 722 (by decide) dX11_init_98 ?_
  refine cw_newa F (ty := .int) rfl 0 rfl (fun _ h => h) arr_int rfl (n := 722) (by decide) (by decide) (Nat.le_of_ble_eq_true rfl) ⟨Nat.le_of_ble_eq_true rfl, Nat.le_of_ble_eq_true rfl⟩ dX11_init_101 (fun q101 => ?_)
  refine cw_putF F okC11 hin (by decide) flX11_44 rfl rfl rfl rfl (Nat.le_of_ble_eq_true rfl) dX11_init_103 ?_
  refine cw_aload F 0 rfl dX11_init_106 ?_
  refine cw_sipush F 722 (by decide) dX11_init_107 ?_
  refine cw_newa F (ty := .int) rfl 0 rfl (fun _ h => h) arr_int rfl (n := 722) (by decide) (by decide) (Nat.le_of_ble_eq_true rfl) ⟨Nat.le_of_ble_eq_true rfl, Nat.le_of_ble_eq_true rfl⟩ dX11_init_110 (fun q110 => ?_)
  refine cw_putF F okC11 hin (by decide) flX11_47 rfl rfl rfl rfl (Nat.le_of_ble_eq_true rfl) dX11_init_112 ?_
  refine cw_aload F 0 rfl dX11_init_115 ?_
  refine cw_sipush F 5776 (by decide) dX11_init_116 ?_
  refine cw_newa F (ty := .int) rfl 0 rfl (fun _ h => h) arr_int rfl (n := 5776) (by decide) (by decide) (Nat.le_of_ble_eq_true rfl) ⟨Nat.le_of_ble_eq_true rfl, Nat.le_of_ble_eq_true rfl⟩ dX11_init_119 (fun q119 => ?_)
  refine cw_putF F okC11 hin (by decide) flX11_50 rfl rfl rfl rfl (Nat.le_of_ble_eq_true rfl) dX11_init_121 ?_
  refine cw_aload F 0 rfl dX11_init_124 ?_
  refine cw_sipush F 14440 (by decide) dX11_init_125 ?_
  refine cw_newa F (ty := .int) rfl 0 rfl (fun _ h => h) arr_int rfl (n := 14440) (by decide) (by decide) (Nat.le_of_ble_eq_true rfl) ⟨Nat.le_of_ble_eq_true rfl, Nat.le_of_ble_eq_true rfl⟩ dX11_init_128 (fun q128 => ?_)
  refine cw_putF F okC11 hin (by decide) flX11_53 rfl rfl rfl rfl (Nat.le_of_ble_eq_true rfl) dX11_init_130 ?_
  refine cw_aload F 0 rfl dX11_init_133 ?_
  refine cw_sipush F 14440 (by decide) dX11_init_134 ?_
  refine cw_newa F (ty := .int) rfl 0 rfl (fun _ h => h) arr_int rfl (n := 14440) (by decide) (by decide) (Nat.le_of_ble_eq_true rfl) ⟨Nat.le_of_ble_eq_true rfl, Nat.le_of_ble_eq_true rfl⟩ dX11_init_137 (fun q137 => ?_)
  refine cw_putF F okC11 hin (by decide) flX11_56 rfl rfl rfl rfl (Nat.le_of_ble_eq_true rfl) dX11_init_139 ?_
  refine cw_aload F 0 rfl dX11_init_142 ?_
  refine cw_sipush F 7220 (by decide) dX11_init_143 ?_
  refine cw_newa F (ty := .int) rfl 0 rfl (fun _ h => h) arr_int rfl (n := 7220) (by decide) (by decide) (Nat.le_of_ble_eq_true rfl) ⟨Nat.le_of_ble_eq_true rfl, Nat.le_of_ble_eq_true rfl⟩ dX11_init_146 (fun q146 => ?_)
  refine cw_putF F okC11 hin (by decide) flX11_59 rfl rfl rfl rfl (Nat.le_of_ble_eq_true rfl) dX11_init_148 ?_
  refine cw_aload F 0 rfl dX11_init_151 ?_
  refine cw_sipush F 7220 (by decide) dX11_init_152 ?_
  refine cw_newa F (ty := .int) rfl 0 rfl (fun _ h => h) arr_int rfl (n := 7220) (by decide) (by decide) (Nat.le_of_ble_eq_true rfl) ⟨Nat.le_of_ble_eq_true rfl, Nat.le_of_ble_eq_true rfl⟩ dX11_init_155 (fun q155 => ?_)
  refine cw_putF F okC11 hin (by decide) flX11_62 rfl rfl rfl rfl (Nat.le_of_ble_eq_true rfl) dX11_init_157 ?_
  refine cw_aload F 0 rfl dX11_init_160 ?_
  refine cw_sipush F 240 (by decide) dX11_init_161 ?_
  refine cw_newa F (ty := .int) rfl 0 rfl (fun _ h => h) arr_int rfl (n := 240) (by decide) (by decide) (Nat.le_of_ble_eq_true rfl) ⟨Nat.le_of_ble_eq_true rfl, Nat.le_of_ble_eq_true rfl⟩ dX11_init_164 (fun q164 => ?_)
  refine cw_putF F okC11 hin (by decide) flX11_65 rfl rfl rfl rfl (Nat.le_of_ble_eq_true rfl) dX11_init_166 ?_
  refine cw_aload F 0 rfl dX11_init_169 ?_
  refine cw_sipush F 240 (by decide) dX11_init_170 ?_
  refine cw_newa F (ty := .int) rfl 0 rfl (fun _ h => h) arr_int rfl (n := 240) (by decide) (by decide) (Nat.le_of_ble_eq_true rfl) ⟨Nat.le_of_ble_eq_true rfl, Nat.le_of_ble_eq_true rfl⟩ dX11_init_173 (fun q173 => ?_)
  refine cw_putF F okC11 hin (by decide) flX11_68 rfl rfl rfl rfl (Nat.le_of_ble_eq_true rfl) dX11_init_175 ?_
  refine cw_aload F 0 rfl dX11_init_178 ?_
  refine cw_bipush F 30 (by decide) dX11_init_179 ?_
  refine cw_newa F (ty := .int) rfl 0 rfl (fun _ h => h) arr_int rfl (n := 30) (by decide) (by decide) (Nat.le_of_ble_eq_true rfl) ⟨Nat.le_of_ble_eq_true rfl, Nat.le_of_ble_eq_true rfl⟩ dX11_init_181 (fun q181 => ?_)
  refine cw_putF F okC11 hin (by decide) flX11_71 rfl rfl rfl rfl (Nat.le_of_ble_eq_true rfl) dX11_init_183 ?_
  refine cw_aload F 0 rfl dX11_init_186 ?_
  refine cw_bipush F 16 (by decide) dX11_init_187 ?_
  refine cw_newa F (ty := .int) rfl 0 rfl (fun _ h => h) arr_int rfl (n := 16) (by decide) (by decide) (Nat.le_of_ble_eq_true rfl) ⟨Nat.le_of_ble_eq_true rfl, Nat.le_of_ble_eq_true rfl⟩ dX11_init_189 (fun q189 => ?_)
  refine cw_putF F okC11 hin (by decide) flX11_74 rfl rfl rfl rfl (Nat.le_of_ble_eq_true rfl) dX11_init_191 ?_
  refine cw_aload F 0 rfl dX11_init_194 ?_
  refine cw_bipush F 24 (by decide) dX11_init_195 ?_
  refine cw_newa F (ty := .int) rfl 0 rfl (fun _ h => h) arr_int rfl (n := 24) (by decide) (by decide) (Nat.le_of_ble_eq_true rfl) ⟨Nat.le_of_ble_eq_true rfl, Nat.le_of_ble_eq_true rfl⟩ dX11_init_197 (fun q197 => ?_)
  refine cw_putF F okC11 hin (by decide) flX11_77 rfl rfl rfl rfl (Nat.le_of_ble_eq_true rfl) dX11_init_199 ?_
  refine cw_aload F 0 rfl dX11_init_202 ?_
  refine cw_sipush F 200 (by decide) dX11_init_203 ?_
  refine cw_newa F (ty := .byte) rfl 2 rfl (fun _ h => h) arr_byte rfl (n := 200) (by decide) (by decide) (Nat.le_of_ble_eq_true rfl) ⟨Nat.le_of_ble_eq_true rfl, Nat.le_of_ble_eq_true rfl⟩ dX11_init_206 (fun q206 => ?_)
  refine cw_putF F okC11 hin (by decide) flX11_80 rfl rfl rfl rfl (Nat.le_of_ble_eq_true rfl) dX11_init_208 ?_
  refine cw_aload F 0 rfl dX11_init_211 ?_
  refine cw_sipush F 1200 (by decide) dX11_init_212 ?_
  refine cw_newa F (ty := .int) rfl 0 rfl (fun _ h => h) arr_int rfl (n := 1200) (by decide) (by decide) (Nat.le_of_ble_eq_true rfl) ⟨Nat.le_of_ble_eq_true rfl, Nat.le_of_ble_eq_true rfl⟩ dX11_init_215 (fun q215 => ?_)
  refine cw_putF F okC11 hin (by decide) flX11_84 rfl rfl rfl rfl (Nat.le_of_ble_eq_true rfl) dX11_init_217 ?_
  refine cw_aload F 0 rfl dX11_init_220 ?_
  refine cw_sipush F 1200 (by decide) dX11_init_221 ?_
  refine cw_newa F (ty := .int) rfl 0 rfl (fun _ h => h) arr_int rfl (n := 1200) (by decide) (by decide) (Nat.le_of_ble_eq_true rfl) ⟨Nat.le_of_ble_eq_true rfl, Nat.le_of_ble_eq_true rfl⟩ dX11_init_224 (fun q224 => ?_)
  refine cw_putF F okC11 hin (by decide) flX11_87 rfl rfl rfl rfl (Nat.le_of_ble_eq_true rfl) dX11_init_226 ?_
  refine cw_aload F 0 rfl dX11_init_229 ?_
  refine cw_sipush F 1200 (by decide) dX11_init_230 ?_
  refine cw_newa F (ty := .int) rfl 0 rfl (fun _ h => h) arr_int rfl (n := 1200) (by decide) (by decide) (Nat.le_of_ble_eq_true rfl) ⟨Nat.le_of_ble_eq_true rfl, Nat.le_of_ble_eq_true rfl⟩ dX11_init_233 (fun q233 => ?_)
  refine cw_putF F okC11 hin (by decide) flX11_90 rfl rfl rfl rfl (Nat.le_of_ble_eq_true rfl) dX11_init_235 ?_
  refine cw_aload F 0 rfl dX11_init_238 ?_
  refine cw_sipush F 1200 (by decide) dX11_init_239 ?_
  refine cw_newa F (ty := .int) rfl 0 rfl (fun _ h => h) arr_int rfl (n := 1200) (by decide) (by decide) (Nat.le_of_ble_eq_true rfl) ⟨Nat.le_of_ble_eq_true rfl, Nat.le_of_ble_eq_true rfl⟩ dX11_init_242 (fun q242 => ?_)
  refine cw_putF F okC11 hin (by decide) flX11_93 rfl rfl rfl rfl (Nat.le_of_ble_eq_true rfl) dX11_init_244 ?_
  refine cw_aload F 0 rfl dX11_init_247 ?_
  refine cw_sipush F 1200 (by decide) dX11_init_248 ?_
  refine cw_newa F (ty := .int) rfl 0 rfl (fun _ h => h) arr_int rfl (n := 1200) (by decide) (by decide) (Nat.le_of_ble_eq_true rfl) ⟨Nat.le_of_ble_eq_true rfl, Nat.le_of_ble_eq_true rfl⟩ dX11_init_251 (fun q251 => ?_)
  refine cw_putF F okC11 hin (by decide) flX11_96 rfl rfl rfl rfl (Nat.le_of_ble_eq_true rfl) dX11_init_253 ?_
  refine cw_aload F 0 rfl dX11_init_256 ?_
  refine cw_sipush F 1200 (by decide) dX11_init_257 ?_
  refine cw_newa F (ty := .int) rfl 0 rfl (fun _ h => h) arr_int rfl (n := 1200) (by decide) (by decide) (Nat.le_of_ble_eq_true rfl) ⟨Nat.le_of_ble_eq_true rfl, Nat.le_of_ble_eq_true rfl⟩ dX11_init_260 (fun q260 => ?_)
  refine cw_putF F okC11 hin (by decide) flX11_99 rfl rfl rfl rfl (Nat.le_of_ble_eq_true rfl) dX11_init_262 ?_
  refine cw_aload F 0 rfl dX11_init_265 ?_
  refine cw_sipush F 18600 (by decide) dX11_init_266 ?_
  refine cw_newa F (ty := .int) rfl 0 rfl (fun _ h => h) arr_int rfl (n := 18600) (by decide) (by decide) (Nat.le_of_ble_eq_true rfl) ⟨Nat.le_of_ble_eq_true rfl, Nat.le_of_ble_eq_true rfl⟩ dX11_init_269 (fun q269 => ?_)
  refine cw_putF F okC11 hin (by decide) flX11_102 rfl rfl rfl rfl (Nat.le_of_ble_eq_true rfl) dX11_init_271 ?_
  refine cw_aload F 0 rfl dX11_init_274 ?_
  refine cw_sipush F 620 (by decide) dX11_init_275 ?_
  refine cw_newa F (ty := .boolean) rfl 1 rfl (fun _ h => h) arr_boolean rfl (n := 620) (by decide) (by decide) (Nat.le_of_ble_eq_true rfl) ⟨Nat.le_of_ble_eq_true rfl, Nat.le_of_ble_eq_true rfl⟩ dX11_init_278 (fun q278 => ?_)
  refine cw_putF F okC11 hin (by decide) flX11_105 rfl rfl rfl rfl (Nat.le_of_ble_eq_true rfl) dX11_init_280 ?_
  refine cw_aload F 0 rfl dX11_init_283 ?_
  refine cw_sipush F 620 (by decide) dX11_init_284 ?_
  refine cw_newa F (ty := .boolean) rfl 1 rfl (fun _ h => h) arr_boolean rfl (n := 620) (by decide) (by decide) (Nat.le_of_ble_eq_true rfl) ⟨Nat.le_of_ble_eq_true rfl, Nat.le_of_ble_eq_true rfl⟩ dX11_init_287 (fun q287 => ?_)
  refine cw_putF F okC11 hin (by decide) flX11_108 rfl rfl rfl rfl (Nat.le_of_ble_eq_true rfl) dX11_init_289 ?_
  refine cw_aload F 0 rfl dX11_init_292 ?_
  refine cw_bipush F 64 (by decide) dX11_init_293 ?_
  refine cw_newa F (ty := .int) rfl 0 rfl (fun _ h => h) arr_int rfl (n := 64) (by decide) (by decide) (Nat.le_of_ble_eq_true rfl) ⟨Nat.le_of_ble_eq_true rfl, Nat.le_of_ble_eq_true rfl⟩ dX11_init_295 (fun q295 => ?_)
  refine cw_put F okC11 (by decide) flX11_111 rfl rfl rfl (Nat.le_of_ble_eq_true rfl) dX11_init_297 ?_
  refine cw_aload F 0 rfl dX11_init_300 ?_
  refine cw_sipush F 390 (by decide) dX11_init_301 ?_
  refine cw_newa F (ty := .int) rfl 0 rfl (fun _ h => h) arr_int rfl (n := 390) (by decide) (by decide) (Nat.le_of_ble_eq_true rfl) ⟨Nat.le_of_ble_eq_true rfl, Nat.le_of_ble_eq_true rfl⟩ dX11_init_304 (fun q304 => ?_)
  refine cw_putF F okC11 hin (by decide) flX11_114 rfl rfl rfl rfl (Nat.le_of_ble_eq_true rfl) dX11_init_306 ?_
  refine cw_aload F 0 rfl dX11_init_309 ?_
  refine cw_bipush F 64 (by decide) dX11_init_310 ?_
  refine cw_newa F (ty := .int) rfl 0 rfl (fun _ h => h) arr_int rfl (n := 64) (by decide) (by decide) (Nat.le_of_ble_eq_true rfl) ⟨Nat.le_of_ble_eq_true rfl, Nat.le_of_ble_eq_true rfl⟩ dX11_init_312 (fun q312 => ?_)
  refine cw_putF F okC11 hin (by decide) flX11_117 rfl rfl rfl rfl (Nat.le_of_ble_eq_true rfl) dX11_init_314 ?_
  refine cw_aload F 0 rfl dX11_init_317 ?_
  refine cw_bipush F 64 (by decide) dX11_init_318 ?_
  refine cw_newa F (ty := .int) rfl 0 rfl (fun _ h => h) arr_int rfl (n := 64) (by decide) (by decide) (Nat.le_of_ble_eq_true rfl) ⟨Nat.le_of_ble_eq_true rfl, Nat.le_of_ble_eq_true rfl⟩ dX11_init_320 (fun q320 => ?_)
  refine cw_putF F okC11 hin (by decide) flX11_120 rfl rfl rfl rfl (Nat.le_of_ble_eq_true rfl) dX11_init_322 ?_
  refine cw_aload F 0 rfl dX11_init_325 ?_
  refine cw_bipush F 64 (by decide) dX11_init_326 ?_
  refine cw_newa F (ty := .int) rfl 0 rfl (fun _ h => h) arr_int rfl (n := 64) (by decide) (by decide) (Nat.le_of_ble_eq_true rfl) ⟨Nat.le_of_ble_eq_true rfl, Nat.le_of_ble_eq_true rfl⟩ dX11_init_328 (fun q328 => ?_)
  refine cw_putF F okC11 hin (by decide) flX11_123 rfl rfl rfl rfl (Nat.le_of_ble_eq_true rfl) dX11_init_330 ?_
  refine cw_aload F 0 rfl dX11_init_333 ?_
  refine cw_iconst F 1 (by decide) dX11_init_334 ?_
  refine cw_put F okC11 (by decide) flX11_126 rfl rfl rfl (Nat.le_of_ble_eq_true rfl) dX11_init_335 ?_
  refine cw_kk (sh := shM 64) (N := nM) (ad := adQ q (fun i => [q7, q16, q24, q32, q40, q48, q56, q65, q74, q83, q92, q101, q110, q119, q128, q137, q146, q155, q164, q173, q181, q189, q197, q206, q215, q224, q233, q242, q251, q260, q269, q278, q287, q295, q304, q312, q320, q328].getD i 0)) (M := mM1) (cI := cI) (cZ := cZ) (cB := cB) (lv' := [(0, .inr 0)]) (stk' := []) rfl rfl rfl mM1_R (fun D1 => ?_)
  have C1 := F.g (l := l) (e := e) (below := below) (R := { frames := 3, cells := 38, slots := 93004, locals := 192 }) (Q := MQ below (va_Qv (fun _ : Nat → Nat => True) (fun u t => va_P D vwCl (rsX11 cI cZ cB q u) t.heap ∧ va_D A (rsX11 cI cZ cB q u)) A) (Value.ref q :: []).toArray s 38 93004 A) D1 (ce := 38) (sn := 93004) ⟨Nat.le_refl _, Nat.le_refl _⟩
  refine g_iconst C1 dX11_init_338 ?_
  refine g_istore_n C1 dX11_init_339 rfl (by decide) ?_
  refine g_cut2 C1 (lv' := [(0, _), (1, _)]) ⟨rfl, rfl, trivial⟩ ?_
  have h := l_X11 C1 mM1 0 (by omega)
  rw [fillM_0] at h
  refine h ?_
  refine g_aload_n C1 dX11_init_360 rfl rfl ?_
  refine g_callV C1 okX11_130 dX11_init_361 (c_M_clearBreak 64 _) rfl rfl (by decide) rfl ⟨rfl, rfl, Nat.le_of_ble_eq_true rfl, Nat.le_of_ble_eq_true rfl⟩ rfl (Nat.le_of_ble_eq_true rfl) (fun r6 M6 hr6 hp6 => ?_)
  subst hp6
  intro hM4 H4 locs4 ls4 hP4 hS4 hl4
  exact W.vret F.1.1 F.1.2.1 F.2.1.1 (fun t ht hW => ⟨⟨fun i => [q7, q16, q24, q32, q40, q48, q56, q65, q74, q83, q92, q101, q110, q119, q128, q137, q146, q155, q164, q173, q181, q189, q197, q206, q215, q224, q233, q242, q251, q260, q269, q278, q287, q295, q304, q312, q320, q328].getD i 0, rfl, trivial, by rw [ht]; exact hP4, D1 _⟩, hS4.F ht⟩) hS4.2.2 dX11_init_364 F.2.1.2.1
