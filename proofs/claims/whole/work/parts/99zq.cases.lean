/-! THE LAW: what holds in its loop -/
/-- what stays the same in the law's frame -/
def LCx (p : Program) (l : Launch) (s : State) (m : MethodId) (c : Code) (b L : Nat) (xs : Nat → Int32) (D : va_G) (cI cZ cB cJ : ClassId) (A : Nat → Prop) : Prop :=
  FL p s m #[Value.ref b] c D cI cZ cB [(cJ, .long)] A RL code 7 ∧ l.stackTraces = false ∧ ThW s ∧ (∀ (q : Addr) (cell : Cell), s.heap[q]? = some cell → cell.vm.isStatics = true → ¬ A q) ∧ (va_X b L xs s s.heap ∧ b < s.heap.size ∧ ¬ A b) ∧ L ≤ 3072
/-- the two objects and the row for answers -/
def PSt (s : State) (D : va_G) (cI cZ cB cJ : ClassId) (A : Nat → Prop) (adC adM : Nat → Nat) (ao : Nat) (C N : Mem) (bl : Nat) (f : Nat → Int64) (H : Heap) (locs : List Loc) : Prop :=
  Rg C ∧ Rg N ∧ va_P D vwCl (wsO cI cZ cB cJ adC ao C f ++ wsOf (shM bl) nM cI cZ cB adM N) H ∧ va_D A (wsO cI cZ cB cJ adC ao C f ++ wsOf (shM bl) nM cI cZ cB adM N) ∧ va_S A s.heap H locs
def LSt (s : State) (D : va_G) (cI cZ cB cJ : ClassId) (A : Nat → Prop) (adC adM : Nat → Nat) (ao : Nat) (C N : Mem) (bl : Nat) (f : Nat → Int64) (H : Heap) (locs : List Loc) : Prop :=
  Rel C N bl ∧ (64 ≤ bl ∧ bl ≤ 12062) ∧ PSt s D cI cZ cB cJ A adC adM ao C N bl f H locs
def sc (xs : Nat → Int32) (i : Int) : Int := (xs i.toNat).toInt
theorem sc_R (xs : Nat → Int32) (i : Int) : inR (sc xs i) := ⟨Int32.le_toInt _, Int32.toInt_lt _⟩
theorem lg_cmp_self (x : Int64) : lg_cmp x x = 0 := by
  unfold lg_cmp
  rw [if_neg (by rw [gt_iff_lt, Int64.lt_iff_toInt_lt]; omega), if_pos rfl]
abbrev lvL (b : Nat) (xa ma ao : Nat) (i : Int) : List (Nat × Value) := [(0, .ref b), (1, .ref xa), (2, .ref ma), (3, .ref ao), (4, .int (Int32.ofInt i))]
section LZ
variable {p : Program} {l : Launch} {e : Env} {s : State} {m : MethodId} {below : List Frame} {meth : Method} {c : Code} {b L : Nat} {xs : Nat → Int32} {D : va_G} {cI cZ cB cJ : ClassId} {A : Nat → Prop} {Q : State → Prop}
variable {adC adM : Nat → Nat} {ao : Nat} {C N : Mem} {bl : Nat} {f : Nat → Int64} {H : Heap} {locs : List Loc} {ce sn pc : Nat} {ls : Array Slot} {rest st0 : List Value}
theorem lz_sc (X : LCx p l s m c b L xs D cI cZ cB cJ A) (hS : va_S A s.heap H locs) {i j : Int} (hi : 0 ≤ i + j ∧ i + j < L) (l0 : ls[0]? = some (.val (.ref b))) (l4 : ls[4]? = some (.val (.int (Int32.ofInt i)))) (d0 : decode code pc = .ok (.aload_n 0, 1)) (d1 : decode code (pc + 1) = .ok (.iload 4, 2)) (d3 : decode code (pc + 3) = .ok (.iconst j, 1)) (d4 : decode code (pc + 4) = .ok (.iadd, 1)) (d5 : decode code (pc + 5) = .ok (.iaload, 1))
    (kk : W p l e room_1 s m #[Value.ref b] below meth c H locs ce sn Q (F0 m (pc + 6) ls (.int (Int32.ofInt (sc xs (i + j))) :: rest))) : W p l e room_1 s m #[Value.ref b] below meth c H locs ce sn Q (F0 m pc ls rest) := by
  obtain ⟨⟨⟨hx, hb, hml, hown, hts⟩, hns, hK, hA⟩, -, -, -, ⟨x1, x2, x3⟩, hL⟩ := X
  have hin := oI_in (z := i + j) (n := L) hi.1 hi.2 (by omega)
  refine lv_aload_n hx hb d0 rfl l0 ?_
  refine lv_iload hx hb d1 l4 ?_
  refine lv_iconst hx hb d3 rfl ?_
  refine lv_iadd hx hb d4 ?_
  rw [← Int32.ofInt_add]
  refine va_sld hx hb x1 x2 x3 hS hin.1 d5 ?_
  have e1 : (Int32.ofInt (i + j)).toNatClampNeg = (i + j).toNat := by have := hin.2; omega
  have e2 : Int32.ofInt (sc xs (i + j)) = xs (Int32.ofInt (i + j)).toNatClampNeg := by rw [e1]; exact Int32.ofInt_toInt _
  rw [← e2]
  exact kk
theorem lz_C (X : LCx p l s m c b L xs D cI cZ cB cJ A) (S : PSt s D cI cZ cB cJ A adC adM ao C N bl f H locs) {y : MethodName} {bytes : ByteArray} {maxL index n : Nat} {ret' : Option FieldType} {rm : Room} {As : List V} {post' : Int → Mem → Prop}
    (hw : okV RL index y bytes maxL ret' n) (hyc : y.cls = RX10) (hd : decode code pc = .ok (.invokevirtual index, 3)) (hc : Ct shC nC y bytes maxL ret' rm (.inr 0 :: As) C post') (hrm : rm.cells = 0 ∧ rm.slots = 0 ∧ rm.frames + 1 ≤ room_1.frames ∧ 8 + (maxL + 11) + rm.locals ≤ room_1.locals) (hcs : ce ≤ 500000 ∧ sn ≤ 5000000) (hn : As.length = n) (h8 : (rest.map fun v => v.category).sum ≤ 8) (hsz : ls.size = 7) (hst : st0 = (As.map (vv adC)).reverse ++ .ref (adC 0) :: rest)
    (kk : ∀ r C' H1 locs1, inR r → post' r C' → PSt s D cI cZ cB cJ A adC adM ao C' N bl f H1 locs1 → W p l e room_1 s m #[Value.ref b] below meth c H1 locs1 ce sn Q (F0 m (pc + 3) ls (pshv ret' r rest))) : W p l e room_1 s m #[Value.ref b] below meth c H locs ce sn Q (F0 m pc ls st0) := by
  obtain ⟨hC, hN, hP, hD, hS⟩ := S
  refine lw_call X.1 (sh := shC) (N := nC) (ws2 := [(ao, oE cJ f)] ++ wsOf (shM bl) nM cI cZ cB adM N) hw hd hc rfl (by decide) (by rw [hyc]; exact okC10.1) hrm ⟨by show ce ≤ 601024; omega, by show sn ≤ 7293034; omega⟩ hn h8 hsz hst hC (by rw [← List.append_assoc]; exact hP) (by rw [← List.append_assoc]; exact hD) hS (fun r C' H1 locs1 hr hp hC1 hP1 hD1 hS1 => ?_)
  rw [← List.append_assoc] at hP1 hD1
  exact kk r C' H1 locs1 hr hp ⟨hC1, hN, hP1, hD1, hS1⟩
theorem lz_M (X : LCx p l s m c b L xs D cI cZ cB cJ A) (S : PSt s D cI cZ cB cJ A adC adM ao C N bl f H locs) {y : MethodName} {bytes : ByteArray} {maxL index n : Nat} {ret' : Option FieldType} {rm : Room} {As : List V} {post' : Int → Mem → Prop}
    (hw : okV RL index y bytes maxL ret' n) (hyc : y.cls = RX11) (hd : decode code pc = .ok (.invokevirtual index, 3)) (hc : Ct (shM bl) nM y bytes maxL ret' rm (.inr 0 :: As) N post') (hrm : rm.cells = 0 ∧ rm.slots = 0 ∧ rm.frames + 1 ≤ room_1.frames ∧ 8 + (maxL + 11) + rm.locals ≤ room_1.locals) (hcs : ce ≤ 500000 ∧ sn ≤ 5000000) (hn : As.length = n) (h8 : (rest.map fun v => v.category).sum ≤ 8) (hsz : ls.size = 7) (hst : st0 = (As.map (vv adM)).reverse ++ .ref (adM 0) :: rest)
    (kk : ∀ r N' H1 locs1, inR r → post' r N' → PSt s D cI cZ cB cJ A adC adM ao C N' bl f H1 locs1 → W p l e room_1 s m #[Value.ref b] below meth c H1 locs1 ce sn Q (F0 m (pc + 3) ls (pshv ret' r rest))) : W p l e room_1 s m #[Value.ref b] below meth c H locs ce sn Q (F0 m pc ls st0) := by
  obtain ⟨hC, hN, hP, hD, hS⟩ := S
  refine lw_call X.1 (sh := shM bl) (N := nM) (ws2 := wsO cI cZ cB cJ adC ao C f) hw hd hc rfl (by decide) (by rw [hyc]; exact okC11.1) hrm ⟨by show ce ≤ 601024; omega, by show sn ≤ 7293034; omega⟩ hn h8 hsz hst hN (P_sw hP) (D_sw hD) hS (fun r N' H1 locs1 hr hp hN1 hP1 hD1 hS1 => ?_)
  exact kk r N' H1 locs1 hr hp ⟨hC, hN1, P_sw hP1, D_sw hD1, hS1⟩
theorem lz_W (X : LCx p l s m c b L xs D cI cZ cB cJ A) (S : PSt s D cI cZ cB cJ A adC adM ao C N bl f H locs) {y : MethodName} {bytes : ByteArray} {maxL index n : Nat} {hs : List (Nat × Nat × Nat × Nat)} {zs : List Int} {post : Int → Mem → Int64 → Prop} (hw : okW index y bytes maxL hs n) (hd : decode code pc = .ok (.invokestatic index, 3)) (hc : CtW y bytes maxL hs zs C post)
    (hmx : maxL ≤ 10) (hcs : ce ≤ 500000 ∧ sn ≤ 5000000) (hn : zs.length + 2 = n) (h8 : (rest.map fun v => v.category).sum ≤ 8) (hsz : ls.size = 7) (hst : st0 = (Value.ref (adC 0) :: (zs.map fun z => Value.int (Int32.ofInt z)) ++ [Value.ref ao]).reverse ++ rest)
    (kk : ∀ z C' f' H1 locs1, inR z → post z C' (f' 0) → PSt s D cI cZ cB cJ A adC adM ao C' N bl f' H1 locs1 → W p l e room_1 s m #[Value.ref b] below meth c H1 locs1 (ce + 1) (sn + 6) Q (F0 m (pc + 3) ls (.int (Int32.ofInt z) :: rest))) : W p l e room_1 s m #[Value.ref b] below meth c H locs ce sn Q (F0 m pc ls st0) := by
  obtain ⟨hC, hN, hP, hD, hS⟩ := S
  refine lw_callW X.1 X.2.1 X.2.2.1 X.2.2.2.1 hw hd hc ⟨by decide, by decide⟩ hmx ⟨by show ce + 1 ≤ 601024; omega, by show sn + 6 ≤ 7293034; omega⟩ hn h8 hsz hst hC hP hD hS (fun z C' f' H1 locs1 hz hp hC1 hP1 hD1 hS1 => ?_)
  exact kk z C' f' H1 locs1 hz hp ⟨hC1, hN, hP1, hD1, hS1⟩
end LZ
set_option maxHeartbeats 4000000 in
set_option maxRecDepth 100000 in
theorem cs_1 {p : Program} {l : Launch} {e : Env} {s : State} {m : MethodId} {below : List Frame} {meth : Method} {c : Code} {b L : Nat} {xs : Nat → Int32} {D : va_G} {cI cZ cB cJ : ClassId} {A : Nat → Prop} {Q : State → Prop} {adC adM : Nat → Nat} {ao : Nat} {C N : Mem} {bl : Nat} {f : Nat → Int64} {H : Heap} {locs : List Loc} {ce sn : Nat} {ls : Array Slot} (X : LCx p l s m c b L xs D cI cZ cB cJ A) (S : LSt s D cI cZ cB cJ A adC adM ao C N bl f H locs) {i : Int} (hi : 0 ≤ i ∧ i + 6 ≤ L) (hl : lv_has ls 7 (lvL b (adC 0) (adM 0) ao i)) (hcs : ce ≤ 400000 ∧ sn ≤ 4000000)
    (kk : ∀ (C' N' : Mem) (bl' : Nat) (adM' : Nat → Nat) (f' : Nat → Int64) (H' : Heap) (locs' : List Loc) (ls' : Array Slot) (ce' sn' : Nat), LSt s D cI cZ cB cJ A adC adM' ao C' N' bl' f' H' locs' → adM' 0 = adM 0 → lv_has ls' 7 (lvL b (adC 0) (adM 0) ao i) → ce' + 2 * bl = ce + 1 + 2 * bl' → sn' + 2 * bl = sn + 6 + 2 * bl' → W p l e room_1 s m #[Value.ref b] below meth c H' locs' ce' sn' Q (F0 m 955 ls' [])) :
    W p l e room_1 s m #[Value.ref b] below meth c H locs ce sn Q (F0 m 192 ls []) := by
  obtain ⟨hR, hbl, S⟩ := S
  have hM := r_M hR
  have hL := X.2.2.2.2.2
  refine lv_aload_n X.1.1.1 X.1.1.2.1 dL_law_192 rfl (lv_at hl 1 rfl) ?_
  refine lz_C X S (As := []) okL_55 rfl dL_law_193 (c_empty C) ⟨rfl, rfl, by decide, by decide⟩ ⟨by omega, by omega⟩ rfl (Nat.le_of_ble_eq_true rfl) hl.1 rfl (fun r C1 H1 locs1 hr hp S1 => ?_)
  refine lv_aload_n X.1.1.1 X.1.1.2.1 dL_law_196 rfl (lv_at hl 2 rfl) ?_
  refine lz_M X S1 (As := []) okL_58 rfl dL_law_197 (c_M_empty bl N) ⟨rfl, rfl, by decide, by decide⟩ ⟨by omega, by omega⟩ rfl (Nat.le_of_ble_eq_true rfl) hl.1 rfl (fun r2 N1 H2 locs2 hr2 hp2 S2 => ?_)
  obtain ⟨er, rel⟩ := r_empty hR hp hp2
  refine lv_icmp_eq X.1.1.1 X.1.1.2.1 (tgt := 955) dL_law_200 rfl (fun _ => ?_) (fun z => absurd (by rw [er]) z)
  exact (W.widen (Nat.le_add_right ce 1) (Nat.le_add_right sn 6) (kk _ _ bl adM _ _ _ _ _ _ ⟨rel, hbl, S2⟩ rfl hl (by omega) (by omega)))
set_option maxHeartbeats 4000000 in
set_option maxRecDepth 100000 in
theorem cs_2 {p : Program} {l : Launch} {e : Env} {s : State} {m : MethodId} {below : List Frame} {meth : Method} {c : Code} {b L : Nat} {xs : Nat → Int32} {D : va_G} {cI cZ cB cJ : ClassId} {A : Nat → Prop} {Q : State → Prop} {adC adM : Nat → Nat} {ao : Nat} {C N : Mem} {bl : Nat} {f : Nat → Int64} {H : Heap} {locs : List Loc} {ce sn : Nat} {ls : Array Slot} (X : LCx p l s m c b L xs D cI cZ cB cJ A) (S : LSt s D cI cZ cB cJ A adC adM ao C N bl f H locs) {i : Int} (hi : 0 ≤ i ∧ i + 6 ≤ L) (hl : lv_has ls 7 (lvL b (adC 0) (adM 0) ao i)) (hcs : ce ≤ 400000 ∧ sn ≤ 4000000)
    (kk : ∀ (C' N' : Mem) (bl' : Nat) (adM' : Nat → Nat) (f' : Nat → Int64) (H' : Heap) (locs' : List Loc) (ls' : Array Slot) (ce' sn' : Nat), LSt s D cI cZ cB cJ A adC adM' ao C' N' bl' f' H' locs' → adM' 0 = adM 0 → lv_has ls' 7 (lvL b (adC 0) (adM 0) ao i) → ce' + 2 * bl = ce + 1 + 2 * bl' → sn' + 2 * bl = sn + 6 + 2 * bl' → W p l e room_1 s m #[Value.ref b] below meth c H' locs' ce' sn' Q (F0 m 955 ls' [])) :
    W p l e room_1 s m #[Value.ref b] below meth c H locs ce sn Q (F0 m 205 ls []) := by
  obtain ⟨hR, hbl, S⟩ := S
  have hM := r_M hR
  have hL := X.2.2.2.2.2
  refine lv_aload_n X.1.1.1 X.1.1.2.1 dL_law_205 rfl (lv_at hl 1 rfl) ?_
  refine lz_sc X S.2.2.2.2 (i := i) (j := 1) ⟨by omega, by omega⟩ (lv_at hl 0 rfl) (lv_at hl 4 rfl) dL_law_206 dL_law_207 dL_law_209 dL_law_210 dL_law_211 ?_
  refine lz_C X S (As := [.inl (sc xs (i + 1))]) okL_59 rfl dL_law_212 (c_hand C hR.1.2.2 (sc xs (i + 1)) (sc_R xs (i + 1))) ⟨rfl, rfl, by decide, by decide⟩ ⟨by omega, by omega⟩ rfl (Nat.le_of_ble_eq_true rfl) hl.1 rfl (fun r C1 H1 locs1 hr hp S1 => ?_)
  refine lv_aload_n X.1.1.1 X.1.1.2.1 dL_law_215 rfl (lv_at hl 2 rfl) ?_
  refine lz_sc X S1.2.2.2.2 (i := i) (j := 1) ⟨by omega, by omega⟩ (lv_at hl 0 rfl) (lv_at hl 4 rfl) dL_law_216 dL_law_217 dL_law_219 dL_law_220 dL_law_221 ?_
  refine lz_M X S1 (As := [.inl (sc xs (i + 1))]) okL_62 rfl dL_law_222 (c_M_hand bl N hM.1 (sc xs (i + 1)) (sc_R xs (i + 1))) ⟨rfl, rfl, by decide, by decide⟩ ⟨by omega, by omega⟩ rfl (Nat.le_of_ble_eq_true rfl) hl.1 rfl (fun r2 N1 H2 locs2 hr2 hp2 S2 => ?_)
  obtain ⟨rfl, e1⟩ := hp
  obtain ⟨rfl, e2⟩ := hp2
  have rel := r_0 hR
  have er := r_hand hR e1 e2
  refine lv_icmp_eq X.1.1.1 X.1.1.2.1 (tgt := 955) dL_law_225 rfl (fun _ => ?_) (fun z => absurd (by rw [er]) z)
  exact (W.widen (Nat.le_add_right ce 1) (Nat.le_add_right sn 6) (kk _ _ bl adM _ _ _ _ _ _ ⟨rel, hbl, S2⟩ rfl hl (by omega) (by omega)))
set_option maxHeartbeats 4000000 in
set_option maxRecDepth 100000 in
theorem cs_3 {p : Program} {l : Launch} {e : Env} {s : State} {m : MethodId} {below : List Frame} {meth : Method} {c : Code} {b L : Nat} {xs : Nat → Int32} {D : va_G} {cI cZ cB cJ : ClassId} {A : Nat → Prop} {Q : State → Prop} {adC adM : Nat → Nat} {ao : Nat} {C N : Mem} {bl : Nat} {f : Nat → Int64} {H : Heap} {locs : List Loc} {ce sn : Nat} {ls : Array Slot} (X : LCx p l s m c b L xs D cI cZ cB cJ A) (S : LSt s D cI cZ cB cJ A adC adM ao C N bl f H locs) {i : Int} (hi : 0 ≤ i ∧ i + 6 ≤ L) (hl : lv_has ls 7 (lvL b (adC 0) (adM 0) ao i)) (hcs : ce ≤ 400000 ∧ sn ≤ 4000000)
    (kk : ∀ (C' N' : Mem) (bl' : Nat) (adM' : Nat → Nat) (f' : Nat → Int64) (H' : Heap) (locs' : List Loc) (ls' : Array Slot) (ce' sn' : Nat), LSt s D cI cZ cB cJ A adC adM' ao C' N' bl' f' H' locs' → adM' 0 = adM 0 → lv_has ls' 7 (lvL b (adC 0) (adM 0) ao i) → ce' + 2 * bl = ce + 1 + 2 * bl' → sn' + 2 * bl = sn + 6 + 2 * bl' → W p l e room_1 s m #[Value.ref b] below meth c H' locs' ce' sn' Q (F0 m 955 ls' [])) :
    W p l e room_1 s m #[Value.ref b] below meth c H locs ce sn Q (F0 m 230 ls []) := by
  obtain ⟨hR, hbl, S⟩ := S
  have hM := r_M hR
  have hL := X.2.2.2.2.2
  refine lv_aload_n X.1.1.1 X.1.1.2.1 dL_law_230 rfl (lv_at hl 1 rfl) ?_
  refine lz_sc X S.2.2.2.2 (i := i) (j := 1) ⟨by omega, by omega⟩ (lv_at hl 0 rfl) (lv_at hl 4 rfl) dL_law_231 dL_law_232 dL_law_234 dL_law_235 dL_law_236 ?_
  have go : ∀ (q : Int) (hq : q = 0 ∨ q = 1), (∀ (H' : Heap) (locs' : List Loc) (rest : List Value), W p l e room_1 s m #[Value.ref b] below meth c H' locs' ce sn Q (F0 m 263 ls (.int (Int32.ofInt q) :: rest)) → W p l e room_1 s m #[Value.ref b] below meth c H' locs' ce sn Q (F0 m 255 ls (.int (Int32.ofInt (sc xs (i + 1))) :: rest))) → W p l e room_1 s m #[Value.ref b] below meth c H locs ce sn Q (F0 m 245 ls [.int (Int32.ofInt q), .ref (adC 0)]) := by
    intro q hq hb
    refine lz_C X S (As := [.inl q]) okL_63 rfl dL_law_245 (c_row C hR.2.1.2.2.2.2.2 hR.1.2.2 q hq) ⟨rfl, rfl, by decide, by decide⟩ ⟨by omega, by omega⟩ rfl (Nat.le_of_ble_eq_true rfl) hl.1 rfl (fun r C1 H1 locs1 hr hp S1 => ?_)
    refine lv_aload_n X.1.1.1 X.1.1.2.1 dL_law_248 rfl (lv_at hl 2 rfl) ?_
    refine lz_sc X S1.2.2.2.2 (i := i) (j := 1) ⟨by omega, by omega⟩ (lv_at hl 0 rfl) (lv_at hl 4 rfl) dL_law_249 dL_law_250 dL_law_252 dL_law_253 dL_law_254 ?_
    refine hb _ _ _ ?_
    refine lz_M X S1 (As := [.inl q]) okL_67 rfl dL_law_263 (c_M_row bl N hM.2.1 hM.1 q hq) ⟨rfl, rfl, by decide, by decide⟩ ⟨by omega, by omega⟩ rfl (Nat.le_of_ble_eq_true rfl) hl.1 rfl (fun r2 N1 H2 locs2 hr2 hp2 S2 => ?_)
    obtain ⟨er, rel⟩ := r_row hR hq hp hp2
    refine lv_icmp_eq X.1.1.1 X.1.1.2.1 (tgt := 955) dL_law_266 rfl (fun _ => ?_) (fun z => absurd (by rw [er]) z)
    exact (W.widen (Nat.le_add_right ce 1) (Nat.le_add_right sn 6) (kk _ _ bl adM _ _ _ _ _ _ ⟨rel, hbl, S2⟩ rfl hl (by omega) (by omega)))
  refine lv_if_eq X.1.1.1 X.1.1.2.1 (tgt := 244) dL_law_237 rfl (fun z => ?_) (fun z => ?_)
  · refine lv_iconst X.1.1.1 X.1.1.2.1 dL_law_244 rfl ?_
    exact go 0 (Or.inl rfl) (fun H' locs' rest w => lv_if_eq X.1.1.1 X.1.1.2.1 (tgt := 262) dL_law_255 rfl (fun _ => lv_iconst X.1.1.1 X.1.1.2.1 dL_law_262 rfl w) (fun y => absurd z y))
  · refine lv_iconst X.1.1.1 X.1.1.2.1 dL_law_240 rfl ?_
    refine lv_goto X.1.1.1 X.1.1.2.1 (tgt := 245) dL_law_241 rfl ?_
    exact go 1 (Or.inr rfl) (fun H' locs' rest w => lv_if_eq X.1.1.1 X.1.1.2.1 (tgt := 262) dL_law_255 rfl (fun y => absurd y z) (fun _ => lv_iconst X.1.1.1 X.1.1.2.1 dL_law_258 rfl (lv_goto X.1.1.1 X.1.1.2.1 (tgt := 263) dL_law_259 rfl w)))
set_option maxHeartbeats 4000000 in
set_option maxRecDepth 100000 in
theorem cs_6 {p : Program} {l : Launch} {e : Env} {s : State} {m : MethodId} {below : List Frame} {meth : Method} {c : Code} {b L : Nat} {xs : Nat → Int32} {D : va_G} {cI cZ cB cJ : ClassId} {A : Nat → Prop} {Q : State → Prop} {adC adM : Nat → Nat} {ao : Nat} {C N : Mem} {bl : Nat} {f : Nat → Int64} {H : Heap} {locs : List Loc} {ce sn : Nat} {ls : Array Slot} (X : LCx p l s m c b L xs D cI cZ cB cJ A) (S : LSt s D cI cZ cB cJ A adC adM ao C N bl f H locs) {i : Int} (hi : 0 ≤ i ∧ i + 6 ≤ L) (hl : lv_has ls 7 (lvL b (adC 0) (adM 0) ao i)) (hcs : ce ≤ 400000 ∧ sn ≤ 4000000)
    (kk : ∀ (C' N' : Mem) (bl' : Nat) (adM' : Nat → Nat) (f' : Nat → Int64) (H' : Heap) (locs' : List Loc) (ls' : Array Slot) (ce' sn' : Nat), LSt s D cI cZ cB cJ A adC adM' ao C' N' bl' f' H' locs' → adM' 0 = adM 0 → lv_has ls' 7 (lvL b (adC 0) (adM 0) ao i) → ce' + 2 * bl = ce + 1 + 2 * bl' → sn' + 2 * bl = sn + 6 + 2 * bl' → W p l e room_1 s m #[Value.ref b] below meth c H' locs' ce' sn' Q (F0 m 955 ls' [])) :
    W p l e room_1 s m #[Value.ref b] below meth c H locs ce sn Q (F0 m 402 ls []) := by
  obtain ⟨hR, hbl, S⟩ := S
  have hM := r_M hR
  have hL := X.2.2.2.2.2
  refine lv_aload_n X.1.1.1 X.1.1.2.1 dL_law_402 rfl (lv_at hl 1 rfl) ?_
  refine lz_C X S (As := []) okL_75 rfl dL_law_403 (c_learn C hR.2.1.2.2.2.2.2) ⟨rfl, rfl, by decide, by decide⟩ ⟨by omega, by omega⟩ rfl (Nat.le_of_ble_eq_true rfl) hl.1 rfl (fun r C1 H1 locs1 hr hp S1 => ?_)
  refine lv_aload_n X.1.1.1 X.1.1.2.1 dL_law_406 rfl (lv_at hl 2 rfl) ?_
  refine lz_M X S1 (As := []) okL_78 rfl dL_law_407 (c_M_learn bl N hM.2.1) ⟨rfl, rfl, by decide, by decide⟩ ⟨by omega, by omega⟩ rfl (Nat.le_of_ble_eq_true rfl) hl.1 rfl (fun r2 N1 H2 locs2 hr2 hp2 S2 => ?_)
  obtain ⟨er, rel⟩ := r_learn hR hp hp2
  refine lv_icmp_eq X.1.1.1 X.1.1.2.1 (tgt := 955) dL_law_410 rfl (fun _ => ?_) (fun z => absurd (by rw [er]) z)
  exact (W.widen (Nat.le_add_right ce 1) (Nat.le_add_right sn 6) (kk _ _ bl adM _ _ _ _ _ _ ⟨rel, hbl, S2⟩ rfl hl (by omega) (by omega)))
set_option maxHeartbeats 4000000 in
set_option maxRecDepth 100000 in
theorem cs_9 {p : Program} {l : Launch} {e : Env} {s : State} {m : MethodId} {below : List Frame} {meth : Method} {c : Code} {b L : Nat} {xs : Nat → Int32} {D : va_G} {cI cZ cB cJ : ClassId} {A : Nat → Prop} {Q : State → Prop} {adC adM : Nat → Nat} {ao : Nat} {C N : Mem} {bl : Nat} {f : Nat → Int64} {H : Heap} {locs : List Loc} {ce sn : Nat} {ls : Array Slot} (X : LCx p l s m c b L xs D cI cZ cB cJ A) (S : LSt s D cI cZ cB cJ A adC adM ao C N bl f H locs) {i : Int} (hi : 0 ≤ i ∧ i + 6 ≤ L) (hl : lv_has ls 7 (lvL b (adC 0) (adM 0) ao i)) (hcs : ce ≤ 400000 ∧ sn ≤ 4000000)
    (kk : ∀ (C' N' : Mem) (bl' : Nat) (adM' : Nat → Nat) (f' : Nat → Int64) (H' : Heap) (locs' : List Loc) (ls' : Array Slot) (ce' sn' : Nat), LSt s D cI cZ cB cJ A adC adM' ao C' N' bl' f' H' locs' → adM' 0 = adM 0 → lv_has ls' 7 (lvL b (adC 0) (adM 0) ao i) → ce' + 2 * bl = ce + 1 + 2 * bl' → sn' + 2 * bl = sn + 6 + 2 * bl' → W p l e room_1 s m #[Value.ref b] below meth c H' locs' ce' sn' Q (F0 m 955 ls' [])) :
    W p l e room_1 s m #[Value.ref b] below meth c H locs ce sn Q (F0 m 551 ls []) := by
  obtain ⟨hR, hbl, S⟩ := S
  have hM := r_M hR
  have hL := X.2.2.2.2.2
  refine lv_aload_n X.1.1.1 X.1.1.2.1 dL_law_551 rfl (lv_at hl 1 rfl) ?_
  refine lz_sc X S.2.2.2.2 (i := i) (j := 1) ⟨by omega, by omega⟩ (lv_at hl 0 rfl) (lv_at hl 4 rfl) dL_law_552 dL_law_553 dL_law_555 dL_law_556 dL_law_557 ?_
  refine lz_C X S (As := [.inl (sc xs (i + 1))]) okL_85 rfl dL_law_558 (c_doubt C (sc xs (i + 1)) (sc_R xs (i + 1))) ⟨rfl, rfl, by decide, by decide⟩ ⟨by omega, by omega⟩ rfl (Nat.le_of_ble_eq_true rfl) hl.1 rfl (fun r C1 H1 locs1 hr hp S1 => ?_)
  refine lv_aload_n X.1.1.1 X.1.1.2.1 dL_law_561 rfl (lv_at hl 2 rfl) ?_
  refine lz_sc X S1.2.2.2.2 (i := i) (j := 1) ⟨by omega, by omega⟩ (lv_at hl 0 rfl) (lv_at hl 4 rfl) dL_law_562 dL_law_563 dL_law_565 dL_law_566 dL_law_567 ?_
  refine lz_M X S1 (As := [.inl (sc xs (i + 1))]) okL_88 rfl dL_law_568 (c_M_doubt bl N hM.2.2.1 (sc xs (i + 1)) (sc_R xs (i + 1))) ⟨rfl, rfl, by decide, by decide⟩ ⟨by omega, by omega⟩ rfl (Nat.le_of_ble_eq_true rfl) hl.1 rfl (fun r2 N1 H2 locs2 hr2 hp2 S2 => ?_)
  obtain ⟨rfl, e1⟩ := hp
  obtain ⟨rfl, e2⟩ := hp2
  have rel := r_0 hR
  have er := r_doubt hR e1 e2
  refine lv_icmp_eq X.1.1.1 X.1.1.2.1 (tgt := 955) dL_law_571 rfl (fun _ => ?_) (fun z => absurd (by rw [er]) z)
  exact (W.widen (Nat.le_add_right ce 1) (Nat.le_add_right sn 6) (kk _ _ bl adM _ _ _ _ _ _ ⟨rel, hbl, S2⟩ rfl hl (by omega) (by omega)))
set_option maxHeartbeats 4000000 in
set_option maxRecDepth 100000 in
theorem cs_10 {p : Program} {l : Launch} {e : Env} {s : State} {m : MethodId} {below : List Frame} {meth : Method} {c : Code} {b L : Nat} {xs : Nat → Int32} {D : va_G} {cI cZ cB cJ : ClassId} {A : Nat → Prop} {Q : State → Prop} {adC adM : Nat → Nat} {ao : Nat} {C N : Mem} {bl : Nat} {f : Nat → Int64} {H : Heap} {locs : List Loc} {ce sn : Nat} {ls : Array Slot} (X : LCx p l s m c b L xs D cI cZ cB cJ A) (S : LSt s D cI cZ cB cJ A adC adM ao C N bl f H locs) {i : Int} (hi : 0 ≤ i ∧ i + 6 ≤ L) (hl : lv_has ls 7 (lvL b (adC 0) (adM 0) ao i)) (hcs : ce ≤ 400000 ∧ sn ≤ 4000000)
    (kk : ∀ (C' N' : Mem) (bl' : Nat) (adM' : Nat → Nat) (f' : Nat → Int64) (H' : Heap) (locs' : List Loc) (ls' : Array Slot) (ce' sn' : Nat), LSt s D cI cZ cB cJ A adC adM' ao C' N' bl' f' H' locs' → adM' 0 = adM 0 → lv_has ls' 7 (lvL b (adC 0) (adM 0) ao i) → ce' + 2 * bl = ce + 1 + 2 * bl' → sn' + 2 * bl = sn + 6 + 2 * bl' → W p l e room_1 s m #[Value.ref b] below meth c H' locs' ce' sn' Q (F0 m 955 ls' [])) :
    W p l e room_1 s m #[Value.ref b] below meth c H locs ce sn Q (F0 m 576 ls []) := by
  obtain ⟨hR, hbl, S⟩ := S
  have hM := r_M hR
  have hL := X.2.2.2.2.2
  refine lv_aload_n X.1.1.1 X.1.1.2.1 dL_law_576 rfl (lv_at hl 1 rfl) ?_
  refine lz_C X S (As := []) okL_89 rfl dL_law_577 (c_takes C hR.2.2.1.2.2.1 hR.1.2.2) ⟨rfl, rfl, by decide, by decide⟩ ⟨by omega, by omega⟩ rfl (Nat.le_of_ble_eq_true rfl) hl.1 rfl (fun r C1 H1 locs1 hr hp S1 => ?_)
  refine lv_aload_n X.1.1.1 X.1.1.2.1 dL_law_580 rfl (lv_at hl 2 rfl) ?_
  refine lz_M X S1 (As := []) okL_92 rfl dL_law_581 (c_M_takes bl N hM.2.2.1 hM.1) ⟨rfl, rfl, by decide, by decide⟩ ⟨by omega, by omega⟩ rfl (Nat.le_of_ble_eq_true rfl) hl.1 rfl (fun r2 N1 H2 locs2 hr2 hp2 S2 => ?_)
  obtain ⟨rfl, e1⟩ := hp
  obtain ⟨rfl, e2⟩ := hp2
  have rel := r_0 hR
  have er := r_takes hR e1 e2
  refine lv_icmp_eq X.1.1.1 X.1.1.2.1 (tgt := 955) dL_law_584 rfl (fun _ => ?_) (fun z => absurd (by rw [er]) z)
  exact (W.widen (Nat.le_add_right ce 1) (Nat.le_add_right sn 6) (kk _ _ bl adM _ _ _ _ _ _ ⟨rel, hbl, S2⟩ rfl hl (by omega) (by omega)))
set_option maxHeartbeats 4000000 in
set_option maxRecDepth 100000 in
theorem cs_11 {p : Program} {l : Launch} {e : Env} {s : State} {m : MethodId} {below : List Frame} {meth : Method} {c : Code} {b L : Nat} {xs : Nat → Int32} {D : va_G} {cI cZ cB cJ : ClassId} {A : Nat → Prop} {Q : State → Prop} {adC adM : Nat → Nat} {ao : Nat} {C N : Mem} {bl : Nat} {f : Nat → Int64} {H : Heap} {locs : List Loc} {ce sn : Nat} {ls : Array Slot} (X : LCx p l s m c b L xs D cI cZ cB cJ A) (S : LSt s D cI cZ cB cJ A adC adM ao C N bl f H locs) {i : Int} (hi : 0 ≤ i ∧ i + 6 ≤ L) (hl : lv_has ls 7 (lvL b (adC 0) (adM 0) ao i)) (hcs : ce ≤ 400000 ∧ sn ≤ 4000000)
    (kk : ∀ (C' N' : Mem) (bl' : Nat) (adM' : Nat → Nat) (f' : Nat → Int64) (H' : Heap) (locs' : List Loc) (ls' : Array Slot) (ce' sn' : Nat), LSt s D cI cZ cB cJ A adC adM' ao C' N' bl' f' H' locs' → adM' 0 = adM 0 → lv_has ls' 7 (lvL b (adC 0) (adM 0) ao i) → ce' + 2 * bl = ce + 1 + 2 * bl' → sn' + 2 * bl = sn + 6 + 2 * bl' → W p l e room_1 s m #[Value.ref b] below meth c H' locs' ce' sn' Q (F0 m 955 ls' [])) :
    W p l e room_1 s m #[Value.ref b] below meth c H locs ce sn Q (F0 m 589 ls []) := by
  obtain ⟨hR, hbl, S⟩ := S
  have hM := r_M hR
  have hL := X.2.2.2.2.2
  refine lv_aload_n X.1.1.1 X.1.1.2.1 dL_law_589 rfl (lv_at hl 1 rfl) ?_
  refine lz_C X S (As := []) okL_93 rfl dL_law_590 (c_least C hR.2.1.2.2.2.2.2) ⟨rfl, rfl, by decide, by decide⟩ ⟨by omega, by omega⟩ rfl (Nat.le_of_ble_eq_true rfl) hl.1 rfl (fun r C1 H1 locs1 hr hp S1 => ?_)
  refine lv_aload_n X.1.1.1 X.1.1.2.1 dL_law_593 rfl (lv_at hl 2 rfl) ?_
  refine lz_M X S1 (As := []) okL_96 rfl dL_law_594 (c_M_least bl N hM.2.1) ⟨rfl, rfl, by decide, by decide⟩ ⟨by omega, by omega⟩ rfl (Nat.le_of_ble_eq_true rfl) hl.1 rfl (fun r2 N1 H2 locs2 hr2 hp2 S2 => ?_)
  obtain ⟨er, rel⟩ := r_least hR hp hp2
  refine lv_icmp_eq X.1.1.1 X.1.1.2.1 (tgt := 955) dL_law_597 rfl (fun _ => ?_) (fun z => absurd (by rw [er]) z)
  exact (W.widen (Nat.le_add_right ce 1) (Nat.le_add_right sn 6) (kk _ _ bl adM _ _ _ _ _ _ ⟨rel, hbl, S2⟩ rfl hl (by omega) (by omega)))
set_option maxHeartbeats 4000000 in
set_option maxRecDepth 100000 in
theorem cs_12 {p : Program} {l : Launch} {e : Env} {s : State} {m : MethodId} {below : List Frame} {meth : Method} {c : Code} {b L : Nat} {xs : Nat → Int32} {D : va_G} {cI cZ cB cJ : ClassId} {A : Nat → Prop} {Q : State → Prop} {adC adM : Nat → Nat} {ao : Nat} {C N : Mem} {bl : Nat} {f : Nat → Int64} {H : Heap} {locs : List Loc} {ce sn : Nat} {ls : Array Slot} (X : LCx p l s m c b L xs D cI cZ cB cJ A) (S : LSt s D cI cZ cB cJ A adC adM ao C N bl f H locs) {i : Int} (hi : 0 ≤ i ∧ i + 6 ≤ L) (hl : lv_has ls 7 (lvL b (adC 0) (adM 0) ao i)) (hcs : ce ≤ 400000 ∧ sn ≤ 4000000)
    (kk : ∀ (C' N' : Mem) (bl' : Nat) (adM' : Nat → Nat) (f' : Nat → Int64) (H' : Heap) (locs' : List Loc) (ls' : Array Slot) (ce' sn' : Nat), LSt s D cI cZ cB cJ A adC adM' ao C' N' bl' f' H' locs' → adM' 0 = adM 0 → lv_has ls' 7 (lvL b (adC 0) (adM 0) ao i) → ce' + 2 * bl = ce + 1 + 2 * bl' → sn' + 2 * bl = sn + 6 + 2 * bl' → W p l e room_1 s m #[Value.ref b] below meth c H' locs' ce' sn' Q (F0 m 955 ls' [])) :
    W p l e room_1 s m #[Value.ref b] below meth c H locs ce sn Q (F0 m 602 ls []) := by
  obtain ⟨hR, hbl, S⟩ := S
  have hM := r_M hR
  have hL := X.2.2.2.2.2
  refine lv_aload_n X.1.1.1 X.1.1.2.1 dL_law_602 rfl (lv_at hl 1 rfl) ?_
  refine lz_sc X S.2.2.2.2 (i := i) (j := 1) ⟨by omega, by omega⟩ (lv_at hl 0 rfl) (lv_at hl 4 rfl) dL_law_603 dL_law_604 dL_law_606 dL_law_607 dL_law_608 ?_
  refine lz_sc X S.2.2.2.2 (i := i) (j := 2) ⟨by omega, by omega⟩ (lv_at hl 0 rfl) (lv_at hl 4 rfl) dL_law_609 dL_law_610 dL_law_612 dL_law_613 dL_law_614 ?_
  refine lz_sc X S.2.2.2.2 (i := i) (j := 3) ⟨by omega, by omega⟩ (lv_at hl 0 rfl) (lv_at hl 4 rfl) dL_law_615 dL_law_616 dL_law_618 dL_law_619 dL_law_620 ?_
  refine lz_sc X S.2.2.2.2 (i := i) (j := 4) ⟨by omega, by omega⟩ (lv_at hl 0 rfl) (lv_at hl 4 rfl) dL_law_621 dL_law_622 dL_law_624 dL_law_625 dL_law_626 ?_
  refine lz_sc X S.2.2.2.2 (i := i) (j := 5) ⟨by omega, by omega⟩ (lv_at hl 0 rfl) (lv_at hl 4 rfl) dL_law_627 dL_law_628 dL_law_630 dL_law_631 dL_law_632 ?_
  refine lz_C X S (As := [.inl (sc xs (i + 1)), .inl (sc xs (i + 2)), .inl (sc xs (i + 3)), .inl (sc xs (i + 4)), .inl (sc xs (i + 5))]) okL_97 rfl dL_law_633 (c_feed C hR.2.2.2.1.2.1 (sc xs (i + 1)) (sc xs (i + 2)) (sc xs (i + 3)) (sc xs (i + 4)) (sc xs (i + 5)) (sc_R xs (i + 1)) (sc_R xs (i + 2)) (sc_R xs (i + 3)) (sc_R xs (i + 4)) (sc_R xs (i + 5))) ⟨rfl, rfl, by decide, by decide⟩ ⟨by omega, by omega⟩ rfl (Nat.le_of_ble_eq_true rfl) hl.1 rfl (fun r C1 H1 locs1 hr hp S1 => ?_)
  refine lv_aload_n X.1.1.1 X.1.1.2.1 dL_law_636 rfl (lv_at hl 2 rfl) ?_
  refine lz_sc X S1.2.2.2.2 (i := i) (j := 1) ⟨by omega, by omega⟩ (lv_at hl 0 rfl) (lv_at hl 4 rfl) dL_law_637 dL_law_638 dL_law_640 dL_law_641 dL_law_642 ?_
  refine lz_sc X S1.2.2.2.2 (i := i) (j := 2) ⟨by omega, by omega⟩ (lv_at hl 0 rfl) (lv_at hl 4 rfl) dL_law_643 dL_law_644 dL_law_646 dL_law_647 dL_law_648 ?_
  refine lz_sc X S1.2.2.2.2 (i := i) (j := 3) ⟨by omega, by omega⟩ (lv_at hl 0 rfl) (lv_at hl 4 rfl) dL_law_649 dL_law_650 dL_law_652 dL_law_653 dL_law_654 ?_
  refine lz_sc X S1.2.2.2.2 (i := i) (j := 4) ⟨by omega, by omega⟩ (lv_at hl 0 rfl) (lv_at hl 4 rfl) dL_law_655 dL_law_656 dL_law_658 dL_law_659 dL_law_660 ?_
  refine lz_sc X S1.2.2.2.2 (i := i) (j := 5) ⟨by omega, by omega⟩ (lv_at hl 0 rfl) (lv_at hl 4 rfl) dL_law_661 dL_law_662 dL_law_664 dL_law_665 dL_law_666 ?_
  refine lz_M X S1 (As := [.inl (sc xs (i + 1)), .inl (sc xs (i + 2)), .inl (sc xs (i + 3)), .inl (sc xs (i + 4)), .inl (sc xs (i + 5))]) okL_101 rfl dL_law_667 (c_M_feed bl N hM.2.2.2.1 (sc xs (i + 1)) (sc xs (i + 2)) (sc xs (i + 3)) (sc xs (i + 4)) (sc xs (i + 5)) (sc_R xs (i + 1)) (sc_R xs (i + 2)) (sc_R xs (i + 3)) (sc_R xs (i + 4)) (sc_R xs (i + 5))) ⟨rfl, rfl, by decide, by decide⟩ ⟨by omega, by omega⟩ rfl (Nat.le_of_ble_eq_true rfl) hl.1 rfl (fun r2 N1 H2 locs2 hr2 hp2 S2 => ?_)
  obtain ⟨er, rel⟩ := r_feed hR hp hp2
  refine lv_icmp_eq X.1.1.1 X.1.1.2.1 (tgt := 955) dL_law_670 rfl (fun _ => ?_) (fun z => absurd (by rw [er]) z)
  exact (W.widen (Nat.le_add_right ce 1) (Nat.le_add_right sn 6) (kk _ _ bl adM _ _ _ _ _ _ ⟨rel, hbl, S2⟩ rfl hl (by omega) (by omega)))
set_option maxHeartbeats 4000000 in
set_option maxRecDepth 100000 in
theorem cs_15 {p : Program} {l : Launch} {e : Env} {s : State} {m : MethodId} {below : List Frame} {meth : Method} {c : Code} {b L : Nat} {xs : Nat → Int32} {D : va_G} {cI cZ cB cJ : ClassId} {A : Nat → Prop} {Q : State → Prop} {adC adM : Nat → Nat} {ao : Nat} {C N : Mem} {bl : Nat} {f : Nat → Int64} {H : Heap} {locs : List Loc} {ce sn : Nat} {ls : Array Slot} (X : LCx p l s m c b L xs D cI cZ cB cJ A) (S : LSt s D cI cZ cB cJ A adC adM ao C N bl f H locs) {i : Int} (hi : 0 ≤ i ∧ i + 6 ≤ L) (hl : lv_has ls 7 (lvL b (adC 0) (adM 0) ao i)) (hcs : ce ≤ 400000 ∧ sn ≤ 4000000)
    (kk : ∀ (C' N' : Mem) (bl' : Nat) (adM' : Nat → Nat) (f' : Nat → Int64) (H' : Heap) (locs' : List Loc) (ls' : Array Slot) (ce' sn' : Nat), LSt s D cI cZ cB cJ A adC adM' ao C' N' bl' f' H' locs' → adM' 0 = adM 0 → lv_has ls' 7 (lvL b (adC 0) (adM 0) ao i) → ce' + 2 * bl = ce + 1 + 2 * bl' → sn' + 2 * bl = sn + 6 + 2 * bl' → W p l e room_1 s m #[Value.ref b] below meth c H' locs' ce' sn' Q (F0 m 955 ls' [])) :
    W p l e room_1 s m #[Value.ref b] below meth c H locs ce sn Q (F0 m 744 ls []) := by
  obtain ⟨hR, hbl, S⟩ := S
  have hM := r_M hR
  have hL := X.2.2.2.2.2
  refine lv_aload_n X.1.1.1 X.1.1.2.1 dL_law_744 rfl (lv_at hl 1 rfl) ?_
  refine lz_sc X S.2.2.2.2 (i := i) (j := 1) ⟨by omega, by omega⟩ (lv_at hl 0 rfl) (lv_at hl 4 rfl) dL_law_745 dL_law_746 dL_law_748 dL_law_749 dL_law_750 ?_
  refine lz_C X S (As := [.inl (sc xs (i + 1))]) okL_109 rfl dL_law_751 (c_broken C (by obtain ⟨w, k1, k2, k3, _⟩ := hR.2.2.2.2.2; omega) (sc xs (i + 1)) (sc_R xs (i + 1))) ⟨rfl, rfl, by decide, by decide⟩ ⟨by omega, by omega⟩ rfl (Nat.le_of_ble_eq_true rfl) hl.1 rfl (fun r C1 H1 locs1 hr hp S1 => ?_)
  refine lv_aload_n X.1.1.1 X.1.1.2.1 dL_law_754 rfl (lv_at hl 2 rfl) ?_
  refine lz_sc X S1.2.2.2.2 (i := i) (j := 1) ⟨by omega, by omega⟩ (lv_at hl 0 rfl) (lv_at hl 4 rfl) dL_law_755 dL_law_756 dL_law_758 dL_law_759 dL_law_760 ?_
  refine lz_M X S1 (As := [.inl (sc xs (i + 1))]) okL_112 rfl dL_law_761 (c_M_broken bl N (by omega) hM.2.2.2.2.2 (sc xs (i + 1)) (sc_R xs (i + 1))) ⟨rfl, rfl, by decide, by decide⟩ ⟨by omega, by omega⟩ rfl (Nat.le_of_ble_eq_true rfl) hl.1 rfl (fun r2 N1 H2 locs2 hr2 hp2 S2 => ?_)
  obtain ⟨rfl, e1⟩ := hp
  obtain ⟨rfl, e2⟩ := hp2
  have rel := r_0 hR
  have er := r_broken hR e1 e2
  refine lv_icmp_eq X.1.1.1 X.1.1.2.1 (tgt := 955) dL_law_764 rfl (fun _ => ?_) (fun z => absurd (by rw [er]) z)
  exact (W.widen (Nat.le_add_right ce 1) (Nat.le_add_right sn 6) (kk _ _ bl adM _ _ _ _ _ _ ⟨rel, hbl, S2⟩ rfl hl (by omega) (by omega)))
set_option maxHeartbeats 4000000 in
set_option maxRecDepth 100000 in
theorem cs_16 {p : Program} {l : Launch} {e : Env} {s : State} {m : MethodId} {below : List Frame} {meth : Method} {c : Code} {b L : Nat} {xs : Nat → Int32} {D : va_G} {cI cZ cB cJ : ClassId} {A : Nat → Prop} {Q : State → Prop} {adC adM : Nat → Nat} {ao : Nat} {C N : Mem} {bl : Nat} {f : Nat → Int64} {H : Heap} {locs : List Loc} {ce sn : Nat} {ls : Array Slot} (X : LCx p l s m c b L xs D cI cZ cB cJ A) (S : LSt s D cI cZ cB cJ A adC adM ao C N bl f H locs) {i : Int} (hi : 0 ≤ i ∧ i + 6 ≤ L) (hl : lv_has ls 7 (lvL b (adC 0) (adM 0) ao i)) (hcs : ce ≤ 400000 ∧ sn ≤ 4000000)
    (kk : ∀ (C' N' : Mem) (bl' : Nat) (adM' : Nat → Nat) (f' : Nat → Int64) (H' : Heap) (locs' : List Loc) (ls' : Array Slot) (ce' sn' : Nat), LSt s D cI cZ cB cJ A adC adM' ao C' N' bl' f' H' locs' → adM' 0 = adM 0 → lv_has ls' 7 (lvL b (adC 0) (adM 0) ao i) → ce' + 2 * bl = ce + 1 + 2 * bl' → sn' + 2 * bl = sn + 6 + 2 * bl' → W p l e room_1 s m #[Value.ref b] below meth c H' locs' ce' sn' Q (F0 m 955 ls' [])) :
    W p l e room_1 s m #[Value.ref b] below meth c H locs ce sn Q (F0 m 769 ls []) := by
  obtain ⟨hR, hbl, S⟩ := S
  have hM := r_M hR
  have hL := X.2.2.2.2.2
  refine lv_aload_n X.1.1.1 X.1.1.2.1 dL_law_769 rfl (lv_at hl 1 rfl) ?_
  refine lz_C X S (As := []) okL_113 rfl dL_law_770 (c_mend C hR.2.2.1.2.2.1 hR.1.2.2) ⟨rfl, rfl, by decide, by decide⟩ ⟨by omega, by omega⟩ rfl (Nat.le_of_ble_eq_true rfl) hl.1 rfl (fun r C1 H1 locs1 hr hp S1 => ?_)
  refine lv_aload_n X.1.1.1 X.1.1.2.1 dL_law_773 rfl (lv_at hl 2 rfl) ?_
  refine lz_M X S1 (As := []) okL_116 rfl dL_law_774 (c_M_mend bl N hM.2.2.1 hM.1) ⟨rfl, rfl, by decide, by decide⟩ ⟨by omega, by omega⟩ rfl (Nat.le_of_ble_eq_true rfl) hl.1 rfl (fun r2 N1 H2 locs2 hr2 hp2 S2 => ?_)
  obtain ⟨er, rel⟩ := r_mend hR hp hp2
  refine lv_icmp_eq X.1.1.1 X.1.1.2.1 (tgt := 955) dL_law_777 rfl (fun _ => ?_) (fun z => absurd (by rw [er]) z)
  exact (W.widen (Nat.le_add_right ce 1) (Nat.le_add_right sn 6) (kk _ _ bl adM _ _ _ _ _ _ ⟨rel, hbl, S2⟩ rfl hl (by omega) (by omega)))
set_option maxHeartbeats 4000000 in
set_option maxRecDepth 100000 in
theorem cs_19 {p : Program} {l : Launch} {e : Env} {s : State} {m : MethodId} {below : List Frame} {meth : Method} {c : Code} {b L : Nat} {xs : Nat → Int32} {D : va_G} {cI cZ cB cJ : ClassId} {A : Nat → Prop} {Q : State → Prop} {adC adM : Nat → Nat} {ao : Nat} {C N : Mem} {bl : Nat} {f : Nat → Int64} {H : Heap} {locs : List Loc} {ce sn : Nat} {ls : Array Slot} (X : LCx p l s m c b L xs D cI cZ cB cJ A) (S : LSt s D cI cZ cB cJ A adC adM ao C N bl f H locs) {i : Int} (hi : 0 ≤ i ∧ i + 6 ≤ L) (hl : lv_has ls 7 (lvL b (adC 0) (adM 0) ao i)) (hcs : ce ≤ 400000 ∧ sn ≤ 4000000)
    (kk : ∀ (C' N' : Mem) (bl' : Nat) (adM' : Nat → Nat) (f' : Nat → Int64) (H' : Heap) (locs' : List Loc) (ls' : Array Slot) (ce' sn' : Nat), LSt s D cI cZ cB cJ A adC adM' ao C' N' bl' f' H' locs' → adM' 0 = adM 0 → lv_has ls' 7 (lvL b (adC 0) (adM 0) ao i) → ce' + 2 * bl = ce + 1 + 2 * bl' → sn' + 2 * bl = sn + 6 + 2 * bl' → W p l e room_1 s m #[Value.ref b] below meth c H' locs' ce' sn' Q (F0 m 955 ls' [])) :
    W p l e room_1 s m #[Value.ref b] below meth c H locs ce sn Q (F0 m 930 ls []) := by
  obtain ⟨hR, hbl, S⟩ := S
  have hM := r_M hR
  have hL := X.2.2.2.2.2
  refine lv_aload_n X.1.1.1 X.1.1.2.1 dL_law_930 rfl (lv_at hl 1 rfl) ?_
  refine lz_sc X S.2.2.2.2 (i := i) (j := 1) ⟨by omega, by omega⟩ (lv_at hl 0 rfl) (lv_at hl 4 rfl) dL_law_931 dL_law_932 dL_law_934 dL_law_935 dL_law_936 ?_
  refine lz_C X S (As := [.inl (sc xs (i + 1))]) okL_124 rfl dL_law_937 (c_count C hR.2.1.2.2.2.2.2 (sc xs (i + 1)) (sc_R xs (i + 1))) ⟨rfl, rfl, by decide, by decide⟩ ⟨by omega, by omega⟩ rfl (Nat.le_of_ble_eq_true rfl) hl.1 rfl (fun r C1 H1 locs1 hr hp S1 => ?_)
  refine lv_aload_n X.1.1.1 X.1.1.2.1 dL_law_940 rfl (lv_at hl 2 rfl) ?_
  refine lz_sc X S1.2.2.2.2 (i := i) (j := 1) ⟨by omega, by omega⟩ (lv_at hl 0 rfl) (lv_at hl 4 rfl) dL_law_941 dL_law_942 dL_law_944 dL_law_945 dL_law_946 ?_
  refine lz_M X S1 (As := [.inl (sc xs (i + 1))]) okL_127 rfl dL_law_947 (c_M_count bl N hM.2.1 hM.2.2.1 (sc xs (i + 1)) (sc_R xs (i + 1))) ⟨rfl, rfl, by decide, by decide⟩ ⟨by omega, by omega⟩ rfl (Nat.le_of_ble_eq_true rfl) hl.1 rfl (fun r2 N1 H2 locs2 hr2 hp2 S2 => ?_)
  obtain ⟨er, rel⟩ := r_count hR hp hp2
  refine lv_icmp_eq X.1.1.1 X.1.1.2.1 (tgt := 955) dL_law_950 rfl (fun _ => ?_) (fun z => absurd (by rw [er]) z)
  exact (W.widen (Nat.le_add_right ce 1) (Nat.le_add_right sn 6) (kk _ _ bl adM _ _ _ _ _ _ ⟨rel, hbl, S2⟩ rfl hl (by omega) (by omega)))
set_option maxHeartbeats 4000000 in
set_option maxRecDepth 100000 in
theorem cs_14 {p : Program} {l : Launch} {e : Env} {s : State} {m : MethodId} {below : List Frame} {meth : Method} {c : Code} {b L : Nat} {xs : Nat → Int32} {D : va_G} {cI cZ cB cJ : ClassId} {A : Nat → Prop} {Q : State → Prop} {adC adM : Nat → Nat} {ao : Nat} {C N : Mem} {bl : Nat} {f : Nat → Int64} {H : Heap} {locs : List Loc} {ce sn : Nat} {ls : Array Slot} (X : LCx p l s m c b L xs D cI cZ cB cJ A) (S : LSt s D cI cZ cB cJ A adC adM ao C N bl f H locs) {i : Int} (hi : 0 ≤ i ∧ i + 6 ≤ L) (hl : lv_has ls 7 (lvL b (adC 0) (adM 0) ao i)) (hcs : ce ≤ 400000 ∧ sn ≤ 4000000)
    (kk : ∀ (C' N' : Mem) (bl' : Nat) (adM' : Nat → Nat) (f' : Nat → Int64) (H' : Heap) (locs' : List Loc) (ls' : Array Slot) (ce' sn' : Nat), LSt s D cI cZ cB cJ A adC adM' ao C' N' bl' f' H' locs' → adM' 0 = adM 0 → lv_has ls' 7 (lvL b (adC 0) (adM 0) ao i) → ce' + 2 * bl = ce + 1 + 2 * bl' → sn' + 2 * bl = sn + 6 + 2 * bl' → W p l e room_1 s m #[Value.ref b] below meth c H' locs' ce' sn' Q (F0 m 955 ls' [])) :
    W p l e room_1 s m #[Value.ref b] below meth c H locs ce sn Q (F0 m 731 ls []) := by
  obtain ⟨hR, hbl, S⟩ := S
  have hM := r_M hR
  have hL := X.2.2.2.2.2
  have tn := r_tx hR
  refine lv_aload_n X.1.1.1 X.1.1.2.1 dL_law_731 rfl (lv_at hl 1 rfl) ?_
  refine lz_C X S (As := []) okL_105 rfl dL_law_732 (c_hold C tn.1 tn.2) ⟨rfl, rfl, by decide, by decide⟩ ⟨by omega, by omega⟩ rfl (Nat.le_of_ble_eq_true rfl) hl.1 rfl (fun r C1 H1 locs1 hr hp S1 => ?_)
  refine lv_aload_n X.1.1.1 X.1.1.2.1 dL_law_735 rfl (lv_at hl 2 rfl) ?_
  have hn := r_holdN hR hp.1
  obtain ⟨hC, hN, hP, hD, hS⟩ := S1
  generalize hnn : (C1 45 1).toNat = n at hn
  have g1 := gwB_s (n := n) n bl
  have g2 := gwC_s (n := n) n bl (by omega)
  have g3 := gwB_u (n := n) n bl
  have n6 := hn.2.1
  refine lw_callH X.1 okL_108 dL_law_736 (c_holdM bl ⟨by omega, by omega⟩ N hM.2.2.2.2.1 n hn.1) ⟨by decide, by decide⟩ ⟨by show ce + gwC n n bl ≤ 601024; omega, by show sn + gwS n n bl ≤ 7293034; omega⟩ (Nat.le_of_ble_eq_true rfl) hl.1 hN (P_sw hP) (D_sw hD) hS (fun r2 N1 adM1 H2 locs2 hr2 hp2 ha hN1 hP1 hD1 hS1 => ?_)
  rw [← hnn] at hp2
  obtain ⟨er, rel⟩ := r_hold hR hp hp2 (by omega)
  rw [hnn] at rel
  refine lv_icmp_eq X.1.1.1 X.1.1.2.1 (tgt := 955) dL_law_739 rfl (fun _ => ?_) (fun z => absurd (by rw [er]) z)
  refine W.widen (k := ce + 1 + 2 * gwB n n bl - 2 * bl) (n := sn + 6 + 2 * gwB n n bl - 2 * bl) (by omega) (by omega) ?_
  exact kk _ _ (gwB n n bl) adM1 _ _ _ _ _ _ ⟨rel, ⟨by omega, by omega⟩, hC, hN1, P_sw hP1, D_sw hD1, hS1⟩ ha hl (by omega) (by omega)
set_option maxHeartbeats 4000000 in
set_option maxRecDepth 100000 in
theorem cs_0 {p : Program} {l : Launch} {e : Env} {s : State} {m : MethodId} {below : List Frame} {meth : Method} {c : Code} {b L : Nat} {xs : Nat → Int32} {D : va_G} {cI cZ cB cJ : ClassId} {A : Nat → Prop} {Q : State → Prop} {adC adM : Nat → Nat} {ao : Nat} {C N : Mem} {bl : Nat} {f : Nat → Int64} {H : Heap} {locs : List Loc} {ce sn : Nat} {ls : Array Slot} (X : LCx p l s m c b L xs D cI cZ cB cJ A) (S : LSt s D cI cZ cB cJ A adC adM ao C N bl f H locs) {i : Int} (hi : 0 ≤ i ∧ i + 6 ≤ L) (hl : lv_has ls 7 (lvL b (adC 0) (adM 0) ao i)) (hcs : ce ≤ 400000 ∧ sn ≤ 4000000)
    (kk : ∀ (C' N' : Mem) (bl' : Nat) (adM' : Nat → Nat) (f' : Nat → Int64) (H' : Heap) (locs' : List Loc) (ls' : Array Slot) (ce' sn' : Nat), LSt s D cI cZ cB cJ A adC adM' ao C' N' bl' f' H' locs' → adM' 0 = adM 0 → lv_has ls' 7 (lvL b (adC 0) (adM 0) ao i) → ce' + 2 * bl = ce + 1 + 2 * bl' → sn' + 2 * bl = sn + 6 + 2 * bl' → W p l e room_1 s m #[Value.ref b] below meth c H' locs' ce' sn' Q (F0 m 955 ls' [])) :
    W p l e room_1 s m #[Value.ref b] below meth c H locs ce sn Q (F0 m 136 ls []) := by
  obtain ⟨hR, hbl, S⟩ := S
  have hM := r_M hR
  have hL := X.2.2.2.2.2
  refine lv_aload_n X.1.1.1 X.1.1.2.1 dL_law_136 rfl (lv_at hl 1 rfl) ?_
  refine lz_sc X S.2.2.2.2 (i := i) (j := 1) ⟨by omega, by omega⟩ (lv_at hl 0 rfl) (lv_at hl 4 rfl) dL_law_137 dL_law_138 dL_law_140 dL_law_141 dL_law_142 ?_
  refine lv_aload_n X.1.1.1 X.1.1.2.1 dL_law_143 rfl (lv_at hl 3 rfl) ?_
  refine lz_W X S (zs := [(sc xs (i + 1))]) okL_45 dL_law_144 (w_push C (sc xs (i + 1)) (sc_R xs (i + 1))) (by decide) ⟨by omega, by omega⟩ rfl (Nat.le_of_ble_eq_true rfl) hl.1 rfl (fun z C1 f1 H1 locs1 hz hp S1 => ?_)
  refine lv_istore X.1.1.1 X.1.1.2.1 dL_law_147 hl (by decide) rfl (fun ls1 hl1 => ?_)
  refine lv_aload_n X.1.1.1 X.1.1.2.1 dL_law_149 rfl (lv_at hl1 3 rfl) ?_
  refine lz_sc X S1.2.2.2.2 (i := i) (j := 1) ⟨by omega, by omega⟩ (lv_at hl1 1 rfl) (lv_at hl1 5 rfl) dL_law_150 dL_law_151 dL_law_153 dL_law_154 dL_law_155 ?_
  refine lz_M X S1 (As := [.inl (sc xs (i + 1))]) okL_50 rfl dL_law_156 (c_M_push bl N hM.1 (sc xs (i + 1)) (sc_R xs (i + 1))) ⟨rfl, rfl, by decide, by decide⟩ ⟨by omega, by omega⟩ rfl (Nat.le_of_ble_eq_true rfl) hl1.1 rfl (fun r2 N1 H2 locs2 hr2 hp2 S2 => ?_)
  refine lv_istore X.1.1.1 X.1.1.2.1 dL_law_159 hl1 (by decide) rfl (fun ls2 hl2 => ?_)
  obtain ⟨et, ev0, rel⟩ := r_push hR hp hp2
  refine lv_aload_n X.1.1.1 X.1.1.2.1 dL_law_161 rfl (lv_at hl2 4 rfl) ?_
  refine lz_M X S2 (As := []) okL_51 rfl dL_law_162 (c_M_thrown bl N1) ⟨rfl, rfl, by decide, by decide⟩ ⟨by omega, by omega⟩ rfl (Nat.le_of_ble_eq_true rfl) hl2.1 rfl (fun r3 N2 H3 locs3 hr3 hp3 S3 => ?_)
  obtain ⟨rfl, e3⟩ := hp3
  rw [et] at e3
  refine lv_iload X.1.1.1 X.1.1.2.1 dL_law_165 (lv_at hl2 1 rfl) ?_
  refine lv_icmp_eq X.1.1.1 X.1.1.2.1 (tgt := 172) dL_law_167 rfl (fun _ => ?_) (fun y => absurd (by rw [e3]) y)
  have hl3 : lv_has ls2 7 (lvL b (adC 0) (adM 0) ao i) := lv_sub hl2 [2, 3, 4, 5, 6] rfl
  have fin : W p l e room_1 s m #[Value.ref b] below meth c H3 locs3 (ce + 1) (sn + 6) Q (F0 m 189 ls2 []) := lv_goto X.1.1.1 X.1.1.2.1 (tgt := 955) dL_law_189 rfl (kk _ _ bl adM _ _ _ _ _ _ ⟨rel, hbl, S3⟩ rfl hl3 (by omega) (by omega))
  refine lv_iload X.1.1.1 X.1.1.2.1 dL_law_172 (lv_at hl2 1 rfl) ?_
  refine lv_if_ne X.1.1.1 X.1.1.2.1 (tgt := 189) dL_law_174 rfl (fun _ => fin) (fun y => ?_)
  have z0 : z = 0 := (oI_eq hz (by decide)).1 y
  have ev := ev0 z0
  refine lv_aload_n X.1.1.1 X.1.1.2.1 dL_law_177 rfl (lv_at hl2 5 rfl) ?_
  refine lv_iconst X.1.1.1 X.1.1.2.1 dL_law_178 rfl ?_
  refine va_lald X.1.1.1 X.1.1.2.1 X.1.2.2.1 (P_l S3.2.2.1) 55 3 wsO_at rfl vp0 dL_law_179 ?_
  rw [i0, ev]
  refine lv_iload X.1.1.1 X.1.1.2.1 dL_law_180 (lv_at hl2 0 rfl) ?_
  refine lv_i2l X.1.1.1 X.1.1.2.1 dL_law_182 rfl ?_
  refine W.lcmp X.1.1.1 X.1.1.2.1 dL_law_183 ?_
  rw [lg_cmp_self]
  exact lv_if_eq X.1.1.1 X.1.1.2.1 (tgt := 189) dL_law_184 rfl (fun _ => fin) (fun y => absurd rfl y)
set_option maxHeartbeats 4000000 in
set_option maxRecDepth 100000 in
theorem cs_4 {p : Program} {l : Launch} {e : Env} {s : State} {m : MethodId} {below : List Frame} {meth : Method} {c : Code} {b L : Nat} {xs : Nat → Int32} {D : va_G} {cI cZ cB cJ : ClassId} {A : Nat → Prop} {Q : State → Prop} {adC adM : Nat → Nat} {ao : Nat} {C N : Mem} {bl : Nat} {f : Nat → Int64} {H : Heap} {locs : List Loc} {ce sn : Nat} {ls : Array Slot} (X : LCx p l s m c b L xs D cI cZ cB cJ A) (S : LSt s D cI cZ cB cJ A adC adM ao C N bl f H locs) {i : Int} (hi : 0 ≤ i ∧ i + 6 ≤ L) (hl : lv_has ls 7 (lvL b (adC 0) (adM 0) ao i)) (hcs : ce ≤ 400000 ∧ sn ≤ 4000000)
    (kk : ∀ (C' N' : Mem) (bl' : Nat) (adM' : Nat → Nat) (f' : Nat → Int64) (H' : Heap) (locs' : List Loc) (ls' : Array Slot) (ce' sn' : Nat), LSt s D cI cZ cB cJ A adC adM' ao C' N' bl' f' H' locs' → adM' 0 = adM 0 → lv_has ls' 7 (lvL b (adC 0) (adM 0) ao i) → ce' + 2 * bl = ce + 1 + 2 * bl' → sn' + 2 * bl = sn + 6 + 2 * bl' → W p l e room_1 s m #[Value.ref b] below meth c H' locs' ce' sn' Q (F0 m 955 ls' [])) :
    W p l e room_1 s m #[Value.ref b] below meth c H locs ce sn Q (F0 m 271 ls []) := by
  obtain ⟨hR, hbl, S⟩ := S
  have hM := r_M hR
  have hL := X.2.2.2.2.2
  refine lv_aload_n X.1.1.1 X.1.1.2.1 dL_law_271 rfl (lv_at hl 1 rfl) ?_
  refine lz_sc X S.2.2.2.2 (i := i) (j := 1) ⟨by omega, by omega⟩ (lv_at hl 0 rfl) (lv_at hl 4 rfl) dL_law_272 dL_law_273 dL_law_275 dL_law_276 dL_law_277 ?_
  refine lv_aload_n X.1.1.1 X.1.1.2.1 dL_law_278 rfl (lv_at hl 3 rfl) ?_
  refine lz_W X S (zs := [(sc xs (i + 1))]) okL_68 dL_law_279 (w_drop C hR.2.1.2.2.2.2.2 (sc xs (i + 1)) (sc_R xs (i + 1))) (by decide) ⟨by omega, by omega⟩ rfl (Nat.le_of_ble_eq_true rfl) hl.1 rfl (fun z C1 f1 H1 locs1 hz hp S1 => ?_)
  refine lv_istore X.1.1.1 X.1.1.2.1 dL_law_282 hl (by decide) rfl (fun ls1 hl1 => ?_)
  refine lv_aload_n X.1.1.1 X.1.1.2.1 dL_law_284 rfl (lv_at hl1 3 rfl) ?_
  refine lz_sc X S1.2.2.2.2 (i := i) (j := 1) ⟨by omega, by omega⟩ (lv_at hl1 1 rfl) (lv_at hl1 5 rfl) dL_law_285 dL_law_286 dL_law_288 dL_law_289 dL_law_290 ?_
  refine lz_M X S1 (As := [.inl (sc xs (i + 1))]) okL_70 rfl dL_law_291 (c_M_drop bl N hM.2.1 (sc xs (i + 1)) (sc_R xs (i + 1))) ⟨rfl, rfl, by decide, by decide⟩ ⟨by omega, by omega⟩ rfl (Nat.le_of_ble_eq_true rfl) hl1.1 rfl (fun r2 N1 H2 locs2 hr2 hp2 S2 => ?_)
  refine lv_istore X.1.1.1 X.1.1.2.1 dL_law_294 hl1 (by decide) rfl (fun ls2 hl2 => ?_)
  obtain ⟨et, ev0, rel, eb⟩ := r_drop hR hp hp2
  refine lv_aload_n X.1.1.1 X.1.1.2.1 dL_law_296 rfl (lv_at hl2 4 rfl) ?_
  refine lz_M X S2 (As := []) okL_51 rfl dL_law_297 (c_M_thrown bl N1) ⟨rfl, rfl, by decide, by decide⟩ ⟨by omega, by omega⟩ rfl (Nat.le_of_ble_eq_true rfl) hl2.1 rfl (fun r3 N2 H3 locs3 hr3 hp3 S3 => ?_)
  obtain ⟨rfl, e3⟩ := hp3
  rw [et] at e3
  refine lv_iload X.1.1.1 X.1.1.2.1 dL_law_300 (lv_at hl2 1 rfl) ?_
  refine lv_icmp_eq X.1.1.1 X.1.1.2.1 (tgt := 307) dL_law_302 rfl (fun _ => ?_) (fun y => absurd (by rw [e3]) y)
  have hl3 : lv_has ls2 7 (lvL b (adC 0) (adM 0) ao i) := lv_sub hl2 [2, 3, 4, 5, 6] rfl
  have fin : W p l e room_1 s m #[Value.ref b] below meth c H3 locs3 (ce + 1) (sn + 6) Q (F0 m 331 ls2 []) := lv_goto X.1.1.1 X.1.1.2.1 (tgt := 955) dL_law_331 rfl (kk _ _ bl adM _ _ _ _ _ _ ⟨rel, hbl, S3⟩ rfl hl3 (by omega) (by omega))
  refine lv_iload X.1.1.1 X.1.1.2.1 dL_law_307 (lv_at hl2 1 rfl) ?_
  refine lv_if_ne X.1.1.1 X.1.1.2.1 (tgt := 331) dL_law_309 rfl (fun _ => fin) (fun y => ?_)
  have z0 : z = 0 := (oI_eq hz (by decide)).1 y
  have ev := ev0 z0
  refine lv_aload_n X.1.1.1 X.1.1.2.1 dL_law_312 rfl (lv_at hl2 5 rfl) ?_
  refine lv_iconst X.1.1.1 X.1.1.2.1 dL_law_313 rfl ?_
  refine va_lald X.1.1.1 X.1.1.2.1 X.1.2.2.1 (P_l S3.2.2.1) 55 3 wsO_at rfl vp0 dL_law_314 ?_
  rw [i0, ev]
  refine lv_iload X.1.1.1 X.1.1.2.1 dL_law_315 (lv_at hl2 0 rfl) ?_
  rcases eb z0 with rfl | rfl
  · refine lv_if_eq X.1.1.1 X.1.1.2.1 (tgt := 324) dL_law_317 rfl (fun _ => ?_) (fun y => absurd rfl y)
    refine lv_lconst (v := (Int32.ofInt 0).toInt64) X.1.1.1 X.1.1.2.1 dL_law_324 (by decide) ?_
    refine W.lcmp X.1.1.1 X.1.1.2.1 dL_law_325 ?_
    rw [lg_cmp_self]
    exact lv_if_eq X.1.1.1 X.1.1.2.1 (tgt := 331) dL_law_326 rfl (fun _ => fin) (fun y => absurd rfl y)
  · refine lv_if_eq X.1.1.1 X.1.1.2.1 (tgt := 324) dL_law_317 rfl (fun y => absurd y (by decide)) (fun _ => ?_)
    refine lv_lconst (v := (Int32.ofInt 1).toInt64) X.1.1.1 X.1.1.2.1 dL_law_320 (by decide) ?_
    refine lv_goto X.1.1.1 X.1.1.2.1 (tgt := 325) dL_law_321 rfl ?_
    refine W.lcmp X.1.1.1 X.1.1.2.1 dL_law_325 ?_
    rw [lg_cmp_self]
    exact lv_if_eq X.1.1.1 X.1.1.2.1 (tgt := 331) dL_law_326 rfl (fun _ => fin) (fun y => absurd rfl y)
set_option maxHeartbeats 4000000 in
set_option maxRecDepth 100000 in
theorem cs_5 {p : Program} {l : Launch} {e : Env} {s : State} {m : MethodId} {below : List Frame} {meth : Method} {c : Code} {b L : Nat} {xs : Nat → Int32} {D : va_G} {cI cZ cB cJ : ClassId} {A : Nat → Prop} {Q : State → Prop} {adC adM : Nat → Nat} {ao : Nat} {C N : Mem} {bl : Nat} {f : Nat → Int64} {H : Heap} {locs : List Loc} {ce sn : Nat} {ls : Array Slot} (X : LCx p l s m c b L xs D cI cZ cB cJ A) (S : LSt s D cI cZ cB cJ A adC adM ao C N bl f H locs) {i : Int} (hi : 0 ≤ i ∧ i + 6 ≤ L) (hl : lv_has ls 7 (lvL b (adC 0) (adM 0) ao i)) (hcs : ce ≤ 400000 ∧ sn ≤ 4000000)
    (kk : ∀ (C' N' : Mem) (bl' : Nat) (adM' : Nat → Nat) (f' : Nat → Int64) (H' : Heap) (locs' : List Loc) (ls' : Array Slot) (ce' sn' : Nat), LSt s D cI cZ cB cJ A adC adM' ao C' N' bl' f' H' locs' → adM' 0 = adM 0 → lv_has ls' 7 (lvL b (adC 0) (adM 0) ao i) → ce' + 2 * bl = ce + 1 + 2 * bl' → sn' + 2 * bl = sn + 6 + 2 * bl' → W p l e room_1 s m #[Value.ref b] below meth c H' locs' ce' sn' Q (F0 m 955 ls' [])) :
    W p l e room_1 s m #[Value.ref b] below meth c H locs ce sn Q (F0 m 334 ls []) := by
  obtain ⟨hR, hbl, S⟩ := S
  have hM := r_M hR
  have hL := X.2.2.2.2.2
  refine lv_aload_n X.1.1.1 X.1.1.2.1 dL_law_334 rfl (lv_at hl 1 rfl) ?_
  refine lz_sc X S.2.2.2.2 (i := i) (j := 1) ⟨by omega, by omega⟩ (lv_at hl 0 rfl) (lv_at hl 4 rfl) dL_law_335 dL_law_336 dL_law_338 dL_law_339 dL_law_340 ?_
  refine lz_sc X S.2.2.2.2 (i := i) (j := 2) ⟨by omega, by omega⟩ (lv_at hl 0 rfl) (lv_at hl 4 rfl) dL_law_341 dL_law_342 dL_law_344 dL_law_345 dL_law_346 ?_
  refine lv_aload_n X.1.1.1 X.1.1.2.1 dL_law_347 rfl (lv_at hl 3 rfl) ?_
  refine lz_W X S (zs := [(sc xs (i + 1)), (sc xs (i + 2))]) okL_71 dL_law_348 (w_told C hR.2.1.2.2.2.2.2 (sc xs (i + 1)) (sc xs (i + 2)) (sc_R xs (i + 1)) (sc_R xs (i + 2))) (by decide) ⟨by omega, by omega⟩ rfl (Nat.le_of_ble_eq_true rfl) hl.1 rfl (fun z C1 f1 H1 locs1 hz hp S1 => ?_)
  refine lv_istore X.1.1.1 X.1.1.2.1 dL_law_351 hl (by decide) rfl (fun ls1 hl1 => ?_)
  refine lv_aload_n X.1.1.1 X.1.1.2.1 dL_law_353 rfl (lv_at hl1 3 rfl) ?_
  refine lz_sc X S1.2.2.2.2 (i := i) (j := 1) ⟨by omega, by omega⟩ (lv_at hl1 1 rfl) (lv_at hl1 5 rfl) dL_law_354 dL_law_355 dL_law_357 dL_law_358 dL_law_359 ?_
  refine lz_sc X S1.2.2.2.2 (i := i) (j := 2) ⟨by omega, by omega⟩ (lv_at hl1 1 rfl) (lv_at hl1 5 rfl) dL_law_360 dL_law_361 dL_law_363 dL_law_364 dL_law_365 ?_
  refine lz_M X S1 (As := [.inl (sc xs (i + 1)), .inl (sc xs (i + 2))]) okL_74 rfl dL_law_366 (c_M_told bl N hM.2.1 (sc xs (i + 1)) (sc xs (i + 2)) (sc_R xs (i + 1)) (sc_R xs (i + 2))) ⟨rfl, rfl, by decide, by decide⟩ ⟨by omega, by omega⟩ rfl (Nat.le_of_ble_eq_true rfl) hl1.1 rfl (fun r2 N1 H2 locs2 hr2 hp2 S2 => ?_)
  refine lv_istore X.1.1.1 X.1.1.2.1 dL_law_369 hl1 (by decide) rfl (fun ls2 hl2 => ?_)
  obtain ⟨et, ev0, rel⟩ := r_told hR hp hp2
  refine lv_aload_n X.1.1.1 X.1.1.2.1 dL_law_371 rfl (lv_at hl2 4 rfl) ?_
  refine lz_M X S2 (As := []) okL_51 rfl dL_law_372 (c_M_thrown bl N1) ⟨rfl, rfl, by decide, by decide⟩ ⟨by omega, by omega⟩ rfl (Nat.le_of_ble_eq_true rfl) hl2.1 rfl (fun r3 N2 H3 locs3 hr3 hp3 S3 => ?_)
  obtain ⟨rfl, e3⟩ := hp3
  rw [et] at e3
  refine lv_iload X.1.1.1 X.1.1.2.1 dL_law_375 (lv_at hl2 1 rfl) ?_
  refine lv_icmp_eq X.1.1.1 X.1.1.2.1 (tgt := 382) dL_law_377 rfl (fun _ => ?_) (fun y => absurd (by rw [e3]) y)
  have hl3 : lv_has ls2 7 (lvL b (adC 0) (adM 0) ao i) := lv_sub hl2 [2, 3, 4, 5, 6] rfl
  have fin : W p l e room_1 s m #[Value.ref b] below meth c H3 locs3 (ce + 1) (sn + 6) Q (F0 m 399 ls2 []) := lv_goto X.1.1.1 X.1.1.2.1 (tgt := 955) dL_law_399 rfl (kk _ _ bl adM _ _ _ _ _ _ ⟨rel, hbl, S3⟩ rfl hl3 (by omega) (by omega))
  refine lv_iload X.1.1.1 X.1.1.2.1 dL_law_382 (lv_at hl2 1 rfl) ?_
  refine lv_if_ne X.1.1.1 X.1.1.2.1 (tgt := 399) dL_law_384 rfl (fun _ => fin) (fun y => ?_)
  have z0 : z = 0 := (oI_eq hz (by decide)).1 y
  have ev := ev0 z0
  refine lv_aload_n X.1.1.1 X.1.1.2.1 dL_law_387 rfl (lv_at hl2 5 rfl) ?_
  refine lv_iconst X.1.1.1 X.1.1.2.1 dL_law_388 rfl ?_
  refine va_lald X.1.1.1 X.1.1.2.1 X.1.2.2.1 (P_l S3.2.2.1) 55 3 wsO_at rfl vp0 dL_law_389 ?_
  rw [i0, ev]
  refine lv_iload X.1.1.1 X.1.1.2.1 dL_law_390 (lv_at hl2 0 rfl) ?_
  refine lv_i2l X.1.1.1 X.1.1.2.1 dL_law_392 rfl ?_
  refine W.lcmp X.1.1.1 X.1.1.2.1 dL_law_393 ?_
  rw [lg_cmp_self]
  exact lv_if_eq X.1.1.1 X.1.1.2.1 (tgt := 399) dL_law_394 rfl (fun _ => fin) (fun y => absurd rfl y)
set_option maxHeartbeats 4000000 in
set_option maxRecDepth 100000 in
theorem cs_7 {p : Program} {l : Launch} {e : Env} {s : State} {m : MethodId} {below : List Frame} {meth : Method} {c : Code} {b L : Nat} {xs : Nat → Int32} {D : va_G} {cI cZ cB cJ : ClassId} {A : Nat → Prop} {Q : State → Prop} {adC adM : Nat → Nat} {ao : Nat} {C N : Mem} {bl : Nat} {f : Nat → Int64} {H : Heap} {locs : List Loc} {ce sn : Nat} {ls : Array Slot} (X : LCx p l s m c b L xs D cI cZ cB cJ A) (S : LSt s D cI cZ cB cJ A adC adM ao C N bl f H locs) {i : Int} (hi : 0 ≤ i ∧ i + 6 ≤ L) (hl : lv_has ls 7 (lvL b (adC 0) (adM 0) ao i)) (hcs : ce ≤ 400000 ∧ sn ≤ 4000000)
    (kk : ∀ (C' N' : Mem) (bl' : Nat) (adM' : Nat → Nat) (f' : Nat → Int64) (H' : Heap) (locs' : List Loc) (ls' : Array Slot) (ce' sn' : Nat), LSt s D cI cZ cB cJ A adC adM' ao C' N' bl' f' H' locs' → adM' 0 = adM 0 → lv_has ls' 7 (lvL b (adC 0) (adM 0) ao i) → ce' + 2 * bl = ce + 1 + 2 * bl' → sn' + 2 * bl = sn + 6 + 2 * bl' → W p l e room_1 s m #[Value.ref b] below meth c H' locs' ce' sn' Q (F0 m 955 ls' [])) :
    W p l e room_1 s m #[Value.ref b] below meth c H locs ce sn Q (F0 m 415 ls []) := by
  obtain ⟨hR, hbl, S⟩ := S
  have hM := r_M hR
  have hL := X.2.2.2.2.2
  refine lv_aload_n X.1.1.1 X.1.1.2.1 dL_law_415 rfl (lv_at hl 1 rfl) ?_
  refine lz_sc X S.2.2.2.2 (i := i) (j := 1) ⟨by omega, by omega⟩ (lv_at hl 0 rfl) (lv_at hl 4 rfl) dL_law_416 dL_law_417 dL_law_419 dL_law_420 dL_law_421 ?_
  refine lz_sc X S.2.2.2.2 (i := i) (j := 2) ⟨by omega, by omega⟩ (lv_at hl 0 rfl) (lv_at hl 4 rfl) dL_law_422 dL_law_423 dL_law_425 dL_law_426 dL_law_427 ?_
  refine lv_aload_n X.1.1.1 X.1.1.2.1 dL_law_428 rfl (lv_at hl 3 rfl) ?_
  refine lz_W X S (zs := [(sc xs (i + 1)), (sc xs (i + 2))]) okL_79 dL_law_429 (w_step C hR.2.2.1.2.2.1 (sc xs (i + 1)) (sc xs (i + 2)) (sc_R xs (i + 1)) (sc_R xs (i + 2))) (by decide) ⟨by omega, by omega⟩ rfl (Nat.le_of_ble_eq_true rfl) hl.1 rfl (fun z C1 f1 H1 locs1 hz hp S1 => ?_)
  refine lv_istore X.1.1.1 X.1.1.2.1 dL_law_432 hl (by decide) rfl (fun ls1 hl1 => ?_)
  refine lv_aload_n X.1.1.1 X.1.1.2.1 dL_law_434 rfl (lv_at hl1 3 rfl) ?_
  refine lz_sc X S1.2.2.2.2 (i := i) (j := 1) ⟨by omega, by omega⟩ (lv_at hl1 1 rfl) (lv_at hl1 5 rfl) dL_law_435 dL_law_436 dL_law_438 dL_law_439 dL_law_440 ?_
  refine lz_sc X S1.2.2.2.2 (i := i) (j := 2) ⟨by omega, by omega⟩ (lv_at hl1 1 rfl) (lv_at hl1 5 rfl) dL_law_441 dL_law_442 dL_law_444 dL_law_445 dL_law_446 ?_
  refine lz_M X S1 (As := [.inl (sc xs (i + 1)), .inl (sc xs (i + 2))]) okL_81 rfl dL_law_447 (c_M_step bl N hM.2.2.1 (sc xs (i + 1)) (sc xs (i + 2)) (sc_R xs (i + 1)) (sc_R xs (i + 2))) ⟨rfl, rfl, by decide, by decide⟩ ⟨by omega, by omega⟩ rfl (Nat.le_of_ble_eq_true rfl) hl1.1 rfl (fun r2 N1 H2 locs2 hr2 hp2 S2 => ?_)
  refine lv_istore X.1.1.1 X.1.1.2.1 dL_law_450 hl1 (by decide) rfl (fun ls2 hl2 => ?_)
  obtain ⟨et, ev0, rel⟩ := r_step hR hp hp2
  refine lv_aload_n X.1.1.1 X.1.1.2.1 dL_law_452 rfl (lv_at hl2 4 rfl) ?_
  refine lz_M X S2 (As := []) okL_51 rfl dL_law_453 (c_M_thrown bl N1) ⟨rfl, rfl, by decide, by decide⟩ ⟨by omega, by omega⟩ rfl (Nat.le_of_ble_eq_true rfl) hl2.1 rfl (fun r3 N2 H3 locs3 hr3 hp3 S3 => ?_)
  obtain ⟨rfl, e3⟩ := hp3
  rw [et] at e3
  refine lv_iload X.1.1.1 X.1.1.2.1 dL_law_456 (lv_at hl2 1 rfl) ?_
  refine lv_icmp_eq X.1.1.1 X.1.1.2.1 (tgt := 463) dL_law_458 rfl (fun _ => ?_) (fun y => absurd (by rw [e3]) y)
  have hl3 : lv_has ls2 7 (lvL b (adC 0) (adM 0) ao i) := lv_sub hl2 [2, 3, 4, 5, 6] rfl
  have fin : W p l e room_1 s m #[Value.ref b] below meth c H3 locs3 (ce + 1) (sn + 6) Q (F0 m 480 ls2 []) := lv_goto X.1.1.1 X.1.1.2.1 (tgt := 955) dL_law_480 rfl (kk _ _ bl adM _ _ _ _ _ _ ⟨rel, hbl, S3⟩ rfl hl3 (by omega) (by omega))
  refine lv_iload X.1.1.1 X.1.1.2.1 dL_law_463 (lv_at hl2 1 rfl) ?_
  refine lv_if_ne X.1.1.1 X.1.1.2.1 (tgt := 480) dL_law_465 rfl (fun _ => fin) (fun y => ?_)
  have z0 : z = 0 := (oI_eq hz (by decide)).1 y
  have ev := ev0 z0
  refine lv_aload_n X.1.1.1 X.1.1.2.1 dL_law_468 rfl (lv_at hl2 5 rfl) ?_
  refine lv_iconst X.1.1.1 X.1.1.2.1 dL_law_469 rfl ?_
  refine va_lald X.1.1.1 X.1.1.2.1 X.1.2.2.1 (P_l S3.2.2.1) 55 3 wsO_at rfl vp0 dL_law_470 ?_
  rw [i0, ev]
  refine lv_iload X.1.1.1 X.1.1.2.1 dL_law_471 (lv_at hl2 0 rfl) ?_
  refine lv_i2l X.1.1.1 X.1.1.2.1 dL_law_473 rfl ?_
  refine W.lcmp X.1.1.1 X.1.1.2.1 dL_law_474 ?_
  rw [lg_cmp_self]
  exact lv_if_eq X.1.1.1 X.1.1.2.1 (tgt := 480) dL_law_475 rfl (fun _ => fin) (fun y => absurd rfl y)
set_option maxHeartbeats 4000000 in
set_option maxRecDepth 100000 in
theorem cs_8 {p : Program} {l : Launch} {e : Env} {s : State} {m : MethodId} {below : List Frame} {meth : Method} {c : Code} {b L : Nat} {xs : Nat → Int32} {D : va_G} {cI cZ cB cJ : ClassId} {A : Nat → Prop} {Q : State → Prop} {adC adM : Nat → Nat} {ao : Nat} {C N : Mem} {bl : Nat} {f : Nat → Int64} {H : Heap} {locs : List Loc} {ce sn : Nat} {ls : Array Slot} (X : LCx p l s m c b L xs D cI cZ cB cJ A) (S : LSt s D cI cZ cB cJ A adC adM ao C N bl f H locs) {i : Int} (hi : 0 ≤ i ∧ i + 6 ≤ L) (hl : lv_has ls 7 (lvL b (adC 0) (adM 0) ao i)) (hcs : ce ≤ 400000 ∧ sn ≤ 4000000)
    (kk : ∀ (C' N' : Mem) (bl' : Nat) (adM' : Nat → Nat) (f' : Nat → Int64) (H' : Heap) (locs' : List Loc) (ls' : Array Slot) (ce' sn' : Nat), LSt s D cI cZ cB cJ A adC adM' ao C' N' bl' f' H' locs' → adM' 0 = adM 0 → lv_has ls' 7 (lvL b (adC 0) (adM 0) ao i) → ce' + 2 * bl = ce + 1 + 2 * bl' → sn' + 2 * bl = sn + 6 + 2 * bl' → W p l e room_1 s m #[Value.ref b] below meth c H' locs' ce' sn' Q (F0 m 955 ls' [])) :
    W p l e room_1 s m #[Value.ref b] below meth c H locs ce sn Q (F0 m 483 ls []) := by
  obtain ⟨hR, hbl, S⟩ := S
  have hM := r_M hR
  have hL := X.2.2.2.2.2
  refine lv_aload_n X.1.1.1 X.1.1.2.1 dL_law_483 rfl (lv_at hl 1 rfl) ?_
  refine lz_sc X S.2.2.2.2 (i := i) (j := 1) ⟨by omega, by omega⟩ (lv_at hl 0 rfl) (lv_at hl 4 rfl) dL_law_484 dL_law_485 dL_law_487 dL_law_488 dL_law_489 ?_
  refine lz_sc X S.2.2.2.2 (i := i) (j := 2) ⟨by omega, by omega⟩ (lv_at hl 0 rfl) (lv_at hl 4 rfl) dL_law_490 dL_law_491 dL_law_493 dL_law_494 dL_law_495 ?_
  refine lv_aload_n X.1.1.1 X.1.1.2.1 dL_law_496 rfl (lv_at hl 3 rfl) ?_
  refine lz_W X S (zs := [(sc xs (i + 1)), (sc xs (i + 2))]) okL_82 dL_law_497 (w_seen C hR.2.2.1.2.2.1 (sc xs (i + 1)) (sc xs (i + 2)) (sc_R xs (i + 1)) (sc_R xs (i + 2))) (by decide) ⟨by omega, by omega⟩ rfl (Nat.le_of_ble_eq_true rfl) hl.1 rfl (fun z C1 f1 H1 locs1 hz hp S1 => ?_)
  refine lv_istore X.1.1.1 X.1.1.2.1 dL_law_500 hl (by decide) rfl (fun ls1 hl1 => ?_)
  refine lv_aload_n X.1.1.1 X.1.1.2.1 dL_law_502 rfl (lv_at hl1 3 rfl) ?_
  refine lz_sc X S1.2.2.2.2 (i := i) (j := 1) ⟨by omega, by omega⟩ (lv_at hl1 1 rfl) (lv_at hl1 5 rfl) dL_law_503 dL_law_504 dL_law_506 dL_law_507 dL_law_508 ?_
  refine lz_sc X S1.2.2.2.2 (i := i) (j := 2) ⟨by omega, by omega⟩ (lv_at hl1 1 rfl) (lv_at hl1 5 rfl) dL_law_509 dL_law_510 dL_law_512 dL_law_513 dL_law_514 ?_
  refine lz_M X S1 (As := [.inl (sc xs (i + 1)), .inl (sc xs (i + 2))]) okL_84 rfl dL_law_515 (c_M_seen bl N hM.2.2.1 (sc xs (i + 1)) (sc xs (i + 2)) (sc_R xs (i + 1)) (sc_R xs (i + 2))) ⟨rfl, rfl, by decide, by decide⟩ ⟨by omega, by omega⟩ rfl (Nat.le_of_ble_eq_true rfl) hl1.1 rfl (fun r2 N1 H2 locs2 hr2 hp2 S2 => ?_)
  refine lv_istore X.1.1.1 X.1.1.2.1 dL_law_518 hl1 (by decide) rfl (fun ls2 hl2 => ?_)
  obtain ⟨et, ev0, rel⟩ := r_seen hR hp hp2
  refine lv_aload_n X.1.1.1 X.1.1.2.1 dL_law_520 rfl (lv_at hl2 4 rfl) ?_
  refine lz_M X S2 (As := []) okL_51 rfl dL_law_521 (c_M_thrown bl N1) ⟨rfl, rfl, by decide, by decide⟩ ⟨by omega, by omega⟩ rfl (Nat.le_of_ble_eq_true rfl) hl2.1 rfl (fun r3 N2 H3 locs3 hr3 hp3 S3 => ?_)
  obtain ⟨rfl, e3⟩ := hp3
  rw [et] at e3
  refine lv_iload X.1.1.1 X.1.1.2.1 dL_law_524 (lv_at hl2 1 rfl) ?_
  refine lv_icmp_eq X.1.1.1 X.1.1.2.1 (tgt := 531) dL_law_526 rfl (fun _ => ?_) (fun y => absurd (by rw [e3]) y)
  have hl3 : lv_has ls2 7 (lvL b (adC 0) (adM 0) ao i) := lv_sub hl2 [2, 3, 4, 5, 6] rfl
  have fin : W p l e room_1 s m #[Value.ref b] below meth c H3 locs3 (ce + 1) (sn + 6) Q (F0 m 548 ls2 []) := lv_goto X.1.1.1 X.1.1.2.1 (tgt := 955) dL_law_548 rfl (kk _ _ bl adM _ _ _ _ _ _ ⟨rel, hbl, S3⟩ rfl hl3 (by omega) (by omega))
  refine lv_iload X.1.1.1 X.1.1.2.1 dL_law_531 (lv_at hl2 1 rfl) ?_
  refine lv_if_ne X.1.1.1 X.1.1.2.1 (tgt := 548) dL_law_533 rfl (fun _ => fin) (fun y => ?_)
  have z0 : z = 0 := (oI_eq hz (by decide)).1 y
  have ev := ev0 z0
  refine lv_aload_n X.1.1.1 X.1.1.2.1 dL_law_536 rfl (lv_at hl2 5 rfl) ?_
  refine lv_iconst X.1.1.1 X.1.1.2.1 dL_law_537 rfl ?_
  refine va_lald X.1.1.1 X.1.1.2.1 X.1.2.2.1 (P_l S3.2.2.1) 55 3 wsO_at rfl vp0 dL_law_538 ?_
  rw [i0, ev]
  refine lv_iload X.1.1.1 X.1.1.2.1 dL_law_539 (lv_at hl2 0 rfl) ?_
  refine lv_i2l X.1.1.1 X.1.1.2.1 dL_law_541 rfl ?_
  refine W.lcmp X.1.1.1 X.1.1.2.1 dL_law_542 ?_
  rw [lg_cmp_self]
  exact lv_if_eq X.1.1.1 X.1.1.2.1 (tgt := 548) dL_law_543 rfl (fun _ => fin) (fun y => absurd rfl y)
set_option maxHeartbeats 4000000 in
set_option maxRecDepth 100000 in
theorem cs_13 {p : Program} {l : Launch} {e : Env} {s : State} {m : MethodId} {below : List Frame} {meth : Method} {c : Code} {b L : Nat} {xs : Nat → Int32} {D : va_G} {cI cZ cB cJ : ClassId} {A : Nat → Prop} {Q : State → Prop} {adC adM : Nat → Nat} {ao : Nat} {C N : Mem} {bl : Nat} {f : Nat → Int64} {H : Heap} {locs : List Loc} {ce sn : Nat} {ls : Array Slot} (X : LCx p l s m c b L xs D cI cZ cB cJ A) (S : LSt s D cI cZ cB cJ A adC adM ao C N bl f H locs) {i : Int} (hi : 0 ≤ i ∧ i + 6 ≤ L) (hl : lv_has ls 7 (lvL b (adC 0) (adM 0) ao i)) (hcs : ce ≤ 400000 ∧ sn ≤ 4000000)
    (kk : ∀ (C' N' : Mem) (bl' : Nat) (adM' : Nat → Nat) (f' : Nat → Int64) (H' : Heap) (locs' : List Loc) (ls' : Array Slot) (ce' sn' : Nat), LSt s D cI cZ cB cJ A adC adM' ao C' N' bl' f' H' locs' → adM' 0 = adM 0 → lv_has ls' 7 (lvL b (adC 0) (adM 0) ao i) → ce' + 2 * bl = ce + 1 + 2 * bl' → sn' + 2 * bl = sn + 6 + 2 * bl' → W p l e room_1 s m #[Value.ref b] below meth c H' locs' ce' sn' Q (F0 m 955 ls' [])) :
    W p l e room_1 s m #[Value.ref b] below meth c H locs ce sn Q (F0 m 675 ls []) := by
  obtain ⟨hR, hbl, S⟩ := S
  have hM := r_M hR
  have hL := X.2.2.2.2.2
  refine lv_aload_n X.1.1.1 X.1.1.2.1 dL_law_675 rfl (lv_at hl 1 rfl) ?_
  refine lz_sc X S.2.2.2.2 (i := i) (j := 1) ⟨by omega, by omega⟩ (lv_at hl 0 rfl) (lv_at hl 4 rfl) dL_law_676 dL_law_677 dL_law_679 dL_law_680 dL_law_681 ?_
  refine lv_aload_n X.1.1.1 X.1.1.2.1 dL_law_682 rfl (lv_at hl 3 rfl) ?_
  refine lz_W X S (zs := [(sc xs (i + 1))]) okL_102 dL_law_683 (w_routine C hR.2.2.2.1.2.1 hR.2.2.2.1.2.2.1 hR.2.2.2.2.1.1 (sc xs (i + 1)) (sc_R xs (i + 1))) (by decide) ⟨by omega, by omega⟩ rfl (Nat.le_of_ble_eq_true rfl) hl.1 rfl (fun z C1 f1 H1 locs1 hz hp S1 => ?_)
  refine lv_istore X.1.1.1 X.1.1.2.1 dL_law_686 hl (by decide) rfl (fun ls1 hl1 => ?_)
  refine lv_aload_n X.1.1.1 X.1.1.2.1 dL_law_688 rfl (lv_at hl1 3 rfl) ?_
  refine lz_sc X S1.2.2.2.2 (i := i) (j := 1) ⟨by omega, by omega⟩ (lv_at hl1 1 rfl) (lv_at hl1 5 rfl) dL_law_689 dL_law_690 dL_law_692 dL_law_693 dL_law_694 ?_
  refine lz_M X S1 (As := [.inl (sc xs (i + 1))]) okL_104 rfl dL_law_695 (c_M_routine bl N (C 30) hM.2.2.2.1 (fun i x y => hR.2.2.2.1.2.2.2 i x (by rw [← hR.2.2.2.1.1]; exact y)) (sc xs (i + 1)) (sc_R xs (i + 1))) ⟨rfl, rfl, by decide, by decide⟩ ⟨by omega, by omega⟩ rfl (Nat.le_of_ble_eq_true rfl) hl1.1 rfl (fun r2 N1 H2 locs2 hr2 hp2 S2 => ?_)
  refine lv_istore X.1.1.1 X.1.1.2.1 dL_law_698 hl1 (by decide) rfl (fun ls2 hl2 => ?_)
  obtain ⟨et, ev0, rel⟩ := r_routine hR hp hp2
  refine lv_aload_n X.1.1.1 X.1.1.2.1 dL_law_700 rfl (lv_at hl2 4 rfl) ?_
  refine lz_M X S2 (As := []) okL_51 rfl dL_law_701 (c_M_thrown bl N1) ⟨rfl, rfl, by decide, by decide⟩ ⟨by omega, by omega⟩ rfl (Nat.le_of_ble_eq_true rfl) hl2.1 rfl (fun r3 N2 H3 locs3 hr3 hp3 S3 => ?_)
  obtain ⟨rfl, e3⟩ := hp3
  rw [et] at e3
  refine lv_iload X.1.1.1 X.1.1.2.1 dL_law_704 (lv_at hl2 1 rfl) ?_
  refine lv_icmp_eq X.1.1.1 X.1.1.2.1 (tgt := 711) dL_law_706 rfl (fun _ => ?_) (fun y => absurd (by rw [e3]) y)
  have hl3 : lv_has ls2 7 (lvL b (adC 0) (adM 0) ao i) := lv_sub hl2 [2, 3, 4, 5, 6] rfl
  have fin : W p l e room_1 s m #[Value.ref b] below meth c H3 locs3 (ce + 1) (sn + 6) Q (F0 m 728 ls2 []) := lv_goto X.1.1.1 X.1.1.2.1 (tgt := 955) dL_law_728 rfl (kk _ _ bl adM _ _ _ _ _ _ ⟨rel, hbl, S3⟩ rfl hl3 (by omega) (by omega))
  refine lv_iload X.1.1.1 X.1.1.2.1 dL_law_711 (lv_at hl2 1 rfl) ?_
  refine lv_if_ne X.1.1.1 X.1.1.2.1 (tgt := 728) dL_law_713 rfl (fun _ => fin) (fun y => ?_)
  have z0 : z = 0 := (oI_eq hz (by decide)).1 y
  have ev := ev0 z0
  refine lv_aload_n X.1.1.1 X.1.1.2.1 dL_law_716 rfl (lv_at hl2 5 rfl) ?_
  refine lv_iconst X.1.1.1 X.1.1.2.1 dL_law_717 rfl ?_
  refine va_lald X.1.1.1 X.1.1.2.1 X.1.2.2.1 (P_l S3.2.2.1) 55 3 wsO_at rfl vp0 dL_law_718 ?_
  rw [i0, ev]
  refine lv_iload X.1.1.1 X.1.1.2.1 dL_law_719 (lv_at hl2 0 rfl) ?_
  refine lv_i2l X.1.1.1 X.1.1.2.1 dL_law_721 rfl ?_
  refine W.lcmp X.1.1.1 X.1.1.2.1 dL_law_722 ?_
  rw [lg_cmp_self]
  exact lv_if_eq X.1.1.1 X.1.1.2.1 (tgt := 728) dL_law_723 rfl (fun _ => fin) (fun y => absurd rfl y)
set_option maxHeartbeats 4000000 in
set_option maxRecDepth 100000 in
theorem cs_17 {p : Program} {l : Launch} {e : Env} {s : State} {m : MethodId} {below : List Frame} {meth : Method} {c : Code} {b L : Nat} {xs : Nat → Int32} {D : va_G} {cI cZ cB cJ : ClassId} {A : Nat → Prop} {Q : State → Prop} {adC adM : Nat → Nat} {ao : Nat} {C N : Mem} {bl : Nat} {f : Nat → Int64} {H : Heap} {locs : List Loc} {ce sn : Nat} {ls : Array Slot} (X : LCx p l s m c b L xs D cI cZ cB cJ A) (S : LSt s D cI cZ cB cJ A adC adM ao C N bl f H locs) {i : Int} (hi : 0 ≤ i ∧ i + 6 ≤ L) (hl : lv_has ls 7 (lvL b (adC 0) (adM 0) ao i)) (hcs : ce ≤ 400000 ∧ sn ≤ 4000000)
    (kk : ∀ (C' N' : Mem) (bl' : Nat) (adM' : Nat → Nat) (f' : Nat → Int64) (H' : Heap) (locs' : List Loc) (ls' : Array Slot) (ce' sn' : Nat), LSt s D cI cZ cB cJ A adC adM' ao C' N' bl' f' H' locs' → adM' 0 = adM 0 → lv_has ls' 7 (lvL b (adC 0) (adM 0) ao i) → ce' + 2 * bl = ce + 1 + 2 * bl' → sn' + 2 * bl = sn + 6 + 2 * bl' → W p l e room_1 s m #[Value.ref b] below meth c H' locs' ce' sn' Q (F0 m 955 ls' [])) :
    W p l e room_1 s m #[Value.ref b] below meth c H locs ce sn Q (F0 m 782 ls []) := by
  obtain ⟨hR, hbl, S⟩ := S
  have hM := r_M hR
  have hL := X.2.2.2.2.2
  refine lv_aload_n X.1.1.1 X.1.1.2.1 dL_law_782 rfl (lv_at hl 1 rfl) ?_
  refine lz_sc X S.2.2.2.2 (i := i) (j := 1) ⟨by omega, by omega⟩ (lv_at hl 0 rfl) (lv_at hl 4 rfl) dL_law_783 dL_law_784 dL_law_786 dL_law_787 dL_law_788 ?_
  refine lz_sc X S.2.2.2.2 (i := i) (j := 2) ⟨by omega, by omega⟩ (lv_at hl 0 rfl) (lv_at hl 4 rfl) dL_law_789 dL_law_790 dL_law_792 dL_law_793 dL_law_794 ?_
  refine lz_sc X S.2.2.2.2 (i := i) (j := 3) ⟨by omega, by omega⟩ (lv_at hl 0 rfl) (lv_at hl 4 rfl) dL_law_795 dL_law_796 dL_law_798 dL_law_799 dL_law_800 ?_
  refine lv_aload_n X.1.1.1 X.1.1.2.1 dL_law_801 rfl (lv_at hl 3 rfl) ?_
  refine lz_W X S (zs := [(sc xs (i + 1)), (sc xs (i + 2)), (sc xs (i + 3))]) okL_117 dL_law_802 (w_habit C hR.2.1.2.2.2.2.2 (sc xs (i + 1)) (sc xs (i + 2)) (sc xs (i + 3)) (sc_R xs (i + 1)) (sc_R xs (i + 2)) (sc_R xs (i + 3))) (by decide) ⟨by omega, by omega⟩ rfl (Nat.le_of_ble_eq_true rfl) hl.1 rfl (fun z C1 f1 H1 locs1 hz hp S1 => ?_)
  refine lv_istore X.1.1.1 X.1.1.2.1 dL_law_805 hl (by decide) rfl (fun ls1 hl1 => ?_)
  refine lv_aload_n X.1.1.1 X.1.1.2.1 dL_law_807 rfl (lv_at hl1 3 rfl) ?_
  refine lz_sc X S1.2.2.2.2 (i := i) (j := 1) ⟨by omega, by omega⟩ (lv_at hl1 1 rfl) (lv_at hl1 5 rfl) dL_law_808 dL_law_809 dL_law_811 dL_law_812 dL_law_813 ?_
  refine lz_sc X S1.2.2.2.2 (i := i) (j := 2) ⟨by omega, by omega⟩ (lv_at hl1 1 rfl) (lv_at hl1 5 rfl) dL_law_814 dL_law_815 dL_law_817 dL_law_818 dL_law_819 ?_
  refine lz_sc X S1.2.2.2.2 (i := i) (j := 3) ⟨by omega, by omega⟩ (lv_at hl1 1 rfl) (lv_at hl1 5 rfl) dL_law_820 dL_law_821 dL_law_823 dL_law_824 dL_law_825 ?_
  refine lz_M X S1 (As := [.inl (sc xs (i + 1)), .inl (sc xs (i + 2)), .inl (sc xs (i + 3))]) okL_120 rfl dL_law_826 (c_M_habit bl N hM.2.1 (sc xs (i + 1)) (sc xs (i + 2)) (sc xs (i + 3)) (sc_R xs (i + 1)) (sc_R xs (i + 2)) (sc_R xs (i + 3))) ⟨rfl, rfl, by decide, by decide⟩ ⟨by omega, by omega⟩ rfl (Nat.le_of_ble_eq_true rfl) hl1.1 rfl (fun r2 N1 H2 locs2 hr2 hp2 S2 => ?_)
  refine lv_istore X.1.1.1 X.1.1.2.1 dL_law_829 hl1 (by decide) rfl (fun ls2 hl2 => ?_)
  obtain ⟨et, ev0, rel⟩ := r_habit hR hp hp2
  refine lv_aload_n X.1.1.1 X.1.1.2.1 dL_law_831 rfl (lv_at hl2 4 rfl) ?_
  refine lz_M X S2 (As := []) okL_51 rfl dL_law_832 (c_M_thrown bl N1) ⟨rfl, rfl, by decide, by decide⟩ ⟨by omega, by omega⟩ rfl (Nat.le_of_ble_eq_true rfl) hl2.1 rfl (fun r3 N2 H3 locs3 hr3 hp3 S3 => ?_)
  obtain ⟨rfl, e3⟩ := hp3
  rw [et] at e3
  refine lv_iload X.1.1.1 X.1.1.2.1 dL_law_835 (lv_at hl2 1 rfl) ?_
  refine lv_icmp_eq X.1.1.1 X.1.1.2.1 (tgt := 842) dL_law_837 rfl (fun _ => ?_) (fun y => absurd (by rw [e3]) y)
  have hl3 : lv_has ls2 7 (lvL b (adC 0) (adM 0) ao i) := lv_sub hl2 [2, 3, 4, 5, 6] rfl
  have fin : W p l e room_1 s m #[Value.ref b] below meth c H3 locs3 (ce + 1) (sn + 6) Q (F0 m 859 ls2 []) := lv_goto X.1.1.1 X.1.1.2.1 (tgt := 955) dL_law_859 rfl (kk _ _ bl adM _ _ _ _ _ _ ⟨rel, hbl, S3⟩ rfl hl3 (by omega) (by omega))
  refine lv_iload X.1.1.1 X.1.1.2.1 dL_law_842 (lv_at hl2 1 rfl) ?_
  refine lv_if_ne X.1.1.1 X.1.1.2.1 (tgt := 859) dL_law_844 rfl (fun _ => fin) (fun y => ?_)
  have z0 : z = 0 := (oI_eq hz (by decide)).1 y
  have ev := ev0 z0
  refine lv_aload_n X.1.1.1 X.1.1.2.1 dL_law_847 rfl (lv_at hl2 5 rfl) ?_
  refine lv_iconst X.1.1.1 X.1.1.2.1 dL_law_848 rfl ?_
  refine va_lald X.1.1.1 X.1.1.2.1 X.1.2.2.1 (P_l S3.2.2.1) 55 3 wsO_at rfl vp0 dL_law_849 ?_
  rw [i0, ev]
  refine lv_iload X.1.1.1 X.1.1.2.1 dL_law_850 (lv_at hl2 0 rfl) ?_
  refine lv_i2l X.1.1.1 X.1.1.2.1 dL_law_852 rfl ?_
  refine W.lcmp X.1.1.1 X.1.1.2.1 dL_law_853 ?_
  rw [lg_cmp_self]
  exact lv_if_eq X.1.1.1 X.1.1.2.1 (tgt := 859) dL_law_854 rfl (fun _ => fin) (fun y => absurd rfl y)
set_option maxHeartbeats 4000000 in
set_option maxRecDepth 100000 in
theorem cs_18 {p : Program} {l : Launch} {e : Env} {s : State} {m : MethodId} {below : List Frame} {meth : Method} {c : Code} {b L : Nat} {xs : Nat → Int32} {D : va_G} {cI cZ cB cJ : ClassId} {A : Nat → Prop} {Q : State → Prop} {adC adM : Nat → Nat} {ao : Nat} {C N : Mem} {bl : Nat} {f : Nat → Int64} {H : Heap} {locs : List Loc} {ce sn : Nat} {ls : Array Slot} (X : LCx p l s m c b L xs D cI cZ cB cJ A) (S : LSt s D cI cZ cB cJ A adC adM ao C N bl f H locs) {i : Int} (hi : 0 ≤ i ∧ i + 6 ≤ L) (hl : lv_has ls 7 (lvL b (adC 0) (adM 0) ao i)) (hcs : ce ≤ 400000 ∧ sn ≤ 4000000)
    (kk : ∀ (C' N' : Mem) (bl' : Nat) (adM' : Nat → Nat) (f' : Nat → Int64) (H' : Heap) (locs' : List Loc) (ls' : Array Slot) (ce' sn' : Nat), LSt s D cI cZ cB cJ A adC adM' ao C' N' bl' f' H' locs' → adM' 0 = adM 0 → lv_has ls' 7 (lvL b (adC 0) (adM 0) ao i) → ce' + 2 * bl = ce + 1 + 2 * bl' → sn' + 2 * bl = sn + 6 + 2 * bl' → W p l e room_1 s m #[Value.ref b] below meth c H' locs' ce' sn' Q (F0 m 955 ls' [])) :
    W p l e room_1 s m #[Value.ref b] below meth c H locs ce sn Q (F0 m 862 ls []) := by
  obtain ⟨hR, hbl, S⟩ := S
  have hM := r_M hR
  have hL := X.2.2.2.2.2
  refine lv_aload_n X.1.1.1 X.1.1.2.1 dL_law_862 rfl (lv_at hl 1 rfl) ?_
  refine lz_sc X S.2.2.2.2 (i := i) (j := 1) ⟨by omega, by omega⟩ (lv_at hl 0 rfl) (lv_at hl 4 rfl) dL_law_863 dL_law_864 dL_law_866 dL_law_867 dL_law_868 ?_
  refine lz_sc X S.2.2.2.2 (i := i) (j := 2) ⟨by omega, by omega⟩ (lv_at hl 0 rfl) (lv_at hl 4 rfl) dL_law_869 dL_law_870 dL_law_872 dL_law_873 dL_law_874 ?_
  refine lv_aload_n X.1.1.1 X.1.1.2.1 dL_law_875 rfl (lv_at hl 3 rfl) ?_
  refine lz_W X S (zs := [(sc xs (i + 1)), (sc xs (i + 2))]) okL_121 dL_law_876 (w_rank C hR.2.1.2.2.2.2.2 (sc xs (i + 1)) (sc xs (i + 2)) (sc_R xs (i + 1)) (sc_R xs (i + 2))) (by decide) ⟨by omega, by omega⟩ rfl (Nat.le_of_ble_eq_true rfl) hl.1 rfl (fun z C1 f1 H1 locs1 hz hp S1 => ?_)
  refine lv_istore X.1.1.1 X.1.1.2.1 dL_law_879 hl (by decide) rfl (fun ls1 hl1 => ?_)
  refine lv_aload_n X.1.1.1 X.1.1.2.1 dL_law_881 rfl (lv_at hl1 3 rfl) ?_
  refine lz_sc X S1.2.2.2.2 (i := i) (j := 1) ⟨by omega, by omega⟩ (lv_at hl1 1 rfl) (lv_at hl1 5 rfl) dL_law_882 dL_law_883 dL_law_885 dL_law_886 dL_law_887 ?_
  refine lz_sc X S1.2.2.2.2 (i := i) (j := 2) ⟨by omega, by omega⟩ (lv_at hl1 1 rfl) (lv_at hl1 5 rfl) dL_law_888 dL_law_889 dL_law_891 dL_law_892 dL_law_893 ?_
  refine lz_M X S1 (As := [.inl (sc xs (i + 1)), .inl (sc xs (i + 2))]) okL_123 rfl dL_law_894 (c_M_rank bl N hM.2.1 (sc xs (i + 1)) (sc xs (i + 2)) (sc_R xs (i + 1)) (sc_R xs (i + 2))) ⟨rfl, rfl, by decide, by decide⟩ ⟨by omega, by omega⟩ rfl (Nat.le_of_ble_eq_true rfl) hl1.1 rfl (fun r2 N1 H2 locs2 hr2 hp2 S2 => ?_)
  refine lv_istore X.1.1.1 X.1.1.2.1 dL_law_897 hl1 (by decide) rfl (fun ls2 hl2 => ?_)
  obtain ⟨et, ev0, rel⟩ := r_rank hR hp hp2
  refine lv_aload_n X.1.1.1 X.1.1.2.1 dL_law_899 rfl (lv_at hl2 4 rfl) ?_
  refine lz_M X S2 (As := []) okL_51 rfl dL_law_900 (c_M_thrown bl N1) ⟨rfl, rfl, by decide, by decide⟩ ⟨by omega, by omega⟩ rfl (Nat.le_of_ble_eq_true rfl) hl2.1 rfl (fun r3 N2 H3 locs3 hr3 hp3 S3 => ?_)
  obtain ⟨rfl, e3⟩ := hp3
  rw [et] at e3
  refine lv_iload X.1.1.1 X.1.1.2.1 dL_law_903 (lv_at hl2 1 rfl) ?_
  refine lv_icmp_eq X.1.1.1 X.1.1.2.1 (tgt := 910) dL_law_905 rfl (fun _ => ?_) (fun y => absurd (by rw [e3]) y)
  have hl3 : lv_has ls2 7 (lvL b (adC 0) (adM 0) ao i) := lv_sub hl2 [2, 3, 4, 5, 6] rfl
  have fin : W p l e room_1 s m #[Value.ref b] below meth c H3 locs3 (ce + 1) (sn + 6) Q (F0 m 927 ls2 []) := lv_goto X.1.1.1 X.1.1.2.1 (tgt := 955) dL_law_927 rfl (kk _ _ bl adM _ _ _ _ _ _ ⟨rel, hbl, S3⟩ rfl hl3 (by omega) (by omega))
  refine lv_iload X.1.1.1 X.1.1.2.1 dL_law_910 (lv_at hl2 1 rfl) ?_
  refine lv_if_ne X.1.1.1 X.1.1.2.1 (tgt := 927) dL_law_912 rfl (fun _ => fin) (fun y => ?_)
  have z0 : z = 0 := (oI_eq hz (by decide)).1 y
  have ev := ev0 z0
  refine lv_aload_n X.1.1.1 X.1.1.2.1 dL_law_915 rfl (lv_at hl2 5 rfl) ?_
  refine lv_iconst X.1.1.1 X.1.1.2.1 dL_law_916 rfl ?_
  refine va_lald X.1.1.1 X.1.1.2.1 X.1.2.2.1 (P_l S3.2.2.1) 55 3 wsO_at rfl vp0 dL_law_917 ?_
  rw [i0, ev]
  refine lv_iload X.1.1.1 X.1.1.2.1 dL_law_918 (lv_at hl2 0 rfl) ?_
  refine lv_i2l X.1.1.1 X.1.1.2.1 dL_law_920 rfl ?_
  refine W.lcmp X.1.1.1 X.1.1.2.1 dL_law_921 ?_
  rw [lg_cmp_self]
  exact lv_if_eq X.1.1.1 X.1.1.2.1 (tgt := 927) dL_law_922 rfl (fun _ => fin) (fun y => absurd rfl y)
