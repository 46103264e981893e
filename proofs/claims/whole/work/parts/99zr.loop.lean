/-! THE LAW: its loop -/
theorem oN_oI {n : Nat} (h : n < 2147483648) : Int32.ofNat n = Int32.ofInt (n : Int) := Int32.toInt_inj.mp (by rw [tI ⟨by omega, by omega⟩]; exact nI_toInt (by omega))
set_option maxHeartbeats 4000000 in
set_option maxRecDepth 100000 in
theorem law_turn {p : Program} {l : Launch} {e : Env} {s : State} {m : MethodId} {below : List Frame} {meth : Method} {c : Code} {b L : Nat} {xs : Nat → Int32} {D : va_G} {cI cZ cB cJ : ClassId} {A : Nat → Prop} {Q : State → Prop} {adC adM : Nat → Nat} {ao : Nat} {C N : Mem} {bl : Nat} {f : Nat → Int64} {H : Heap} {locs : List Loc} {ce sn : Nat} {ls : Array Slot} (X : LCx p l s m c b L xs D cI cZ cB cJ A) (S : LSt s D cI cZ cB cJ A adC adM ao C N bl f H locs) {i : Int} (hi : 0 ≤ i ∧ i + 6 ≤ L) (hl : lv_has ls 7 (lvL b (adC 0) (adM 0) ao i)) (hcs : ce ≤ 400000 ∧ sn ≤ 4000000)
    (kk : ∀ (C' N' : Mem) (bl' : Nat) (adM' : Nat → Nat) (f' : Nat → Int64) (H' : Heap) (locs' : List Loc) (ls' : Array Slot) (ce' sn' : Nat), LSt s D cI cZ cB cJ A adC adM' ao C' N' bl' f' H' locs' → adM' 0 = adM 0 → lv_has ls' 7 (lvL b (adC 0) (adM 0) ao i) → ce' + 2 * bl = ce + 1 + 2 * bl' → sn' + 2 * bl = sn + 6 + 2 * bl' → W p l e room_1 s m #[Value.ref b] below meth c H' locs' ce' sn' Q (F0 m 955 ls' [])) :
    W p l e room_1 s m #[Value.ref b] below meth c H locs ce sn Q (F0 m 33 ls []) := by
  have hL := X.2.2.2.2.2
  have hin := oI_in (z := i) (n := L) hi.1 (by omega) (by omega)
  refine lv_aload_n X.1.1.1 X.1.1.2.1 dL_law_33 rfl (lv_at hl 0 rfl) ?_
  refine lv_iload X.1.1.1 X.1.1.2.1 dL_law_34 (lv_at hl 4 rfl) ?_
  refine va_sld X.1.1.1 X.1.1.2.1 X.2.2.2.2.1.1 X.2.2.2.2.1.2.1 X.2.2.2.2.1.2.2 S.2.2.2.2.2.2 hin.1 dL_law_36 ?_
  refine lv_bipush X.1.1.1 X.1.1.2.1 dL_law_37 rfl ?_
  refine lv_iand X.1.1.1 X.1.1.2.1 dL_law_39 ?_
  obtain ⟨j, hj, ej⟩ := pk_andE (xs (Int32.ofInt i).toNatClampNeg) (m := (Int8.ofInt 31).toInt32) 5 (by decide)
  rw [ej]
  have hj : j < 32 := hj
  have tj : (nI j).toInt = (j : Int) := nI_toInt (by omega)
  by_cases big : 20 ≤ j
  · refine lv_tableOut X.1.1.1 X.1.1.2.1 dL_law_40 (by rw [tj]; omega) (tgt := 955) rfl ?_
    exact W.widen (Nat.le_add_right ce 1) (Nat.le_add_right sn 6) (kk _ _ bl adM _ _ _ _ _ _ S rfl hl (by omega) (by omega))
  · have cases20 : j = 0 ∨ j = 1 ∨ j = 2 ∨ j = 3 ∨ j = 4 ∨ j = 5 ∨ j = 6 ∨ j = 7 ∨ j = 8 ∨ j = 9 ∨ j = 10 ∨ j = 11 ∨ j = 12 ∨ j = 13 ∨ j = 14 ∨ j = 15 ∨ j = 16 ∨ j = 17 ∨ j = 18 ∨ j = 19 := by omega
    rcases cases20 with rfl | rfl | rfl | rfl | rfl | rfl | rfl | rfl | rfl | rfl | rfl | rfl | rfl | rfl | rfl | rfl | rfl | rfl | rfl | rfl
    · exact lv_tableIn X.1.1.1 X.1.1.2.1 dL_law_40 (by rw [tj]; decide) (by rw [tj]; decide) (off := 96) (by rw [tj]; rfl) (tgt := 136) rfl (cs_0 X S hi hl hcs kk)
    · exact lv_tableIn X.1.1.1 X.1.1.2.1 dL_law_40 (by rw [tj]; decide) (by rw [tj]; decide) (off := 152) (by rw [tj]; rfl) (tgt := 192) rfl (cs_1 X S hi hl hcs kk)
    · exact lv_tableIn X.1.1.1 X.1.1.2.1 dL_law_40 (by rw [tj]; decide) (by rw [tj]; decide) (off := 165) (by rw [tj]; rfl) (tgt := 205) rfl (cs_2 X S hi hl hcs kk)
    · exact lv_tableIn X.1.1.1 X.1.1.2.1 dL_law_40 (by rw [tj]; decide) (by rw [tj]; decide) (off := 190) (by rw [tj]; rfl) (tgt := 230) rfl (cs_3 X S hi hl hcs kk)
    · exact lv_tableIn X.1.1.1 X.1.1.2.1 dL_law_40 (by rw [tj]; decide) (by rw [tj]; decide) (off := 231) (by rw [tj]; rfl) (tgt := 271) rfl (cs_4 X S hi hl hcs kk)
    · exact lv_tableIn X.1.1.1 X.1.1.2.1 dL_law_40 (by rw [tj]; decide) (by rw [tj]; decide) (off := 294) (by rw [tj]; rfl) (tgt := 334) rfl (cs_5 X S hi hl hcs kk)
    · exact lv_tableIn X.1.1.1 X.1.1.2.1 dL_law_40 (by rw [tj]; decide) (by rw [tj]; decide) (off := 362) (by rw [tj]; rfl) (tgt := 402) rfl (cs_6 X S hi hl hcs kk)
    · exact lv_tableIn X.1.1.1 X.1.1.2.1 dL_law_40 (by rw [tj]; decide) (by rw [tj]; decide) (off := 375) (by rw [tj]; rfl) (tgt := 415) rfl (cs_7 X S hi hl hcs kk)
    · exact lv_tableIn X.1.1.1 X.1.1.2.1 dL_law_40 (by rw [tj]; decide) (by rw [tj]; decide) (off := 443) (by rw [tj]; rfl) (tgt := 483) rfl (cs_8 X S hi hl hcs kk)
    · exact lv_tableIn X.1.1.1 X.1.1.2.1 dL_law_40 (by rw [tj]; decide) (by rw [tj]; decide) (off := 511) (by rw [tj]; rfl) (tgt := 551) rfl (cs_9 X S hi hl hcs kk)
    · exact lv_tableIn X.1.1.1 X.1.1.2.1 dL_law_40 (by rw [tj]; decide) (by rw [tj]; decide) (off := 536) (by rw [tj]; rfl) (tgt := 576) rfl (cs_10 X S hi hl hcs kk)
    · exact lv_tableIn X.1.1.1 X.1.1.2.1 dL_law_40 (by rw [tj]; decide) (by rw [tj]; decide) (off := 549) (by rw [tj]; rfl) (tgt := 589) rfl (cs_11 X S hi hl hcs kk)
    · exact lv_tableIn X.1.1.1 X.1.1.2.1 dL_law_40 (by rw [tj]; decide) (by rw [tj]; decide) (off := 562) (by rw [tj]; rfl) (tgt := 602) rfl (cs_12 X S hi hl hcs kk)
    · exact lv_tableIn X.1.1.1 X.1.1.2.1 dL_law_40 (by rw [tj]; decide) (by rw [tj]; decide) (off := 635) (by rw [tj]; rfl) (tgt := 675) rfl (cs_13 X S hi hl hcs kk)
    · exact lv_tableIn X.1.1.1 X.1.1.2.1 dL_law_40 (by rw [tj]; decide) (by rw [tj]; decide) (off := 691) (by rw [tj]; rfl) (tgt := 731) rfl (cs_14 X S hi hl hcs kk)
    · exact lv_tableIn X.1.1.1 X.1.1.2.1 dL_law_40 (by rw [tj]; decide) (by rw [tj]; decide) (off := 704) (by rw [tj]; rfl) (tgt := 744) rfl (cs_15 X S hi hl hcs kk)
    · exact lv_tableIn X.1.1.1 X.1.1.2.1 dL_law_40 (by rw [tj]; decide) (by rw [tj]; decide) (off := 729) (by rw [tj]; rfl) (tgt := 769) rfl (cs_16 X S hi hl hcs kk)
    · exact lv_tableIn X.1.1.1 X.1.1.2.1 dL_law_40 (by rw [tj]; decide) (by rw [tj]; decide) (off := 742) (by rw [tj]; rfl) (tgt := 782) rfl (cs_17 X S hi hl hcs kk)
    · exact lv_tableIn X.1.1.1 X.1.1.2.1 dL_law_40 (by rw [tj]; decide) (by rw [tj]; decide) (off := 822) (by rw [tj]; rfl) (tgt := 862) rfl (cs_18 X S hi hl hcs kk)
    · exact lv_tableIn X.1.1.1 X.1.1.2.1 dL_law_40 (by rw [tj]; decide) (by rw [tj]; decide) (off := 890) (by rw [tj]; rfl) (tgt := 930) rfl (cs_19 X S hi hl hcs kk)
set_option maxHeartbeats 4000000 in
set_option maxRecDepth 100000 in
theorem law_loop {p : Program} {l : Launch} {e : Env} {s : State} {m : MethodId} {below : List Frame} {meth : Method} {c : Code} {b L : Nat} {xs : Nat → Int32} {D : va_G} {cI cZ cB cJ : ClassId} {A : Nat → Prop} {Q : State → Prop} {adC : Nat → Nat} {ao ma : Nat} (X : LCx p l s m c b L xs D cI cZ cB cJ A)
    (fin : ∀ (H : Heap) (locs : List Loc) (ls : Array Slot) (ce sn : Nat), va_S A s.heap H locs → ce ≤ 601024 → sn ≤ 7293034 → W p l e room_1 s m #[Value.ref b] below meth c H locs ce sn Q (F0 m 961 ls [])) :
    ∀ (k t : Nat) (adM : Nat → Nat) (C N : Mem) (bl : Nat) (f : Nat → Int64) (H : Heap) (locs : List Loc) (ce sn : Nat) (ls : Array Slot), t + k = 513 → adM 0 = ma → LSt s D cI cZ cB cJ A adC adM ao C N bl f H locs → lv_has ls 7 (lvL b (adC 0) ma ao (6 * (t : Int))) → ce = 300 + t + 2 * bl → sn = 300000 + 6 * t + 2 * bl → W p l e room_1 s m #[Value.ref b] below meth c H locs ce sn Q (F0 m 23 ls []) := by
  have hL := X.2.2.2.2.2
  intro k
  induction k with
  | zero =>
    intro t adM C N bl f H locs ce sn ls ht ha S hl e1 e2
    have hb := S.2.1
    refine lv_iload X.1.1.1 X.1.1.2.1 dL_law_23 (lv_at hl 4 rfl) ?_
    refine lv_aload_n X.1.1.1 X.1.1.2.1 dL_law_25 rfl (lv_at hl 0 rfl) ?_
    refine va_slen X.1.1.1 X.1.1.2.1 X.2.2.2.2.1.1 X.2.2.2.2.1.2.1 X.2.2.2.2.1.2.2 S.2.2.2.2.2.2 dL_law_26 ?_
    refine lv_bipush (v := Int32.ofInt 6) X.1.1.1 X.1.1.2.1 dL_law_27 (by decide) ?_
    refine lv_isub X.1.1.1 X.1.1.2.1 dL_law_29 ?_
    rw [oN_oI (by omega), ← Int32.ofInt_sub]
    refine lv_icmp_gt X.1.1.1 X.1.1.2.1 (tgt := 961) dL_law_30 rfl (fun _ => fin H locs ls ce sn S.2.2.2.2.2.2 (by omega) (by omega)) (fun z => ?_)
    exfalso
    rw [oI_lt (by constructor <;> omega) (by constructor <;> omega)] at z
    omega
  | succ k ih =>
    intro t adM C N bl f H locs ce sn ls ht ha S hl e1 e2
    have hb := S.2.1
    refine lv_iload X.1.1.1 X.1.1.2.1 dL_law_23 (lv_at hl 4 rfl) ?_
    refine lv_aload_n X.1.1.1 X.1.1.2.1 dL_law_25 rfl (lv_at hl 0 rfl) ?_
    refine va_slen X.1.1.1 X.1.1.2.1 X.2.2.2.2.1.1 X.2.2.2.2.1.2.1 X.2.2.2.2.1.2.2 S.2.2.2.2.2.2 dL_law_26 ?_
    refine lv_bipush (v := Int32.ofInt 6) X.1.1.1 X.1.1.2.1 dL_law_27 (by decide) ?_
    refine lv_isub X.1.1.1 X.1.1.2.1 dL_law_29 ?_
    rw [oN_oI (by omega), ← Int32.ofInt_sub]
    refine lv_icmp_gt X.1.1.1 X.1.1.2.1 (tgt := 961) dL_law_30 rfl (fun _ => fin H locs ls ce sn S.2.2.2.2.2.2 (by omega) (by omega)) (fun z => ?_)
    rw [oI_lt (by constructor <;> omega) (by constructor <;> omega)] at z
    subst ha
    refine law_turn X S (i := 6 * (t : Int)) ⟨by omega, by omega⟩ hl ⟨by omega, by omega⟩ (fun C' N' bl' adM' f' H' locs' ls' ce' sn' S' ha' hl' c1 c2 => ?_)
    refine lv_iinc (v := Int32.ofInt (6 * ((t + 1 : Nat) : Int))) X.1.1.1 X.1.1.2.1 dL_law_955 hl' (k := 4) rfl (by rw [← Int32.ofInt_add]; congr 1) (by decide) rfl (fun ls2 hl2 => ?_)
    refine lv_goto X.1.1.1 X.1.1.2.1 (tgt := 23) dL_law_958 rfl ?_
    exact ih (t + 1) adM' C' N' bl' f' H' locs' ce' sn' ls2 (by omega) ha' S' (lv_sub hl2 [1, 2, 3, 4, 0] rfl) (by omega) (by omega)
