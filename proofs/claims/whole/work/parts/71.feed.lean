/-! bits: the rows of feed, on both sides -/
theorem oI_nat (a : Int) : (Int32.ofInt a).toBitVec.toNat = (a % 4294967296).toNat := by
  rw [Int32.toBitVec_ofInt, BitVec.toNat_ofInt]; rfl
theorem oI_of_nat {x : Int32} {z : Int} (h : x.toBitVec.toNat = (z % 4294967296).toNat) : x = Int32.ofInt z := by
  apply Int32.toBitVec_inj.mp
  apply BitVec.eq_of_toNat_eq
  rw [h, oI_nat]
theorem oI_255 (a : Int) : Int32.ofInt a &&& Int32.ofInt 255 = Int32.ofInt (a % 256) := by
  rw [pk_and (Int32.ofInt a) (m := Int32.ofInt 255) 8 (by decide), oI_nat]
  apply oI_of_nat
  have h : nI ((a % 4294967296).toNat % 2 ^ 8) = Int32.ofInt (((a % 4294967296).toNat % 256 : Nat) : Int) := rfl
  rw [h, oI_nat]
  congr 1
  omega
theorem k_iand255 {sh : Nat → Sh} {N : Nat} {own : String} {cc : ByteArray} {nL : Nat} {ret : Option FieldType} {R : Room} {post : Int → Mem → Prop} {K : Kt} {pc : Nat} {lv : Lv} {stk : List V} {M : Mem} (C : Ctx sh N own cc nL ret R post K) {a : Int} (hd : decode cc pc = .ok (.iand, 1)) (kk : K (pc + 1) lv (.inl (a % 256) :: stk) M) : K pc lv (.inl 255 :: .inl a :: stk) M := by
  obtain ⟨p, l, e, s, m, args, below, meth, c, D, cI, cZ, cB, ad, A, ⟨hx, hb, hml, hown, hts⟩, ⟨hr, hlk, hns⟩, hK, hA, hD, rfl⟩ := C
  intro hM H locs ls hP hS hl
  have h := kk hM H locs ls hP hS hl
  simp only [List.map_cons, vv, ← oI_255] at h
  exact lv_iand hx hb hd h
theorem ush_q {a sh : Int} (hs : sh = 0 ∨ sh = 8 ∨ sh = 16 ∨ sh = 24) : ((Int32.ofInt a).toUInt32 >>> ((Int32.ofInt sh).toUInt32 &&& Int32.toUInt32 31)).toInt32 = Int32.ofInt ((a % 4294967296) / 2 ^ sh.toNat) := by
  apply oI_of_nat
  rcases hs with rfl | rfl | rfl | rfl
  · rw [pk_ushr _ _ 0 (by decide), oI_nat]
    show _ = ((a % 4294967296) / 1 % 4294967296).toNat
    omega
  · rw [pk_ushr _ _ 8 (by decide), oI_nat]
    show _ = ((a % 4294967296) / 256 % 4294967296).toNat
    omega
  · rw [pk_ushr _ _ 16 (by decide), oI_nat]
    show _ = ((a % 4294967296) / 65536 % 4294967296).toNat
    omega
  · rw [pk_ushr _ _ 24 (by decide), oI_nat]
    show _ = ((a % 4294967296) / 16777216 % 4294967296).toNat
    omega
theorem k_iushr {sh : Nat → Sh} {N : Nat} {own : String} {cc : ByteArray} {nL : Nat} {ret : Option FieldType} {R : Room} {post : Int → Mem → Prop} {K : Kt} {pc : Nat} {lv : Lv} {stk : List V} {M : Mem} (C : Ctx sh N own cc nL ret R post K) {a t : Int} (hd : decode cc pc = .ok (.iushr, 1)) (hs : t = 0 ∨ t = 8 ∨ t = 16 ∨ t = 24) (kk : K (pc + 1) lv (.inl ((a % 4294967296) / 2 ^ t.toNat) :: stk) M) : K pc lv (.inl t :: .inl a :: stk) M := by
  obtain ⟨p, l, e, s, m, args, below, meth, c, D, cI, cZ, cB, ad, A, ⟨hx, hb, hml, hown, hts⟩, ⟨hr, hlk, hns⟩, hK, hA, hD, rfl⟩ := C
  intro hM H locs ls hP hS hl
  exact lv_iushr hx hb hd (ush_q hs) (kk hM H locs ls hP hS hl)
/-- the byte of a at the place sh (24, 16, 8, 0) -/
def byt (a sh : Int) : Int := (a / 2 ^ sh.toNat) % 256
theorem byt_u {a sh : Int} (hs : sh = 0 ∨ sh = 8 ∨ sh = 16 ∨ sh = 24) : ((a % 4294967296) / 2 ^ sh.toNat) % 256 = byt a sh := by
  unfold byt
  rcases hs with rfl | rfl | rfl | rfl
  · show ((a % 4294967296) / 1) % 256 = (a / 1) % 256; omega
  · show ((a % 4294967296) / 256) % 256 = (a / 256) % 256; omega
  · show ((a % 4294967296) / 65536) % 256 = (a / 65536) % 256; omega
  · show ((a % 4294967296) / 16777216) % 256 = (a / 16777216) % 256; omega
theorem byt_rg (a sh : Int) : 0 ≤ byt a sh ∧ byt a sh < 256 := by unfold byt; omega
def apM (M : Mem) (v : Int) : Mem := up (up M 30 (M 29 1) v) 29 1 (M 29 1 + 1)
def bys (M : Mem) (a : Int) : Nat → Mem
  | 0 => M
  | j + 1 => apM (bys M a j) (byt a (24 - 8 * j))
theorem bys_n (M : Mem) (a : Int) : ∀ j : Nat, bys M a j 29 1 = M 29 1 + j
  | 0 => by simp [bys]
  | j + 1 => by
    have := bys_n M a j
    show apM (bys M a j) _ 29 1 = _
    unfold apM
    rw [up_same, this]; omega
set_option maxHeartbeats 4000000 in
set_option maxRecDepth 100000 in
theorem l_addBytes {K : Kt} (M : Mem) (hs : 0 ≤ M 29 1 ∧ M 29 1 ≤ 196) (a : Int) (ha : inR a) (C : Ctx shC nC RX10 cX10_addBytes 3 none (lvl 1) (fun _ M' => M' = bys M a 4) K) (j : Nat) (hj : j ≤ 4) : K 3 [(0, .inr 0), (1, .inl a), (2, .inl (24 - 8 * (j : Int)))] [] (bys M a j) := by
  have hn := bys_n M a j
  refine k_iload_n C dX10_addBytes_3 rfl rfl ?_
  refine k_if_lt C (tgt := 28) dX10_addBytes_4 rfl (by omega) (fun c4 => ?_) (fun c4 => ?_)
  · exact k_vret C dX10_addBytes_28 (fun _ => by rw [show j = 4 by omega])
  · refine k_aload_n C dX10_addBytes_7 rfl rfl ?_
    refine k_getR C (j := 6) okC10 rfl (by decide) (by decide) rfl flX10_57 dX10_addBytes_8 ?_
    refine k_iload_n C dX10_addBytes_11 rfl rfl ?_
    refine k_iload_n C dX10_addBytes_12 rfl rfl ?_
    refine k_iushr C dX10_addBytes_13 (by omega) ?_
    refine k_sipush C dX10_addBytes_14 (by decide) ?_
    refine k_iand255 C dX10_addBytes_17 ?_
    rw [byt_u (by omega)]
    have hbr := byt_rg a (24 - 8 * (j : Int))
    refine k_callV C okX10_103 dX10_addBytes_18 (c_Line_append 29 30 200 rfl (by decide) rfl (by decide) (by decide) _ (byt a (24 - 8 * (j : Int))) (by omega)) rfl rfl (by decide) rfl (by decide) rfl (Nat.le_of_ble_eq_true rfl) (fun r18 M18 hr18 hp18 => ?_)
    rw [if_pos (by omega)] at hp18
    obtain ⟨rfl, rfl⟩ := hp18
    refine k_pop C dX10_addBytes_21 ?_
    refine k_iinc C dX10_addBytes_22 (by decide) rfl ?_
    refine k_goto C (tgt := 3) dX10_addBytes_25 rfl ?_
    refine k_cut2 C (lv' := [(0, _), (1, _), (2, _)]) ⟨rfl, rfl, rfl, trivial⟩ ?_
    rw [show 24 - 8 * (j : Int) + -8 = 24 - 8 * ((j + 1 : Nat) : Int) by omega]
    exact l_addBytes M hs a ha C (j + 1) (by omega)
termination_by 4 - j
decreasing_by all_goals omega
set_option maxHeartbeats 4000000 in
set_option maxRecDepth 100000 in
theorem c_addBytes (M : Mem) (hs : 0 ≤ M 29 1 ∧ M 29 1 ≤ 196) (a : Int) (ha : inR a) : Ct shC nC yX10_addBytes cX10_addBytes 3 none (lvl 1) [.inr 0, .inl a] M (fun _ M' => M' = bys M a 4) := by
  refine Ct_of (by decide +kernel) (Nat.le_of_ble_eq_true rfl) (fun K C => ?_)
  refine k_bipush C dX10_addBytes_0 (by decide) ?_
  refine k_istore_n C dX10_addBytes_2 rfl (by decide) ?_
  refine k_cut2 C (lv' := [(0, _), (1, _), (2, _)]) ⟨rfl, rfl, rfl, trivial⟩ ?_
  exact l_addBytes M hs a ha C 0 (by omega)
/-- behind a feed -/
def fdM (M : Mem) (a b c d e : Int) : Mem := bys (bys (bys (bys (bys M a 4) b 4) c 4) d 4) e 4
set_option maxHeartbeats 4000000 in
set_option maxRecDepth 100000 in
theorem c_feed (M : Mem) (hs : 0 ≤ M 29 1 ∧ M 29 1 ≤ 200) (a b c d e : Int) (ha : inR a) (hb : inR b) (hc : inR c) (hd : inR d) (he : inR e) : Ct shC nC yX10_feed cX10_feed 6 (some .int) (lvl 2) [.inr 0, .inl a, .inl b, .inl c, .inl d, .inl e] M (fun r M' => (180 < M 29 1 ∧ r = -1 ∧ M = M') ∨ (M 29 1 ≤ 180 ∧ r = M 29 1 + 20 ∧ M' = fdM M a b c d e)) := by
  refine Ct_of (by decide +kernel) (Nat.le_of_ble_eq_true rfl) (fun K C => ?_)
  refine k_aload_n C dX10_feed_0 rfl rfl ?_
  refine k_getR C (j := 6) okC10 rfl (by decide) (by decide) rfl flX10_57 dX10_feed_1 ?_
  refine k_getJ C 1 1 rfl okC5 rfl (by decide) (by decide) rfl flX10_106 dX10_feed_4 (fun ld4 => ?_)
  refine k_sipush C dX10_feed_7 (by decide) ?_
  refine k_icmp_le C (tgt := 15) dX10_feed_10 rfl (by omega) (by omega) (fun c10 => ?_) (fun c10 => ?_)
  · refine k_aload_n C dX10_feed_15 rfl rfl ?_
    refine k_iload_n C dX10_feed_16 rfl rfl ?_
    refine k_callV C okX10_179 dX10_feed_17 (c_addBytes M (by omega) a ha) rfl rfl (by decide) rfl (by decide) rfl (Nat.le_of_ble_eq_true rfl) (fun r17 M17 hr17 hp17 => ?_)
    subst hp17
    refine k_aload_n C dX10_feed_20 rfl rfl ?_
    refine k_iload_n C dX10_feed_21 rfl rfl ?_
    refine k_callV C okX10_179 dX10_feed_22 (c_addBytes _ (by rw [bys_n]; omega) b hb) rfl rfl (by decide) rfl (by decide) rfl (Nat.le_of_ble_eq_true rfl) (fun r22 M22 hr22 hp22 => ?_)
    subst hp22
    refine k_aload_n C dX10_feed_25 rfl rfl ?_
    refine k_iload_n C dX10_feed_26 rfl rfl ?_
    refine k_callV C okX10_179 dX10_feed_27 (c_addBytes _ (by rw [bys_n, bys_n]; omega) c hc) rfl rfl (by decide) rfl (by decide) rfl (Nat.le_of_ble_eq_true rfl) (fun r27 M27 hr27 hp27 => ?_)
    subst hp27
    refine k_aload_n C dX10_feed_30 rfl rfl ?_
    refine k_iload C dX10_feed_31 rfl ?_
    refine k_callV C okX10_179 dX10_feed_33 (c_addBytes _ (by rw [bys_n, bys_n, bys_n]; omega) d hd) rfl rfl (by decide) rfl (by decide) rfl (Nat.le_of_ble_eq_true rfl) (fun r33 M33 hr33 hp33 => ?_)
    subst hp33
    refine k_aload_n C dX10_feed_36 rfl rfl ?_
    refine k_iload C dX10_feed_37 rfl ?_
    refine k_callV C okX10_179 dX10_feed_39 (c_addBytes _ (by rw [bys_n, bys_n, bys_n, bys_n]; omega) e he) rfl rfl (by decide) rfl (by decide) rfl (Nat.le_of_ble_eq_true rfl) (fun r39 M39 hr39 hp39 => ?_)
    subst hp39
    refine k_aload_n C dX10_feed_42 rfl rfl ?_
    refine k_getR C (j := 6) okC10 rfl (by decide) (by decide) rfl flX10_57 dX10_feed_43 ?_
    refine k_getJ C 1 1 rfl okC5 rfl (by decide) (by decide) rfl flX10_106 dX10_feed_46 (fun ld46 => ?_)
    rw [bys_n, bys_n, bys_n, bys_n, bys_n]
    exact k_iret C dX10_feed_49 (by omega) (fun _ => Or.inr ⟨by omega, by omega, rfl⟩)
  · refine k_iconst C dX10_feed_13 ?_
    exact k_iret C dX10_feed_14 (by omega) (fun _ => Or.inl ⟨by omega, rfl, rfl⟩)
