/-! THE REFERENCE: feed, broken; rows for ishr and i2b -/
theorem shr_q {a t : Int} (ha : inR a) (hs : t = 0 ∨ t = 8 ∨ t = 16 ∨ t = 24) : Int32.ofInt a >>> (Int32.ofInt t &&& 31) = Int32.ofInt (a / 2 ^ t.toNat) := by
  apply Int32.toInt_inj.mp
  rcases hs with rfl | rfl | rfl | rfl
  · rw [pk_shr _ _ 0 (by decide), tI ha, tI (by show inR (a / 1); omega), Int.shiftRight_eq_div_pow]; rfl
  · rw [pk_shr _ _ 8 (by decide), tI ha, tI (by show inR (a / 256); omega), Int.shiftRight_eq_div_pow]; rfl
  · rw [pk_shr _ _ 16 (by decide), tI ha, tI (by show inR (a / 65536); omega), Int.shiftRight_eq_div_pow]; rfl
  · rw [pk_shr _ _ 24 (by decide), tI ha, tI (by show inR (a / 16777216); omega), Int.shiftRight_eq_div_pow]; rfl
def sg8 (a : Int) : Int := if a % 256 < 128 then a % 256 else a % 256 - 256
theorem sg8_rg (a : Int) : -128 ≤ sg8 a ∧ sg8 a < 128 := by unfold sg8; split <;> omega
theorem sg8_m (a : Int) : sg8 a % 256 = a % 256 := by unfold sg8; split <;> omega
theorem i2b_q {a : Int} (ha : inR a) : (Int32.ofInt a).toInt8.toInt32 = Int32.ofInt (sg8 a) := by
  have hr := sg8_rg a
  apply Int32.toInt_inj.mp
  rw [Int8.toInt_toInt32, Int32.toInt_toInt8, tI ha, tI (by omega), Int.bmod_def]
  unfold sg8
  rfl
theorem k_ishr {sh : Nat → Sh} {N : Nat} {own : String} {cc : ByteArray} {nL : Nat} {ret : Option FieldType} {R : Room} {post : Int → Mem → Prop} {K : Kt} {pc : Nat} {lv : Lv} {stk : List V} {M : Mem} (C : Ctx sh N own cc nL ret R post K) {a t : Int} (hd : decode cc pc = .ok (.ishr, 1)) (ha : inR a) (hs : t = 0 ∨ t = 8 ∨ t = 16 ∨ t = 24) (kk : K (pc + 1) lv (.inl (a / 2 ^ t.toNat) :: stk) M) : K pc lv (.inl t :: .inl a :: stk) M := by
  obtain ⟨p, l, e, s, m, args, below, meth, c, D, cI, cZ, cB, ad, A, ⟨hx, hb, hml, hown, hts⟩, ⟨hr, hlk, hns⟩, hK, hA, hD, rfl⟩ := C
  intro hM H locs ls hP hS hl
  have h := kk hM H locs ls hP hS hl
  simp only [List.map_cons, vv, ← shr_q ha hs] at h
  exact lv_ishr hx hb hd h
theorem k_i2b {sh : Nat → Sh} {N : Nat} {own : String} {cc : ByteArray} {nL : Nat} {ret : Option FieldType} {R : Room} {post : Int → Mem → Prop} {K : Kt} {pc : Nat} {lv : Lv} {stk : List V} {M : Mem} (C : Ctx sh N own cc nL ret R post K) {a : Int} (hd : decode cc pc = .ok (.i2b, 1)) (ha : inR a) (kk : K (pc + 1) lv (.inl (sg8 a) :: stk) M) : K pc lv (.inl a :: stk) M := by
  obtain ⟨p, l, e, s, m, args, below, meth, c, D, cI, cZ, cB, ad, A, ⟨hx, hb, hml, hown, hts⟩, ⟨hr, hlk, hns⟩, hK, hA, hD, rfl⟩ := C
  intro hM H locs ls hP hS hl
  exact lv_i2b hx hb hd (i2b_q ha) (kk hM H locs ls hP hS hl)
def apN (M : Mem) (v : Int) : Mem := up (up M 24 (M 0 30) v) 0 30 (M 0 30 + 1)
def byN (M : Mem) (a : Int) : Nat → Mem
  | 0 => M
  | j + 1 => apN (byN M a j) (sg8 (a / 2 ^ (24 - 8 * (j : Int)).toNat))
theorem byN_n (M : Mem) (a : Int) : ∀ j : Nat, byN M a j 0 30 = M 0 30 + j
  | 0 => by simp [byN]
  | j + 1 => by
    have := byN_n M a j
    show apN (byN M a j) _ 0 30 = _
    unfold apN
    rw [up_same, this]; omega
theorem div_rg {a : Int} (ha : inR a) {t : Int} (hs : t = 0 ∨ t = 8 ∨ t = 16 ∨ t = 24) : inR (a / 2 ^ t.toNat) := by
  rcases hs with rfl | rfl | rfl | rfl
  · show inR (a / 1); omega
  · show inR (a / 256); omega
  · show inR (a / 65536); omega
  · show inR (a / 16777216); omega
def vlw (a b c d e : Int) (w : Nat) : Int := if w = 0 then a else if w = 1 then b else if w = 2 then c else if w = 3 then d else e
def fdN (M : Mem) (a b c d e : Int) : Nat → Mem
  | 0 => M
  | w + 1 => byN (fdN M a b c d e w) (vlw a b c d e w) 4
theorem fdN_n (M : Mem) (a b c d e : Int) : ∀ w : Nat, fdN M a b c d e w 0 30 = M 0 30 + 20 - 20 + 4 * w
  | 0 => by simp [fdN]
  | w + 1 => by
    have := fdN_n M a b c d e w
    show byN (fdN M a b c d e w) _ 4 0 30 = _
    rw [byN_n, this]; omega
set_option maxHeartbeats 4000000 in
set_option maxRecDepth 100000 in
theorem m_feed2 {K : Kt} (bl : Nat) (B : Mem) (hs : 0 ≤ B 0 30 ∧ B 0 30 ≤ 200) (a b c d e : Int) (ha : inR a) (hb : inR b) (hc : inR c) (hd : inR d) (he : inR e) (C : Ctx (shM bl) nM RX11 cX11_feed 9 (some .int) (lvl 0) (fun r M' => (180 < B 0 30 ∧ r = -1 ∧ B = M') ∨ (B 0 30 ≤ 180 ∧ r = B 0 30 + 20 ∧ M' = fdN B a b c d e 5)) K) (w : Nat) (v : Int) (hv : inR v) (F : Mem) (hF : 0 ≤ F 0 30 ∧ F 0 30 ≤ 196) (kk : K 113 [(0, .inr 0), (1, .inl a), (2, .inl b), (3, .inl c), (4, .inl d), (5, .inl e), (6, .inl (w : Int))] [] (byN F v 4)) (j : Nat) (hj : j ≤ 4) : K 77 [(0, .inr 0), (1, .inl a), (2, .inl b), (3, .inl c), (4, .inl d), (5, .inl e), (6, .inl (w : Int)), (7, .inl v), (8, .inl (24 - 8 * (j : Int)))] [] (byN F v j) := by
  have hn := byN_n F v j
  refine k_iload C dX11_feed_77 rfl ?_
  refine k_if_lt C (tgt := 113) dX11_feed_79 rfl (by omega) (fun c4 => ?_) (fun c4 => ?_)
  · refine k_cut2 C (lv' := [(0, _), (1, _), (2, _), (3, _), (4, _), (5, _), (6, _)]) ⟨rfl, rfl, rfl, rfl, rfl, rfl, rfl, trivial⟩ ?_
    rw [show j = 4 by omega]; exact kk
  · have hq := div_rg hv (t := 24 - 8 * (j : Int)) (by omega)
    have hr8 := sg8_rg (v / 2 ^ (24 - 8 * (j : Int)).toNat)
    refine k_aload_n C dX11_feed_82 rfl rfl ?_
    refine k_getR C (j := 29) okC11 rfl (by decide) (by decide) rfl flX11_80 dX11_feed_83 ?_
    refine k_aload_n C dX11_feed_86 rfl rfl ?_
    refine k_getJ C 30 30 rfl okC11 rfl (by decide) (by decide) rfl flX11_204 dX11_feed_87 (fun ld87 => ?_)
    refine k_iload C dX11_feed_90 rfl ?_
    refine k_iload C dX11_feed_92 rfl ?_
    refine k_ishr C dX11_feed_94 hv (by omega) ?_
    refine k_i2b C dX11_feed_95 hq ?_
    refine k_bastore C rfl (by decide) (by decide) ⟨by omega, by omega⟩ hr8 dX11_feed_96 ?_
    refine k_aload_n C dX11_feed_97 rfl rfl ?_
    refine k_dup C dX11_feed_98 ?_
    refine k_getJ C 30 30 rfl okC11 rfl (by decide) (by decide) rfl flX11_204 dX11_feed_99 (fun ld99 => ?_)
    rw [up_ne (show (0 : Nat) ≠ 24 by decide)]
    refine k_iconst C dX11_feed_102 ?_
    refine k_iadd C dX11_feed_103 ?_
    refine k_putJ C 30 30 rfl okC11 rfl (by decide) (by decide) rfl rfl rfl (by omega) flX11_204 dX11_feed_104 ?_
    refine k_iinc C dX11_feed_107 (by decide) rfl ?_
    refine k_goto C (tgt := 77) dX11_feed_110 rfl ?_
    refine k_cut2 C (lv' := [(0, _), (1, _), (2, _), (3, _), (4, _), (5, _), (6, _), (7, _), (8, _)]) ⟨rfl, rfl, rfl, rfl, rfl, rfl, rfl, rfl, rfl, trivial⟩ ?_
    rw [show 24 - 8 * (j : Int) + -8 = 24 - 8 * ((j + 1 : Nat) : Int) by omega]
    exact m_feed2 bl B hs a b c d e ha hb hc hd he C w v hv F hF kk (j + 1) (by omega)
termination_by 4 - j
decreasing_by all_goals omega
set_option maxHeartbeats 4000000 in
set_option maxRecDepth 100000 in
theorem m_feed1 {K : Kt} (bl : Nat) (B : Mem) (hs : 0 ≤ B 0 30 ∧ B 0 30 ≤ 200) (a b c d e : Int) (ha : inR a) (hb : inR b) (hc : inR c) (hd : inR d) (he : inR e) (C : Ctx (shM bl) nM RX11 cX11_feed 9 (some .int) (lvl 0) (fun r M' => (180 < B 0 30 ∧ r = -1 ∧ B = M') ∨ (B 0 30 ≤ 180 ∧ r = B 0 30 + 20 ∧ M' = fdN B a b c d e 5)) K) (h180 : B 0 30 ≤ 180) (w : Nat) (hw : w ≤ 5) : K 23 [(0, .inr 0), (1, .inl a), (2, .inl b), (3, .inl c), (4, .inl d), (5, .inl e), (6, .inl (w : Int))] [] (fdN B a b c d e w) := by
  have hn := fdN_n B a b c d e w
  refine k_iload C dX11_feed_23 rfl ?_
  refine k_iconst C dX11_feed_25 ?_
  refine k_icmp_ge C (tgt := 119) dX11_feed_26 rfl (by omega) (by omega) (fun c26 => ?_) (fun c26 => ?_)
  · refine k_aload_n C dX11_feed_119 rfl rfl ?_
    refine k_getJ C 30 30 rfl okC11 rfl (by decide) (by decide) rfl flX11_204 dX11_feed_120 (fun ld120 => ?_)
    rw [hn]
    exact k_iret C dX11_feed_123 (by omega) (fun _ => Or.inr ⟨h180, by omega, by rw [show w = 5 by omega]⟩)
  · refine k_iload C dX11_feed_29 rfl ?_
    refine k_if_ne C (tgt := 38) dX11_feed_31 rfl (by omega) (fun c31 => ?_) (fun c31 => ?_)
    · refine k_iload C dX11_feed_38 rfl ?_
      refine k_iconst C dX11_feed_40 ?_
      refine k_icmp_ne C (tgt := 48) dX11_feed_41 rfl (by omega) (by omega) (fun c41 => ?_) (fun c41 => ?_)
      · refine k_iload C dX11_feed_48 rfl ?_
        refine k_iconst C dX11_feed_50 ?_
        refine k_icmp_ne C (tgt := 58) dX11_feed_51 rfl (by omega) (by omega) (fun c51 => ?_) (fun c51 => ?_)
        · refine k_iload C dX11_feed_58 rfl ?_
          refine k_iconst C dX11_feed_60 ?_
          refine k_icmp_ne C (tgt := 69) dX11_feed_61 rfl (by omega) (by omega) (fun c61 => ?_) (fun c61 => ?_)
          · refine k_iload C dX11_feed_69 rfl ?_
            refine k_istore C dX11_feed_71 (by decide) ?_
            refine k_bipush C dX11_feed_73 (by decide) ?_
            refine k_istore C dX11_feed_75 (by decide) ?_
            refine k_cut2 C (lv' := [(0, _), (1, _), (2, _), (3, _), (4, _), (5, _), (6, _), (7, _), (8, _)]) ⟨rfl, rfl, rfl, rfl, rfl, rfl, rfl, rfl, rfl, trivial⟩ ?_
            refine m_feed2 bl B hs a b c d e ha hb hc hd he C w _ (by assumption) (fdN B a b c d e w) (by omega) ?_ 0 (by omega)
            have ev : fdN B a b c d e (w + 1) = byN (fdN B a b c d e w) _ 4 := rfl
            unfold vlw at ev
            first
            | (rw [if_pos (by omega)] at ev; rw [← ev]; done)
            | skip
            refine k_iinc C dX11_feed_113 (by decide) rfl ?_
            refine k_goto C (tgt := 23) dX11_feed_116 rfl ?_
            refine k_cut2 C (lv' := [(0, _), (1, _), (2, _), (3, _), (4, _), (5, _), (6, _)]) ⟨rfl, rfl, rfl, rfl, rfl, rfl, rfl, trivial⟩ ?_
            have ih := m_feed1 bl B hs a b c d e ha hb hc hd he C h180 (w + 1) (by omega)
            rw [ev] at ih
            rw [show (w : Int) + 1 = ((w + 1 : Nat) : Int) by omega]
            first
            | (rw [if_pos (show w = 0 by omega)] at ih; exact ih)
            | (rw [if_neg (show ¬ w = 0 by omega), if_pos (show w = 1 by omega)] at ih; exact ih)
            | (rw [if_neg (show ¬ w = 0 by omega), if_neg (show ¬ w = 1 by omega), if_pos (show w = 2 by omega)] at ih; exact ih)
            | (rw [if_neg (show ¬ w = 0 by omega), if_neg (show ¬ w = 1 by omega), if_neg (show ¬ w = 2 by omega), if_pos (show w = 3 by omega)] at ih; exact ih)
            | (rw [if_neg (show ¬ w = 0 by omega), if_neg (show ¬ w = 1 by omega), if_neg (show ¬ w = 2 by omega), if_neg (show ¬ w = 3 by omega)] at ih; exact ih)
          · refine k_iload C dX11_feed_64 rfl ?_
            refine k_goto C (tgt := 71) dX11_feed_66 rfl ?_
            refine k_istore C dX11_feed_71 (by decide) ?_
            refine k_bipush C dX11_feed_73 (by decide) ?_
            refine k_istore C dX11_feed_75 (by decide) ?_
            refine k_cut2 C (lv' := [(0, _), (1, _), (2, _), (3, _), (4, _), (5, _), (6, _), (7, _), (8, _)]) ⟨rfl, rfl, rfl, rfl, rfl, rfl, rfl, rfl, rfl, trivial⟩ ?_
            refine m_feed2 bl B hs a b c d e ha hb hc hd he C w _ (by assumption) (fdN B a b c d e w) (by omega) ?_ 0 (by omega)
            have ev : fdN B a b c d e (w + 1) = byN (fdN B a b c d e w) _ 4 := rfl
            unfold vlw at ev
            first
            | (rw [if_pos (by omega)] at ev; rw [← ev]; done)
            | skip
            refine k_iinc C dX11_feed_113 (by decide) rfl ?_
            refine k_goto C (tgt := 23) dX11_feed_116 rfl ?_
            refine k_cut2 C (lv' := [(0, _), (1, _), (2, _), (3, _), (4, _), (5, _), (6, _)]) ⟨rfl, rfl, rfl, rfl, rfl, rfl, rfl, trivial⟩ ?_
            have ih := m_feed1 bl B hs a b c d e ha hb hc hd he C h180 (w + 1) (by omega)
            rw [ev] at ih
            rw [show (w : Int) + 1 = ((w + 1 : Nat) : Int) by omega]
            first
            | (rw [if_pos (show w = 0 by omega)] at ih; exact ih)
            | (rw [if_neg (show ¬ w = 0 by omega), if_pos (show w = 1 by omega)] at ih; exact ih)
            | (rw [if_neg (show ¬ w = 0 by omega), if_neg (show ¬ w = 1 by omega), if_pos (show w = 2 by omega)] at ih; exact ih)
            | (rw [if_neg (show ¬ w = 0 by omega), if_neg (show ¬ w = 1 by omega), if_neg (show ¬ w = 2 by omega), if_pos (show w = 3 by omega)] at ih; exact ih)
            | (rw [if_neg (show ¬ w = 0 by omega), if_neg (show ¬ w = 1 by omega), if_neg (show ¬ w = 2 by omega), if_neg (show ¬ w = 3 by omega)] at ih; exact ih)
        · refine k_iload_n C dX11_feed_54 rfl rfl ?_
          refine k_goto C (tgt := 71) dX11_feed_55 rfl ?_
          refine k_istore C dX11_feed_71 (by decide) ?_
          refine k_bipush C dX11_feed_73 (by decide) ?_
          refine k_istore C dX11_feed_75 (by decide) ?_
          refine k_cut2 C (lv' := [(0, _), (1, _), (2, _), (3, _), (4, _), (5, _), (6, _), (7, _), (8, _)]) ⟨rfl, rfl, rfl, rfl, rfl, rfl, rfl, rfl, rfl, trivial⟩ ?_
          refine m_feed2 bl B hs a b c d e ha hb hc hd he C w _ (by assumption) (fdN B a b c d e w) (by omega) ?_ 0 (by omega)
          have ev : fdN B a b c d e (w + 1) = byN (fdN B a b c d e w) _ 4 := rfl
          unfold vlw at ev
          first
          | (rw [if_pos (by omega)] at ev; rw [← ev]; done)
          | skip
          refine k_iinc C dX11_feed_113 (by decide) rfl ?_
          refine k_goto C (tgt := 23) dX11_feed_116 rfl ?_
          refine k_cut2 C (lv' := [(0, _), (1, _), (2, _), (3, _), (4, _), (5, _), (6, _)]) ⟨rfl, rfl, rfl, rfl, rfl, rfl, rfl, trivial⟩ ?_
          have ih := m_feed1 bl B hs a b c d e ha hb hc hd he C h180 (w + 1) (by omega)
          rw [ev] at ih
          rw [show (w : Int) + 1 = ((w + 1 : Nat) : Int) by omega]
          first
          | (rw [if_pos (show w = 0 by omega)] at ih; exact ih)
          | (rw [if_neg (show ¬ w = 0 by omega), if_pos (show w = 1 by omega)] at ih; exact ih)
          | (rw [if_neg (show ¬ w = 0 by omega), if_neg (show ¬ w = 1 by omega), if_pos (show w = 2 by omega)] at ih; exact ih)
          | (rw [if_neg (show ¬ w = 0 by omega), if_neg (show ¬ w = 1 by omega), if_neg (show ¬ w = 2 by omega), if_pos (show w = 3 by omega)] at ih; exact ih)
          | (rw [if_neg (show ¬ w = 0 by omega), if_neg (show ¬ w = 1 by omega), if_neg (show ¬ w = 2 by omega), if_neg (show ¬ w = 3 by omega)] at ih; exact ih)
      · refine k_iload_n C dX11_feed_44 rfl rfl ?_
        refine k_goto C (tgt := 71) dX11_feed_45 rfl ?_
        refine k_istore C dX11_feed_71 (by decide) ?_
        refine k_bipush C dX11_feed_73 (by decide) ?_
        refine k_istore C dX11_feed_75 (by decide) ?_
        refine k_cut2 C (lv' := [(0, _), (1, _), (2, _), (3, _), (4, _), (5, _), (6, _), (7, _), (8, _)]) ⟨rfl, rfl, rfl, rfl, rfl, rfl, rfl, rfl, rfl, trivial⟩ ?_
        refine m_feed2 bl B hs a b c d e ha hb hc hd he C w _ (by assumption) (fdN B a b c d e w) (by omega) ?_ 0 (by omega)
        have ev : fdN B a b c d e (w + 1) = byN (fdN B a b c d e w) _ 4 := rfl
        unfold vlw at ev
        first
        | (rw [if_pos (by omega)] at ev; rw [← ev]; done)
        | skip
        refine k_iinc C dX11_feed_113 (by decide) rfl ?_
        refine k_goto C (tgt := 23) dX11_feed_116 rfl ?_
        refine k_cut2 C (lv' := [(0, _), (1, _), (2, _), (3, _), (4, _), (5, _), (6, _)]) ⟨rfl, rfl, rfl, rfl, rfl, rfl, rfl, trivial⟩ ?_
        have ih := m_feed1 bl B hs a b c d e ha hb hc hd he C h180 (w + 1) (by omega)
        rw [ev] at ih
        rw [show (w : Int) + 1 = ((w + 1 : Nat) : Int) by omega]
        first
        | (rw [if_pos (show w = 0 by omega)] at ih; exact ih)
        | (rw [if_neg (show ¬ w = 0 by omega), if_pos (show w = 1 by omega)] at ih; exact ih)
        | (rw [if_neg (show ¬ w = 0 by omega), if_neg (show ¬ w = 1 by omega), if_pos (show w = 2 by omega)] at ih; exact ih)
        | (rw [if_neg (show ¬ w = 0 by omega), if_neg (show ¬ w = 1 by omega), if_neg (show ¬ w = 2 by omega), if_pos (show w = 3 by omega)] at ih; exact ih)
        | (rw [if_neg (show ¬ w = 0 by omega), if_neg (show ¬ w = 1 by omega), if_neg (show ¬ w = 2 by omega), if_neg (show ¬ w = 3 by omega)] at ih; exact ih)
    · refine k_iload_n C dX11_feed_34 rfl rfl ?_
      refine k_goto C (tgt := 71) dX11_feed_35 rfl ?_
      refine k_istore C dX11_feed_71 (by decide) ?_
      refine k_bipush C dX11_feed_73 (by decide) ?_
      refine k_istore C dX11_feed_75 (by decide) ?_
      refine k_cut2 C (lv' := [(0, _), (1, _), (2, _), (3, _), (4, _), (5, _), (6, _), (7, _), (8, _)]) ⟨rfl, rfl, rfl, rfl, rfl, rfl, rfl, rfl, rfl, trivial⟩ ?_
      refine m_feed2 bl B hs a b c d e ha hb hc hd he C w _ (by assumption) (fdN B a b c d e w) (by omega) ?_ 0 (by omega)
      have ev : fdN B a b c d e (w + 1) = byN (fdN B a b c d e w) _ 4 := rfl
      unfold vlw at ev
      first
      | (rw [if_pos (by omega)] at ev; rw [← ev]; done)
      | skip
      refine k_iinc C dX11_feed_113 (by decide) rfl ?_
      refine k_goto C (tgt := 23) dX11_feed_116 rfl ?_
      refine k_cut2 C (lv' := [(0, _), (1, _), (2, _), (3, _), (4, _), (5, _), (6, _)]) ⟨rfl, rfl, rfl, rfl, rfl, rfl, rfl, trivial⟩ ?_
      have ih := m_feed1 bl B hs a b c d e ha hb hc hd he C h180 (w + 1) (by omega)
      rw [ev] at ih
      rw [show (w : Int) + 1 = ((w + 1 : Nat) : Int) by omega]
      first
      | (rw [if_pos (show w = 0 by omega)] at ih; exact ih)
      | (rw [if_neg (show ¬ w = 0 by omega), if_pos (show w = 1 by omega)] at ih; exact ih)
      | (rw [if_neg (show ¬ w = 0 by omega), if_neg (show ¬ w = 1 by omega), if_pos (show w = 2 by omega)] at ih; exact ih)
      | (rw [if_neg (show ¬ w = 0 by omega), if_neg (show ¬ w = 1 by omega), if_neg (show ¬ w = 2 by omega), if_pos (show w = 3 by omega)] at ih; exact ih)
      | (rw [if_neg (show ¬ w = 0 by omega), if_neg (show ¬ w = 1 by omega), if_neg (show ¬ w = 2 by omega), if_neg (show ¬ w = 3 by omega)] at ih; exact ih)
termination_by 5 - w
decreasing_by all_goals omega
set_option maxHeartbeats 4000000 in
set_option maxRecDepth 100000 in
theorem m_feed {K : Kt} (bl : Nat) (B : Mem) (hs : 0 ≤ B 0 30 ∧ B 0 30 ≤ 200) (a b c d e : Int) (ha : inR a) (hb : inR b) (hc : inR c) (hd : inR d) (he : inR e) (C : Ctx (shM bl) nM RX11 cX11_feed 9 (some .int) (lvl 0) (fun r M' => (180 < B 0 30 ∧ r = -1 ∧ B = M') ∨ (B 0 30 ≤ 180 ∧ r = B 0 30 + 20 ∧ M' = fdN B a b c d e 5)) K) : K 5 [(0, .inr 0), (1, .inl a), (2, .inl b), (3, .inl c), (4, .inl d), (5, .inl e)] [] B := by
  refine k_aload_n C dX11_feed_5 rfl rfl ?_
  refine k_getJ C 30 30 rfl okC11 rfl (by decide) (by decide) rfl flX11_204 dX11_feed_6 (fun ld6 => ?_)
  refine k_bipush C dX11_feed_9 (by decide) ?_
  refine k_iadd C dX11_feed_11 ?_
  refine k_sipush C dX11_feed_12 (by decide) ?_
  refine k_icmp_le C (tgt := 20) dX11_feed_15 rfl (by omega) (by omega) (fun c15 => ?_) (fun c15 => ?_)
  · refine k_iconst C dX11_feed_20 ?_
    refine k_istore C dX11_feed_21 (by decide) ?_
    refine k_cut2 C (lv' := [(0, _), (1, _), (2, _), (3, _), (4, _), (5, _), (6, _)]) ⟨rfl, rfl, rfl, rfl, rfl, rfl, rfl, trivial⟩ ?_
    exact m_feed1 bl B hs a b c d e ha hb hc hd he C (by omega) 0 (by omega)
  · refine k_iconst C dX11_feed_18 ?_
    exact k_iret C dX11_feed_19 (by omega) (fun _ => Or.inl ⟨by omega, rfl, rfl⟩)
set_option maxHeartbeats 4000000 in
set_option maxRecDepth 100000 in
theorem c_M_feed (bl : Nat) (M : Mem) (hs : 0 ≤ M 0 30 ∧ M 0 30 ≤ 200) (a b c d e : Int) (ha : inR a) (hb : inR b) (hc : inR c) (hd : inR d) (he : inR e) : Ct (shM bl) nM yX11_feed cX11_feed 9 (some .int) (lvl 0) [.inr 0, .inl a, .inl b, .inl c, .inl d, .inl e] M (fun r M' => (180 < (th0 M) 0 30 ∧ r = -1 ∧ (th0 M) = M') ∨ ((th0 M) 0 30 ≤ 180 ∧ r = (th0 M) 0 30 + 20 ∧ M' = fdN (th0 M) a b c d e 5)) := by
  refine Ct_of (by decide +kernel) (Nat.le_of_ble_eq_true rfl) (fun K C => ?_)
  refine k_aload_n C dX11_feed_0 rfl rfl ?_
  refine k_iconst C dX11_feed_1 ?_
  refine k_putJ C 0 0 rfl okC11 rfl (by decide) (by decide) rfl rfl rfl (by omega) flX11_133 dX11_feed_2 ?_
  exact m_feed bl (th0 M) (by rw [th0_f (by decide)]; exact hs) a b c d e ha hb hc hd he C
set_option maxHeartbeats 4000000 in
set_option maxRecDepth 100000 in
theorem m_broken {K : Kt} (bl : Nat) (B : Mem) (hbl : bl < 2147483648) (hs : 0 ≤ B 0 50 ∧ B 0 50 ≤ bl) (i : Int) (hi : inR i) (C : Ctx (shM bl) nM RX11 cX11_broken 2 (some .int) (lvl 0) (fun r M' => B = M' ∧ r = if 0 ≤ i ∧ i < B 0 50 then B 34 i else -1) K) : K 5 [(0, .inr 0), (1, .inl i)] [] B := by
  refine k_iload_n C dX11_broken_5 rfl rfl ?_
  refine k_if_lt C (tgt := 26) dX11_broken_6 rfl (by omega) (fun c6 => ?_) (fun c6 => ?_)
  · refine k_iconst C dX11_broken_26 ?_
    exact k_iret C dX11_broken_27 (by omega) (fun _ => ⟨rfl, by split <;> first | rfl | omega⟩)
  · refine k_iload_n C dX11_broken_9 rfl rfl ?_
    refine k_aload_n C dX11_broken_10 rfl rfl ?_
    refine k_getJ C 50 50 rfl okC11 rfl (by decide) (by decide) rfl flX11_252 dX11_broken_11 (fun ld11 => ?_)
    refine k_icmp_ge C (tgt := 26) dX11_broken_14 rfl (by omega) (by omega) (fun c14 => ?_) (fun c14 => ?_)
    · refine k_iconst C dX11_broken_26 ?_
      exact k_iret C dX11_broken_27 (by omega) (fun _ => ⟨rfl, by split <;> first | rfl | omega⟩)
    · refine k_aload_n C dX11_broken_17 rfl rfl ?_
      refine k_getR C (j := 49) okC11 rfl (by decide) (by decide) rfl flX11_111 dX11_broken_18 ?_
      refine k_iload_n C dX11_broken_21 rfl rfl ?_
      refine k_iaload C rfl (by decide) hbl ⟨by omega, by omega⟩ dX11_broken_22 (fun ld22 => ?_)
      refine k_goto C (tgt := 27) dX11_broken_23 rfl ?_
      exact k_iret C dX11_broken_27 (by omega) (fun _ => ⟨rfl, by split <;> first | rfl | omega⟩)
set_option maxHeartbeats 4000000 in
set_option maxRecDepth 100000 in
theorem c_M_broken (bl : Nat) (M : Mem) (hbl : bl < 2147483648) (hs : 0 ≤ M 0 50 ∧ M 0 50 ≤ bl) (i : Int) (hi : inR i) : Ct (shM bl) nM yX11_broken cX11_broken 2 (some .int) (lvl 0) [.inr 0, .inl i] M (fun r M' => (th0 M) = M' ∧ r = if 0 ≤ i ∧ i < (th0 M) 0 50 then (th0 M) 34 i else -1) := by
  refine Ct_of (by decide +kernel) (Nat.le_of_ble_eq_true rfl) (fun K C => ?_)
  refine k_aload_n C dX11_broken_0 rfl rfl ?_
  refine k_iconst C dX11_broken_1 ?_
  refine k_putJ C 0 0 rfl okC11 rfl (by decide) (by decide) rfl rfl rfl (by omega) flX11_133 dX11_broken_2 ?_
  exact m_broken bl (th0 M) hbl (by rw [th0_f (by decide)]; exact hs) i hi C
