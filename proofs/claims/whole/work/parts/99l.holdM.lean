/-! THE REFERENCE: isNearer, closes, leads, goesOn -/

theorem k_ldc {sh : Nat → Sh} {N : Nat} {own : String} {cc : ByteArray} {nL : Nat} {ret : Option FieldType} {R : Room} {post : Int → Mem → Prop} {K : Kt} {pc : Nat} {lv : Lv} {stk : List V} {M : Mem} (C : Ctx sh N own cc nL ret R post K) {index : Nat} {v : Int} (hw : Cond.constant own index (Int32.ofInt v) ∈ tbg) (hd : decode cc pc = .ok (.ldc index, 2)) (kk : K (pc + 2) lv (.inl v :: stk) M) : K pc lv stk M := by
  obtain ⟨p, l, e, s, m, args, below, meth, c, D, cI, cZ, cB, ad, A, ⟨hx, hb, hml, hown, hts⟩, ⟨hr, hlk, hns⟩, hK, hA, hD, rfl⟩ := C
  intro hM H locs ls hP hS hl
  exact lv_ldc hx hb hown (hts _ hw) hd (kk hM H locs ls hP hS hl)
theorem ldX11_255 : Cond.constant RX11 255 (Int32.ofInt 1000000) ∈ tbg := in_6 55 (by decide +kernel) rfl
abbrev EpN (N : Mem) : Int → Int → Prop := EpM (N 0 37) (N 25) (N 26) (N 27)
abbrev StN (N : Mem) : Int → Int → Int → Prop := StM (N 0 37) (N 25) (N 26) (N 27)
/-- what hold needs -/
def HkM (N : Mem) : Prop := FOk (N 0 38) (N 0 37) (N 0 25) (N 25) (N 26) (N 27) ∧ NxOk (N 0 25) (N 19)
set_option maxHeartbeats 4000000 in
set_option maxRecDepth 100000 in
theorem c_M_isNearer (bl : Nat) (N : Mem) (hH : HkM N) (hf : ∀ x, 0 ≤ x → x < 30 * N 0 38 → 1 ≤ N 31 x ∧ N 31 x ≤ 1000000) (e s : Int) (he : 0 ≤ e ∧ e < N 0 37) (hs : 0 ≤ s ∧ s < N 0 25) : Ct (shM bl) nM yX11_isNearer cX11_isNearer 6 (some .boolean) (lvl 0) [.inr 0, .inl e, .inl s] N (fun r M' => (valE (N 19) (N 25) (N 26) (N 27) (N 31) e s < N 31 (30 * N 25 e + s) ∧ r = 1 ∧ M' = up N 31 (30 * N 25 e + s) (valE (N 19) (N 25) (N 26) (N 27) (N 31) e s)) ∨ (N 31 (30 * N 25 e + s) ≤ valE (N 19) (N 25) (N 26) (N 27) (N 31) e s ∧ r = 0 ∧ N = M')) := by
  refine Ct_of (by decide +kernel) (Nat.le_of_ble_eq_true rfl) (fun K C => ?_)
  obtain ⟨f1, f2, f3⟩ := hH.1
  have m30 := hH.2.1
  obtain ⟨g1, g2, g3⟩ := f3 e he.1 he.2
  have ff := hf (30 * N 25 e + s) (by omega) (by omega)
  have ft := hf (30 * N 26 e + s) (by omega) (by omega)
  refine k_aload_n C dX11_isNearer_0 rfl rfl ?_
  refine k_getR C (j := 34) okC11 rfl (by decide) (by decide) rfl flX11_84 dX11_isNearer_1 ?_
  refine k_iload_n C dX11_isNearer_4 rfl rfl ?_
  refine k_iaload C rfl (by decide) (by decide) ⟨by omega, by omega⟩ dX11_isNearer_5 (fun ld5 => ?_)
  refine k_bipush C dX11_isNearer_6 (by decide) ?_
  refine k_imul C dX11_isNearer_8 ?_
  refine k_iload_n C dX11_isNearer_9 rfl rfl ?_
  refine k_iadd C dX11_isNearer_10 ?_
  rw [show N 25 e * 30 + s = 30 * N 25 e + s by omega]
  refine k_istore_n C dX11_isNearer_11 rfl (by decide) ?_
  refine k_aload_n C dX11_isNearer_12 rfl rfl ?_
  refine k_getR C (j := 36) okC11 rfl (by decide) (by decide) rfl flX11_90 dX11_isNearer_13 ?_
  refine k_iload_n C dX11_isNearer_16 rfl rfl ?_
  refine k_iaload C rfl (by decide) (by decide) ⟨by omega, by omega⟩ dX11_isNearer_17 (fun ld17 => ?_)
  refine k_istore C dX11_isNearer_18 (by decide) ?_
  refine k_iload C dX11_isNearer_20 rfl ?_
  refine k_bipush C dX11_isNearer_22 (by decide) ?_
  refine k_icmp_ne C (tgt := 48) dX11_isNearer_24 rfl (by omega) (by omega) (fun c24 => ?_) (fun c24 => ?_)
  · have nr := hH.2.2 s (N 27 e) hs.1 hs.2 g3.1 (by omega)
    refine k_aload_n C dX11_isNearer_48 rfl rfl ?_
    refine k_getR C (j := 23) okC11 rfl (by decide) (by decide) rfl flX11_65 dX11_isNearer_49 ?_
    refine k_bipush C dX11_isNearer_52 (by decide) ?_
    refine k_iload_n C dX11_isNearer_54 rfl rfl ?_
    refine k_imul C dX11_isNearer_55 ?_
    refine k_iload C dX11_isNearer_56 rfl ?_
    refine k_iadd C dX11_isNearer_58 ?_
    refine k_iaload C rfl (by decide) (by decide) ⟨by omega, by omega⟩ dX11_isNearer_59 (fun ld59 => ?_)
    refine k_if_ge C (tgt := 67) dX11_isNearer_60 rfl (by omega) (fun c60 => ?_) (fun c60 => ?_)
    · have ve : valE (N 19) (N 25) (N 26) (N 27) (N 31) e s = 1 + N 31 (30 * N 26 e + N 19 (8 * s + N 27 e)) := by unfold valE; rw [if_neg c24, if_neg (by omega)]
      have fn := hf (30 * N 26 e + N 19 (8 * s + N 27 e)) (by omega) (by omega)
      refine k_iconst C dX11_isNearer_67 ?_
      refine k_aload_n C dX11_isNearer_68 rfl rfl ?_
      refine k_getR C (j := 46) okC11 rfl (by decide) (by decide) rfl flX11_102 dX11_isNearer_69 ?_
      refine k_aload_n C dX11_isNearer_72 rfl rfl ?_
      refine k_getR C (j := 35) okC11 rfl (by decide) (by decide) rfl flX11_87 dX11_isNearer_73 ?_
      refine k_iload_n C dX11_isNearer_76 rfl rfl ?_
      refine k_iaload C rfl (by decide) (by decide) ⟨by omega, by omega⟩ dX11_isNearer_77 (fun ld77 => ?_)
      refine k_bipush C dX11_isNearer_78 (by decide) ?_
      refine k_imul C dX11_isNearer_80 ?_
      refine k_aload_n C dX11_isNearer_81 rfl rfl ?_
      refine k_getR C (j := 23) okC11 rfl (by decide) (by decide) rfl flX11_65 dX11_isNearer_82 ?_
      refine k_bipush C dX11_isNearer_85 (by decide) ?_
      refine k_iload_n C dX11_isNearer_87 rfl rfl ?_
      refine k_imul C dX11_isNearer_88 ?_
      refine k_iload C dX11_isNearer_89 rfl ?_
      refine k_iadd C dX11_isNearer_91 ?_
      refine k_iaload C rfl (by decide) (by decide) ⟨by omega, by omega⟩ dX11_isNearer_92 (fun ld92 => ?_)
      refine k_iadd C dX11_isNearer_93 ?_
      rw [show N 26 e * 30 + N 19 (8 * s + N 27 e) = 30 * N 26 e + N 19 (8 * s + N 27 e) by omega]
      refine k_iaload C rfl (by decide) (by decide) ⟨by omega, by omega⟩ dX11_isNearer_94 (fun ld94 => ?_)
      refine k_iadd C dX11_isNearer_95 ?_
      refine k_istore C dX11_isNearer_96 (by decide) ?_
      refine k_iload C dX11_isNearer_98 rfl ?_
      refine k_aload_n C dX11_isNearer_100 rfl rfl ?_
      refine k_getR C (j := 46) okC11 rfl (by decide) (by decide) rfl flX11_102 dX11_isNearer_101 ?_
      refine k_iload_n C dX11_isNearer_104 rfl rfl ?_
      refine k_iaload C rfl (by decide) (by decide) ⟨by omega, by omega⟩ dX11_isNearer_105 (fun ld105 => ?_)
      refine k_icmp_lt C (tgt := 111) dX11_isNearer_106 rfl (by omega) (by omega) (fun c106 => ?_) (fun c106 => ?_)
      · refine k_aload_n C dX11_isNearer_111 rfl rfl ?_
        refine k_getR C (j := 46) okC11 rfl (by decide) (by decide) rfl flX11_102 dX11_isNearer_112 ?_
        refine k_iload_n C dX11_isNearer_115 rfl rfl ?_
        refine k_iload C dX11_isNearer_116 rfl ?_
        refine k_iastore C rfl (by decide) (by decide) ⟨by omega, by omega⟩ (by omega) dX11_isNearer_118 ?_
        refine k_iconst C dX11_isNearer_119 ?_
        exact k_zret C dX11_isNearer_120 (by omega) (fun _ => Or.inl ⟨by omega, rfl, by rw [ve]⟩)
      · refine k_iconst C dX11_isNearer_109 ?_
        exact k_zret C dX11_isNearer_110 (by omega) (fun _ => Or.inr ⟨by omega, rfl, rfl⟩)
    · have ve : valE (N 19) (N 25) (N 26) (N 27) (N 31) e s = 1 := by unfold valE; rw [if_neg c24, if_pos (by omega)]
      refine k_iconst C dX11_isNearer_63 ?_
      refine k_goto C (tgt := 96) dX11_isNearer_64 rfl ?_
      refine k_istore C dX11_isNearer_96 (by decide) ?_
      refine k_iload C dX11_isNearer_98 rfl ?_
      refine k_aload_n C dX11_isNearer_100 rfl rfl ?_
      refine k_getR C (j := 46) okC11 rfl (by decide) (by decide) rfl flX11_102 dX11_isNearer_101 ?_
      refine k_iload_n C dX11_isNearer_104 rfl rfl ?_
      refine k_iaload C rfl (by decide) (by decide) ⟨by omega, by omega⟩ dX11_isNearer_105 (fun ld105 => ?_)
      refine k_icmp_lt C (tgt := 111) dX11_isNearer_106 rfl (by omega) (by omega) (fun c106 => ?_) (fun c106 => ?_)
      · refine k_aload_n C dX11_isNearer_111 rfl rfl ?_
        refine k_getR C (j := 46) okC11 rfl (by decide) (by decide) rfl flX11_102 dX11_isNearer_112 ?_
        refine k_iload_n C dX11_isNearer_115 rfl rfl ?_
        refine k_iload C dX11_isNearer_116 rfl ?_
        refine k_iastore C rfl (by decide) (by decide) ⟨by omega, by omega⟩ (by omega) dX11_isNearer_118 ?_
        refine k_iconst C dX11_isNearer_119 ?_
        exact k_zret C dX11_isNearer_120 (by omega) (fun _ => Or.inl ⟨by omega, rfl, by rw [ve]⟩)
      · refine k_iconst C dX11_isNearer_109 ?_
        exact k_zret C dX11_isNearer_110 (by omega) (fun _ => Or.inr ⟨by omega, rfl, rfl⟩)
  · refine k_aload_n C dX11_isNearer_27 rfl rfl ?_
    refine k_getR C (j := 46) okC11 rfl (by decide) (by decide) rfl flX11_102 dX11_isNearer_28 ?_
    refine k_aload_n C dX11_isNearer_31 rfl rfl ?_
    refine k_getR C (j := 35) okC11 rfl (by decide) (by decide) rfl flX11_87 dX11_isNearer_32 ?_
    refine k_iload_n C dX11_isNearer_35 rfl rfl ?_
    refine k_iaload C rfl (by decide) (by decide) ⟨by omega, by omega⟩ dX11_isNearer_36 (fun ld36 => ?_)
    refine k_bipush C dX11_isNearer_37 (by decide) ?_
    refine k_imul C dX11_isNearer_39 ?_
    refine k_iload_n C dX11_isNearer_40 rfl rfl ?_
    refine k_iadd C dX11_isNearer_41 ?_
    rw [show N 26 e * 30 + s = 30 * N 26 e + s by omega]
    refine k_iaload C rfl (by decide) (by decide) ⟨by omega, by omega⟩ dX11_isNearer_42 (fun ld42 => ?_)
    refine k_istore C dX11_isNearer_43 (by decide) ?_
    have ve : valE (N 19) (N 25) (N 26) (N 27) (N 31) e s = N 31 (30 * N 26 e + s) := by unfold valE; rw [if_pos c24]
    refine k_goto C (tgt := 98) dX11_isNearer_45 rfl ?_
    refine k_iload C dX11_isNearer_98 rfl ?_
    refine k_aload_n C dX11_isNearer_100 rfl rfl ?_
    refine k_getR C (j := 46) okC11 rfl (by decide) (by decide) rfl flX11_102 dX11_isNearer_101 ?_
    refine k_iload_n C dX11_isNearer_104 rfl rfl ?_
    refine k_iaload C rfl (by decide) (by decide) ⟨by omega, by omega⟩ dX11_isNearer_105 (fun ld105 => ?_)
    refine k_icmp_lt C (tgt := 111) dX11_isNearer_106 rfl (by omega) (by omega) (fun c106 => ?_) (fun c106 => ?_)
    · refine k_aload_n C dX11_isNearer_111 rfl rfl ?_
      refine k_getR C (j := 46) okC11 rfl (by decide) (by decide) rfl flX11_102 dX11_isNearer_112 ?_
      refine k_iload_n C dX11_isNearer_115 rfl rfl ?_
      refine k_iload C dX11_isNearer_116 rfl ?_
      refine k_iastore C rfl (by decide) (by decide) ⟨by omega, by omega⟩ (by omega) dX11_isNearer_118 ?_
      refine k_iconst C dX11_isNearer_119 ?_
      exact k_zret C dX11_isNearer_120 (by omega) (fun _ => Or.inl ⟨by omega, rfl, by rw [ve]⟩)
    · refine k_iconst C dX11_isNearer_109 ?_
      exact k_zret C dX11_isNearer_110 (by omega) (fun _ => Or.inr ⟨by omega, rfl, rfl⟩)
def ClI (B N : Mem) : Prop := (∀ j, j ≠ 32 → N j = B j) ∧ (∀ q, 0 ≤ q → q < B 0 38 → (N 32 q = 0 ∨ N 32 q = 1) ∧ (B 32 q = 1 → N 32 q = 1) ∧ (N 32 q = 1 → ∃ p, (0 ≤ p ∧ p < B 0 38) ∧ B 32 p = 1 ∧ Ecl (EpN B) p q))
set_option maxHeartbeats 4000000 in
set_option maxRecDepth 100000 in
theorem m_cl2 {K : Kt} (bl : Nat) (B : Mem) (hH : HkM B) (hin : ∀ q, 0 ≤ q → q < B 0 38 → B 32 q = 0 ∨ B 32 q = 1) (C : Ctx (shM bl) nM RX11 cX11_closes 3 none (lvl 0) (fun _ M' => (∀ j, j ≠ 32 → M' j = B j) ∧ (∀ q, 0 ≤ q → q < B 0 38 → (M' 32 q = 0 ∨ M' 32 q = 1) ∧ (M' 32 q = 1 ↔ ∃ p, (0 ≤ p ∧ p < B 0 38) ∧ B 32 p = 1 ∧ Ecl (EpN B) p q))) K) (N0 N : Mem) (hI : ClI B N) (e b : Int) (he : 0 ≤ e ∧ e ≤ B 0 37) (hb : (b = 0 ∧ N = N0 ∧ ∀ i, 0 ≤ i → i < e → B 27 i = 8 → N 32 (B 25 i) = 1 → N 32 (B 26 i) = 1) ∨ (b = 1 ∧ cnI (fun q => ¬ N 32 q = 1) (B 0 38) + 1 ≤ cnI (fun q => ¬ N0 32 q = 1) (B 0 38))) (kk : ∀ N2 b2, ClI B N2 → ((b2 = 0 ∧ ∀ i, 0 ≤ i → i < B 0 37 → B 27 i = 8 → N2 32 (B 25 i) = 1 → N2 32 (B 26 i) = 1) ∨ (b2 = 1 ∧ cnI (fun q => ¬ N2 32 q = 1) (B 0 38) + 1 ≤ cnI (fun q => ¬ N0 32 q = 1) (B 0 38))) → K 2 [(0, .inr 0), (1, .inl b2)] [] N2) : K 10 [(0, .inr 0), (1, .inl b), (2, .inl e)] [] N := by
  obtain ⟨f1, f2, f3⟩ := hH.1
  have n0 := hI.1 0 (by decide)
  have n25 := hI.1 25 (by decide)
  have n26 := hI.1 26 (by decide)
  have n27 := hI.1 27 (by decide)
  have b01 : b = 0 ∨ b = 1 := by rcases hb with z | z; exact Or.inl z.1; exact Or.inr z.1
  have fe := f3 e he.1
  refine k_iload_n C dX11_closes_10 rfl rfl ?_
  refine k_aload_n C dX11_closes_11 rfl rfl ?_
  refine k_getJ C 37 37 rfl okC11 rfl (by decide) (by decide) rfl flX11_243 dX11_closes_12 (fun ld12 => ?_)
  rw [n0] at ld12 ⊢
  refine k_icmp_ge C (tgt := 80) dX11_closes_15 rfl (by omega) (by omega) (fun c15 => ?_) (fun c15 => ?_)
  · refine k_goto C (tgt := 2) dX11_closes_80 rfl ?_
    refine k_cut2 C (lv' := [(0, _), (1, _)]) ⟨rfl, rfl, trivial⟩ ?_
    refine kk N b hI ?_
    rcases hb with z | z
    · exact Or.inl ⟨z.1, fun i p q r s => z.2.2 i p (by omega) r s⟩
    · exact Or.inr z
  · obtain ⟨g1, g2, g3⟩ := fe c15
    have i1 := (hI.2 (B 25 e) g1.1 g1.2).1
    have i2 := (hI.2 (B 26 e) g2.1 g2.2).1
    refine k_aload_n C dX11_closes_18 rfl rfl ?_
    refine k_getR C (j := 36) okC11 rfl (by decide) (by decide) rfl flX11_90 dX11_closes_19 ?_
    refine k_iload_n C dX11_closes_22 rfl rfl ?_
    refine k_iaload C rfl (by decide) (by decide) ⟨by omega, by omega⟩ dX11_closes_23 (fun ld23 => ?_)
    rw [n27] at ld23 ⊢
    refine k_bipush C dX11_closes_24 (by decide) ?_
    refine k_icmp_ne C (tgt := 74) dX11_closes_26 rfl (by omega) (by omega) (fun c26 => ?_) (fun c26 => ?_)
    · refine k_iinc C dX11_closes_74 (by decide) rfl ?_
      refine k_goto C (tgt := 10) dX11_closes_77 rfl ?_
      refine k_cut2 C (lv' := [(0, _), (1, _), (2, _)]) ⟨rfl, rfl, rfl, trivial⟩ ?_
      first
      | (have stay : (b = 0 ∧ N = N0 ∧ ∀ i, 0 ≤ i → i < e + 1 → B 27 i = 8 → N 32 (B 25 i) = 1 → N 32 (B 26 i) = 1) ∨ (b = 1 ∧ cnI (fun q => ¬ N 32 q = 1) (B 0 38) + 1 ≤ cnI (fun q => ¬ N0 32 q = 1) (B 0 38)) := by
           rcases hb with z | z
           · refine Or.inl ⟨z.1, z.2.1, fun i p q r s => ?_⟩
             by_cases y : i = e
             · rw [y] at r s ⊢; omega
             · exact z.2.2 i p (by omega) r s
           · exact Or.inr z
         exact m_cl2 bl B hH hin C N0 N hI (e + 1) b (by omega) stay kk)
      | (have e1 : ∀ q, up N 32 (B 26 e) 1 32 q = if q = B 26 e then 1 else N 32 q := fun q => up_at
         have eo : ∀ j, j ≠ 32 → up N 32 (B 26 e) 1 j = N j := fun j a => up_ne a
         generalize up N 32 (B 26 e) 1 = L at *
         have d := cn_del (P := fun q => ¬ N 32 q = 1) (Q := fun q => ¬ L 32 q = 1) (i := B 26 e) g2.1 (by omega) (B 0 38).toNat (fun j a c q => by
           rw [e1] at q
           by_cases z : j = B 26 e
           · rw [if_pos z] at q; omega
           · rw [if_neg z] at q; exact ⟨q, z⟩)
         rw [show (((B 0 38).toNat : Nat) : Int) = B 0 38 by omega, if_pos (by omega)] at d
         refine m_cl2 bl B hH hin C N0 L ⟨fun j a => by rw [eo j a]; exact hI.1 j a, fun q a c => ?_⟩ (e + 1) 1 (by omega) (Or.inr ⟨rfl, ?_⟩) kk
         · rw [e1]
           by_cases z : q = B 26 e
           · rw [if_pos z]
             refine ⟨Or.inr rfl, fun _ => rfl, fun _ => ?_⟩
             obtain ⟨p, p1, p2, p3⟩ := (hI.2 (B 25 e) g1.1 g1.2).2.2 (by omega)
             exact ⟨p, p1, p2, by rw [z]; exact Ecl_s p3 ⟨e, he.1, c15, rfl, rfl, c26⟩⟩
           · rw [if_neg z]; exact hI.2 q a c
         · rcases hb with z | z
           · rw [z.2.1] at d; exact d
           · omega)
    · refine k_aload_n C dX11_closes_29 rfl rfl ?_
      refine k_getR C (j := 47) okC11 rfl (by decide) (by decide) rfl flX11_105 dX11_closes_30 ?_
      refine k_aload_n C dX11_closes_33 rfl rfl ?_
      refine k_getR C (j := 34) okC11 rfl (by decide) (by decide) rfl flX11_84 dX11_closes_34 ?_
      refine k_iload_n C dX11_closes_37 rfl rfl ?_
      refine k_iaload C rfl (by decide) (by decide) ⟨by omega, by omega⟩ dX11_closes_38 (fun ld38 => ?_)
      rw [n25] at ld38 ⊢
      refine k_zaload C rfl (by decide) (by decide) ⟨by omega, by omega⟩ dX11_closes_39 (fun ld39 => ?_)
      refine k_if_eq C (tgt := 74) dX11_closes_40 rfl (by omega) (fun c40 => ?_) (fun c40 => ?_)
      · refine k_iinc C dX11_closes_74 (by decide) rfl ?_
        refine k_goto C (tgt := 10) dX11_closes_77 rfl ?_
        refine k_cut2 C (lv' := [(0, _), (1, _), (2, _)]) ⟨rfl, rfl, rfl, trivial⟩ ?_
        first
        | (have stay : (b = 0 ∧ N = N0 ∧ ∀ i, 0 ≤ i → i < e + 1 → B 27 i = 8 → N 32 (B 25 i) = 1 → N 32 (B 26 i) = 1) ∨ (b = 1 ∧ cnI (fun q => ¬ N 32 q = 1) (B 0 38) + 1 ≤ cnI (fun q => ¬ N0 32 q = 1) (B 0 38)) := by
             rcases hb with z | z
             · refine Or.inl ⟨z.1, z.2.1, fun i p q r s => ?_⟩
               by_cases y : i = e
               · rw [y] at r s ⊢; omega
               · exact z.2.2 i p (by omega) r s
             · exact Or.inr z
           exact m_cl2 bl B hH hin C N0 N hI (e + 1) b (by omega) stay kk)
        | (have e1 : ∀ q, up N 32 (B 26 e) 1 32 q = if q = B 26 e then 1 else N 32 q := fun q => up_at
           have eo : ∀ j, j ≠ 32 → up N 32 (B 26 e) 1 j = N j := fun j a => up_ne a
           generalize up N 32 (B 26 e) 1 = L at *
           have d := cn_del (P := fun q => ¬ N 32 q = 1) (Q := fun q => ¬ L 32 q = 1) (i := B 26 e) g2.1 (by omega) (B 0 38).toNat (fun j a c q => by
             rw [e1] at q
             by_cases z : j = B 26 e
             · rw [if_pos z] at q; omega
             · rw [if_neg z] at q; exact ⟨q, z⟩)
           rw [show (((B 0 38).toNat : Nat) : Int) = B 0 38 by omega, if_pos (by omega)] at d
           refine m_cl2 bl B hH hin C N0 L ⟨fun j a => by rw [eo j a]; exact hI.1 j a, fun q a c => ?_⟩ (e + 1) 1 (by omega) (Or.inr ⟨rfl, ?_⟩) kk
           · rw [e1]
             by_cases z : q = B 26 e
             · rw [if_pos z]
               refine ⟨Or.inr rfl, fun _ => rfl, fun _ => ?_⟩
               obtain ⟨p, p1, p2, p3⟩ := (hI.2 (B 25 e) g1.1 g1.2).2.2 (by omega)
               exact ⟨p, p1, p2, by rw [z]; exact Ecl_s p3 ⟨e, he.1, c15, rfl, rfl, c26⟩⟩
             · rw [if_neg z]; exact hI.2 q a c
           · rcases hb with z | z
             · rw [z.2.1] at d; exact d
             · omega)
      · refine k_aload_n C dX11_closes_43 rfl rfl ?_
        refine k_getR C (j := 47) okC11 rfl (by decide) (by decide) rfl flX11_105 dX11_closes_44 ?_
        refine k_aload_n C dX11_closes_47 rfl rfl ?_
        refine k_getR C (j := 35) okC11 rfl (by decide) (by decide) rfl flX11_87 dX11_closes_48 ?_
        refine k_iload_n C dX11_closes_51 rfl rfl ?_
        refine k_iaload C rfl (by decide) (by decide) ⟨by omega, by omega⟩ dX11_closes_52 (fun ld52 => ?_)
        rw [n26] at ld52 ⊢
        refine k_zaload C rfl (by decide) (by decide) ⟨by omega, by omega⟩ dX11_closes_53 (fun ld53 => ?_)
        refine k_if_eq C (tgt := 60) dX11_closes_54 rfl (by omega) (fun c54 => ?_) (fun c54 => ?_)
        · refine k_aload_n C dX11_closes_60 rfl rfl ?_
          refine k_getR C (j := 47) okC11 rfl (by decide) (by decide) rfl flX11_105 dX11_closes_61 ?_
          refine k_aload_n C dX11_closes_64 rfl rfl ?_
          refine k_getR C (j := 35) okC11 rfl (by decide) (by decide) rfl flX11_87 dX11_closes_65 ?_
          refine k_iload_n C dX11_closes_68 rfl rfl ?_
          refine k_iaload C rfl (by decide) (by decide) ⟨by omega, by omega⟩ dX11_closes_69 (fun ld69 => ?_)
          rw [n26] at ld69 ⊢
          refine k_iconst C dX11_closes_70 ?_
          refine k_zastore C rfl (by decide) (by decide) ⟨by omega, by omega⟩ (by omega) dX11_closes_71 ?_
          refine k_iconst C dX11_closes_72 ?_
          refine k_istore_n C dX11_closes_73 rfl (by decide) ?_
          refine k_iinc C dX11_closes_74 (by decide) rfl ?_
          refine k_goto C (tgt := 10) dX11_closes_77 rfl ?_
          refine k_cut2 C (lv' := [(0, _), (1, _), (2, _)]) ⟨rfl, rfl, rfl, trivial⟩ ?_
          first
          | (have stay : (b = 0 ∧ N = N0 ∧ ∀ i, 0 ≤ i → i < e + 1 → B 27 i = 8 → N 32 (B 25 i) = 1 → N 32 (B 26 i) = 1) ∨ (b = 1 ∧ cnI (fun q => ¬ N 32 q = 1) (B 0 38) + 1 ≤ cnI (fun q => ¬ N0 32 q = 1) (B 0 38)) := by
               rcases hb with z | z
               · refine Or.inl ⟨z.1, z.2.1, fun i p q r s => ?_⟩
                 by_cases y : i = e
                 · rw [y] at r s ⊢; omega
                 · exact z.2.2 i p (by omega) r s
               · exact Or.inr z
             exact m_cl2 bl B hH hin C N0 N hI (e + 1) b (by omega) stay kk)
          | (have e1 : ∀ q, up N 32 (B 26 e) 1 32 q = if q = B 26 e then 1 else N 32 q := fun q => up_at
             have eo : ∀ j, j ≠ 32 → up N 32 (B 26 e) 1 j = N j := fun j a => up_ne a
             generalize up N 32 (B 26 e) 1 = L at *
             have d := cn_del (P := fun q => ¬ N 32 q = 1) (Q := fun q => ¬ L 32 q = 1) (i := B 26 e) g2.1 (by omega) (B 0 38).toNat (fun j a c q => by
               rw [e1] at q
               by_cases z : j = B 26 e
               · rw [if_pos z] at q; omega
               · rw [if_neg z] at q; exact ⟨q, z⟩)
             rw [show (((B 0 38).toNat : Nat) : Int) = B 0 38 by omega, if_pos (by omega)] at d
             refine m_cl2 bl B hH hin C N0 L ⟨fun j a => by rw [eo j a]; exact hI.1 j a, fun q a c => ?_⟩ (e + 1) 1 (by omega) (Or.inr ⟨rfl, ?_⟩) kk
             · rw [e1]
               by_cases z : q = B 26 e
               · rw [if_pos z]
                 refine ⟨Or.inr rfl, fun _ => rfl, fun _ => ?_⟩
                 obtain ⟨p, p1, p2, p3⟩ := (hI.2 (B 25 e) g1.1 g1.2).2.2 (by omega)
                 exact ⟨p, p1, p2, by rw [z]; exact Ecl_s p3 ⟨e, he.1, c15, rfl, rfl, c26⟩⟩
               · rw [if_neg z]; exact hI.2 q a c
             · rcases hb with z | z
               · rw [z.2.1] at d; exact d
               · omega)
        · refine k_goto C (tgt := 74) dX11_closes_57 rfl ?_
          refine k_iinc C dX11_closes_74 (by decide) rfl ?_
          refine k_goto C (tgt := 10) dX11_closes_77 rfl ?_
          refine k_cut2 C (lv' := [(0, _), (1, _), (2, _)]) ⟨rfl, rfl, rfl, trivial⟩ ?_
          first
          | (have stay : (b = 0 ∧ N = N0 ∧ ∀ i, 0 ≤ i → i < e + 1 → B 27 i = 8 → N 32 (B 25 i) = 1 → N 32 (B 26 i) = 1) ∨ (b = 1 ∧ cnI (fun q => ¬ N 32 q = 1) (B 0 38) + 1 ≤ cnI (fun q => ¬ N0 32 q = 1) (B 0 38)) := by
               rcases hb with z | z
               · refine Or.inl ⟨z.1, z.2.1, fun i p q r s => ?_⟩
                 by_cases y : i = e
                 · rw [y] at r s ⊢; omega
                 · exact z.2.2 i p (by omega) r s
               · exact Or.inr z
             exact m_cl2 bl B hH hin C N0 N hI (e + 1) b (by omega) stay kk)
          | (have e1 : ∀ q, up N 32 (B 26 e) 1 32 q = if q = B 26 e then 1 else N 32 q := fun q => up_at
             have eo : ∀ j, j ≠ 32 → up N 32 (B 26 e) 1 j = N j := fun j a => up_ne a
             generalize up N 32 (B 26 e) 1 = L at *
             have d := cn_del (P := fun q => ¬ N 32 q = 1) (Q := fun q => ¬ L 32 q = 1) (i := B 26 e) g2.1 (by omega) (B 0 38).toNat (fun j a c q => by
               rw [e1] at q
               by_cases z : j = B 26 e
               · rw [if_pos z] at q; omega
               · rw [if_neg z] at q; exact ⟨q, z⟩)
             rw [show (((B 0 38).toNat : Nat) : Int) = B 0 38 by omega, if_pos (by omega)] at d
             refine m_cl2 bl B hH hin C N0 L ⟨fun j a => by rw [eo j a]; exact hI.1 j a, fun q a c => ?_⟩ (e + 1) 1 (by omega) (Or.inr ⟨rfl, ?_⟩) kk
             · rw [e1]
               by_cases z : q = B 26 e
               · rw [if_pos z]
                 refine ⟨Or.inr rfl, fun _ => rfl, fun _ => ?_⟩
                 obtain ⟨p, p1, p2, p3⟩ := (hI.2 (B 25 e) g1.1 g1.2).2.2 (by omega)
                 exact ⟨p, p1, p2, by rw [z]; exact Ecl_s p3 ⟨e, he.1, c15, rfl, rfl, c26⟩⟩
               · rw [if_neg z]; exact hI.2 q a c
             · rcases hb with z | z
               · rw [z.2.1] at d; exact d
               · omega)
termination_by (B 0 37 - e).toNat
decreasing_by all_goals omega
set_option maxHeartbeats 4000000 in
set_option maxRecDepth 100000 in
theorem m_cl1 {K : Kt} (bl : Nat) (B : Mem) (hH : HkM B) (hin : ∀ q, 0 ≤ q → q < B 0 38 → B 32 q = 0 ∨ B 32 q = 1) (C : Ctx (shM bl) nM RX11 cX11_closes 3 none (lvl 0) (fun _ M' => (∀ j, j ≠ 32 → M' j = B j) ∧ (∀ q, 0 ≤ q → q < B 0 38 → (M' 32 q = 0 ∨ M' 32 q = 1) ∧ (M' 32 q = 1 ↔ ∃ p, (0 ≤ p ∧ p < B 0 38) ∧ B 32 p = 1 ∧ Ecl (EpN B) p q))) K) (N : Mem) (hI : ClI B N) : K 2 [(0, .inr 0), (1, .inl 1)] [] N := by
  obtain ⟨f1, f2, f3⟩ := hH.1
  refine k_iload_n C dX11_closes_2 rfl rfl ?_
  refine k_if_eq C (tgt := 83) dX11_closes_3 rfl (by omega) (fun c3 => ?_) (fun c3 => ?_)
  · exfalso; omega
  · refine k_iconst C dX11_closes_6 ?_
    refine k_istore_n C dX11_closes_7 rfl (by decide) ?_
    refine k_iconst C dX11_closes_8 ?_
    refine k_istore_n C dX11_closes_9 rfl (by decide) ?_
    refine k_cut2 C (lv' := [(0, _), (1, _), (2, _)]) ⟨rfl, rfl, rfl, trivial⟩ ?_
    refine m_cl2 bl B hH hin C N N hI 0 0 (by omega) (Or.inl ⟨rfl, rfl, fun i p q => by omega⟩) (fun N2 b2 z1 z2 => ?_)
    rcases z2 with ⟨rfl, z2⟩ | ⟨rfl, z2⟩
    · refine k_iload_n C dX11_closes_2 rfl rfl ?_
      refine k_if_eq C (tgt := 83) dX11_closes_3 rfl (by omega) (fun c3 => ?_) (fun c3 => ?_)
      · exact k_vret C dX11_closes_83 (fun _ => by
             refine ⟨z1.1, fun q a c => ⟨(z1.2 q a c).1, (z1.2 q a c).2.2, ?_⟩⟩
             rintro ⟨p, p1, p2, p3⟩
             have key := p3 (fun x => (0 ≤ x ∧ x < B 0 38) ∧ N2 32 x = 1) ⟨p1, (z1.2 p p1.1 p1.2).2.1 p2⟩ (by
               rintro x y ⟨xr, x1⟩ ⟨i, i0, i1, i2⟩
               have fi := f3 i i0 i1
               rw [← i2.1] at x1
               exact ⟨by have := i2.2.1; omega, by rw [← i2.2.1]; exact z2 i i0 i1 i2.2.2 x1⟩)
             exact key.2)
      · exfalso; omega
    · exact m_cl1 bl B hH hin C N2 z1
termination_by (cnI (fun q => ¬ N 32 q = 1) (B 0 38)).toNat
decreasing_by
  have r := (cnI_rg (fun q => ¬ N2 32 q = 1) f1.1).1
  omega
set_option maxHeartbeats 4000000 in
set_option maxRecDepth 100000 in
theorem c_M_closes (bl : Nat) (B : Mem) (hH : HkM B) (hin : ∀ q, 0 ≤ q → q < B 0 38 → B 32 q = 0 ∨ B 32 q = 1) : Ct (shM bl) nM yX11_closes cX11_closes 3 none (lvl 0) [.inr 0] B (fun _ M' => (∀ j, j ≠ 32 → M' j = B j) ∧ (∀ q, 0 ≤ q → q < B 0 38 → (M' 32 q = 0 ∨ M' 32 q = 1) ∧ (M' 32 q = 1 ↔ ∃ p, (0 ≤ p ∧ p < B 0 38) ∧ B 32 p = 1 ∧ Ecl (EpN B) p q))) := by
  refine Ct_of (by decide +kernel) (Nat.le_of_ble_eq_true rfl) (fun K C => ?_)
  refine k_iconst C dX11_closes_0 ?_
  refine k_istore_n C dX11_closes_1 rfl (by decide) ?_
  refine k_cut2 C (lv' := [(0, _), (1, _)]) ⟨rfl, rfl, trivial⟩ ?_
  exact m_cl1 bl B hH hin C B ⟨fun _ _ => rfl, fun q a c => ⟨hin q a c, fun z => z, fun z => ⟨q, ⟨a, c⟩, z, Ecl_r⟩⟩⟩
set_option maxHeartbeats 4000000 in
set_option maxRecDepth 100000 in
theorem m_leads {K : Kt} (bl : Nat) (N : Mem) (hH : HkM N) (hin : ∀ q, 0 ≤ q → q < N 0 38 → N 32 q = 0 ∨ N 32 q = 1) (hf : ∀ x, 0 ≤ x → x < 30 * N 0 38 → 1 ≤ N 31 x ∧ N 31 x ≤ 1000000) (c s lf : Int) (hc : 0 ≤ c ∧ c < 8) (hs : 0 ≤ s ∧ s < N 0 25) (hl : inR lf) (C : Ctx (shM bl) nM RX11 cX11_leads 6 (some .boolean) (lvl 0) (fun r M' => N = M' ∧ ((r = 1 ∧ ∃ e, (0 ≤ e ∧ e < N 0 37) ∧ N 27 e = c ∧ N 32 (N 25 e) = 1 ∧ ((N 19 (8 * s + c) < 0 ∧ lf = 1) ∨ (0 ≤ N 19 (8 * s + c) ∧ 1 + N 31 (30 * N 26 e + N 19 (8 * s + c)) = lf))) ∨ (r = 0 ∧ ¬ (∃ e, (0 ≤ e ∧ e < N 0 37) ∧ N 27 e = c ∧ N 32 (N 25 e) = 1 ∧ ((N 19 (8 * s + c) < 0 ∧ lf = 1) ∨ (0 ≤ N 19 (8 * s + c) ∧ 1 + N 31 (30 * N 26 e + N 19 (8 * s + c)) = lf)))))) K) (e : Int) (he : 0 ≤ e ∧ e ≤ N 0 37) (hI : ∀ i, 0 ≤ i → i < e → N 27 i = c → N 32 (N 25 i) = 1 → ¬ ((N 19 (8 * s + c) < 0 ∧ lf = 1) ∨ (0 ≤ N 19 (8 * s + c) ∧ 1 + N 31 (30 * N 26 i + N 19 (8 * s + c)) = lf))) : K 3 [(0, .inr 0), (1, .inl c), (2, .inl s), (3, .inl lf), (4, .inl e)] [] N := by
  obtain ⟨f1, f2, f3⟩ := hH.1
  have m30 := hH.2.1
  have nr := hH.2.2 s c hs.1 hs.2 hc.1 hc.2
  have fe := f3 e he.1
  refine k_iload C dX11_leads_3 rfl ?_
  refine k_aload_n C dX11_leads_5 rfl rfl ?_
  refine k_getJ C 37 37 rfl okC11 rfl (by decide) (by decide) rfl flX11_243 dX11_leads_6 (fun ld6 => ?_)
  refine k_icmp_ge C (tgt := 99) dX11_leads_9 rfl (by omega) (by omega) (fun c9 => ?_) (fun c9 => ?_)
  · refine k_iconst C dX11_leads_99 ?_
    exact k_zret C dX11_leads_100 (by omega) (fun _ => ⟨rfl, Or.inr ⟨rfl, fun ⟨i, i0, i1, i2, i3⟩ => hI i i0.1 (by omega) i1 i2 i3⟩⟩)
  · obtain ⟨g1, g2, g3⟩ := fe c9
    have i1 := hin (N 25 e) g1.1 g1.2
    refine k_aload_n C dX11_leads_12 rfl rfl ?_
    refine k_getR C (j := 36) okC11 rfl (by decide) (by decide) rfl flX11_90 dX11_leads_13 ?_
    refine k_iload C dX11_leads_16 rfl ?_
    refine k_iaload C rfl (by decide) (by decide) ⟨by omega, by omega⟩ dX11_leads_18 (fun ld18 => ?_)
    refine k_iload_n C dX11_leads_19 rfl rfl ?_
    refine k_icmp_ne C (tgt := 93) dX11_leads_20 rfl (by omega) (by omega) (fun c20 => ?_) (fun c20 => ?_)
    · refine k_iinc C dX11_leads_93 (by decide) rfl ?_
      refine k_goto C (tgt := 3) dX11_leads_96 rfl ?_
      refine k_cut2 C (lv' := [(0, _), (1, _), (2, _), (3, _), (4, _)]) ⟨rfl, rfl, rfl, rfl, rfl, trivial⟩ ?_
      refine m_leads bl N hH hin hf c s lf hc hs hl C (e + 1) (by omega) (fun i p q r t => ?_)
      by_cases z : i = e
      · rw [z] at r t ⊢; omega
      · exact hI i p (by omega) r t
    · refine k_aload_n C dX11_leads_23 rfl rfl ?_
      refine k_getR C (j := 47) okC11 rfl (by decide) (by decide) rfl flX11_105 dX11_leads_24 ?_
      refine k_aload_n C dX11_leads_27 rfl rfl ?_
      refine k_getR C (j := 34) okC11 rfl (by decide) (by decide) rfl flX11_84 dX11_leads_28 ?_
      refine k_iload C dX11_leads_31 rfl ?_
      refine k_iaload C rfl (by decide) (by decide) ⟨by omega, by omega⟩ dX11_leads_33 (fun ld33 => ?_)
      refine k_zaload C rfl (by decide) (by decide) ⟨by omega, by omega⟩ dX11_leads_34 (fun ld34 => ?_)
      refine k_if_ne C (tgt := 41) dX11_leads_35 rfl (by omega) (fun c35 => ?_) (fun c35 => ?_)
      · refine k_aload_n C dX11_leads_41 rfl rfl ?_
        refine k_getR C (j := 23) okC11 rfl (by decide) (by decide) rfl flX11_65 dX11_leads_42 ?_
        refine k_bipush C dX11_leads_45 (by decide) ?_
        refine k_iload_n C dX11_leads_47 rfl rfl ?_
        refine k_imul C dX11_leads_48 ?_
        refine k_iload_n C dX11_leads_49 rfl rfl ?_
        refine k_iadd C dX11_leads_50 ?_
        refine k_iaload C rfl (by decide) (by decide) ⟨by omega, by omega⟩ dX11_leads_51 (fun ld51 => ?_)
        refine k_istore C dX11_leads_52 (by decide) ?_
        refine k_iload C dX11_leads_54 rfl ?_
        refine k_if_ge C (tgt := 67) dX11_leads_56 rfl (by omega) (fun c56 => ?_) (fun c56 => ?_)
        · have fn := hf (30 * N 26 e + N 19 (8 * s + c)) (by omega) (by omega)
          refine k_iconst C dX11_leads_67 ?_
          refine k_aload_n C dX11_leads_68 rfl rfl ?_
          refine k_getR C (j := 46) okC11 rfl (by decide) (by decide) rfl flX11_102 dX11_leads_69 ?_
          refine k_aload_n C dX11_leads_72 rfl rfl ?_
          refine k_getR C (j := 35) okC11 rfl (by decide) (by decide) rfl flX11_87 dX11_leads_73 ?_
          refine k_iload C dX11_leads_76 rfl ?_
          refine k_iaload C rfl (by decide) (by decide) ⟨by omega, by omega⟩ dX11_leads_78 (fun ld78 => ?_)
          refine k_bipush C dX11_leads_79 (by decide) ?_
          refine k_imul C dX11_leads_81 ?_
          refine k_iload C dX11_leads_82 rfl ?_
          refine k_iadd C dX11_leads_84 ?_
          rw [show N 26 e * 30 + N 19 (8 * s + c) = 30 * N 26 e + N 19 (8 * s + c) by omega]
          refine k_iaload C rfl (by decide) (by decide) ⟨by omega, by omega⟩ dX11_leads_85 (fun ld85 => ?_)
          refine k_iadd C dX11_leads_86 ?_
          refine k_iload_n C dX11_leads_87 rfl rfl ?_
          refine k_icmp_ne C (tgt := 93) dX11_leads_88 rfl (by omega) (by omega) (fun c88 => ?_) (fun c88 => ?_)
          · refine k_iinc C dX11_leads_93 (by decide) rfl ?_
            refine k_goto C (tgt := 3) dX11_leads_96 rfl ?_
            refine k_cut2 C (lv' := [(0, _), (1, _), (2, _), (3, _), (4, _)]) ⟨rfl, rfl, rfl, rfl, rfl, trivial⟩ ?_
            refine m_leads bl N hH hin hf c s lf hc hs hl C (e + 1) (by omega) (fun i p q r t => ?_)
            by_cases z : i = e
            · rw [z] at r t ⊢; omega
            · exact hI i p (by omega) r t
          · refine k_iconst C dX11_leads_91 ?_
            exact k_zret C dX11_leads_92 (by omega) (fun _ => ⟨rfl, Or.inl ⟨rfl, e, ⟨he.1, c9⟩, by omega, by omega, by omega⟩⟩)
        · refine k_iload_n C dX11_leads_59 rfl rfl ?_
          refine k_iconst C dX11_leads_60 ?_
          refine k_icmp_ne C (tgt := 93) dX11_leads_61 rfl (by omega) (by omega) (fun c61 => ?_) (fun c61 => ?_)
          · refine k_iinc C dX11_leads_93 (by decide) rfl ?_
            refine k_goto C (tgt := 3) dX11_leads_96 rfl ?_
            refine k_cut2 C (lv' := [(0, _), (1, _), (2, _), (3, _), (4, _)]) ⟨rfl, rfl, rfl, rfl, rfl, trivial⟩ ?_
            refine m_leads bl N hH hin hf c s lf hc hs hl C (e + 1) (by omega) (fun i p q r t => ?_)
            by_cases z : i = e
            · rw [z] at r t ⊢; omega
            · exact hI i p (by omega) r t
          · refine k_goto C (tgt := 91) dX11_leads_64 rfl ?_
            refine k_iconst C dX11_leads_91 ?_
            exact k_zret C dX11_leads_92 (by omega) (fun _ => ⟨rfl, Or.inl ⟨rfl, e, ⟨he.1, c9⟩, by omega, by omega, by omega⟩⟩)
      · refine k_goto C (tgt := 93) dX11_leads_38 rfl ?_
        refine k_iinc C dX11_leads_93 (by decide) rfl ?_
        refine k_goto C (tgt := 3) dX11_leads_96 rfl ?_
        refine k_cut2 C (lv' := [(0, _), (1, _), (2, _), (3, _), (4, _)]) ⟨rfl, rfl, rfl, rfl, rfl, trivial⟩ ?_
        refine m_leads bl N hH hin hf c s lf hc hs hl C (e + 1) (by omega) (fun i p q r t => ?_)
        by_cases z : i = e
        · rw [z] at r t ⊢; omega
        · exact hI i p (by omega) r t
termination_by (N 0 37 - e).toNat
decreasing_by all_goals omega
set_option maxHeartbeats 4000000 in
set_option maxRecDepth 100000 in
theorem c_M_leads (bl : Nat) (N : Mem) (hH : HkM N) (hin : ∀ q, 0 ≤ q → q < N 0 38 → N 32 q = 0 ∨ N 32 q = 1) (hf : ∀ x, 0 ≤ x → x < 30 * N 0 38 → 1 ≤ N 31 x ∧ N 31 x ≤ 1000000) (c s lf : Int) (hc : 0 ≤ c ∧ c < 8) (hs : 0 ≤ s ∧ s < N 0 25) (hl : inR lf) : Ct (shM bl) nM yX11_leads cX11_leads 6 (some .boolean) (lvl 0) [.inr 0, .inl c, .inl s, .inl lf] N (fun r M' => N = M' ∧ ((r = 1 ∧ ∃ e, (0 ≤ e ∧ e < N 0 37) ∧ N 27 e = c ∧ N 32 (N 25 e) = 1 ∧ ((N 19 (8 * s + c) < 0 ∧ lf = 1) ∨ (0 ≤ N 19 (8 * s + c) ∧ 1 + N 31 (30 * N 26 e + N 19 (8 * s + c)) = lf))) ∨ (r = 0 ∧ ¬ (∃ e, (0 ≤ e ∧ e < N 0 37) ∧ N 27 e = c ∧ N 32 (N 25 e) = 1 ∧ ((N 19 (8 * s + c) < 0 ∧ lf = 1) ∨ (0 ≤ N 19 (8 * s + c) ∧ 1 + N 31 (30 * N 26 e + N 19 (8 * s + c)) = lf)))))) := by
  refine Ct_of (by decide +kernel) (Nat.le_of_ble_eq_true rfl) (fun K C => ?_)
  obtain ⟨f1, f2, f3⟩ := hH.1
  have m30 := hH.2.1
  refine k_iconst C dX11_leads_0 ?_
  refine k_istore C dX11_leads_1 (by decide) ?_
  refine k_cut2 C (lv' := [(0, _), (1, _), (2, _), (3, _), (4, _)]) ⟨rfl, rfl, rfl, rfl, rfl, trivial⟩ ?_
  exact m_leads bl N hH hin hf c s lf hc hs hl C 0 (by omega) (fun i p q => by omega)
set_option maxHeartbeats 4000000 in
set_option maxRecDepth 100000 in
theorem m_go3 {K : Kt} (bl : Nat) (B : Mem) (hH : HkM B) (hin : ∀ q, 0 ≤ q → q < B 0 38 → B 32 q = 0 ∨ B 32 q = 1) (c s : Int) (hc : 0 ≤ c ∧ c < 8) (hs : 0 ≤ s ∧ s < B 0 25) (C : Ctx (shM bl) nM RX11 cX11_goesOn 4 (some .int) (lvl 0) (fun r M' => (∀ j, j ≠ 32 → j ≠ 33 → M' j = B j) ∧ r = B 19 (8 * s + c) ∧ ∀ q, 0 ≤ q → q < B 0 38 → (M' 32 q = 0 ∨ M' 32 q = 1) ∧ (M' 32 q = 1 ↔ ∃ i, (0 ≤ i ∧ i < B 0 37) ∧ B 27 i = c ∧ B 32 (B 25 i) = 1 ∧ B 26 i = q)) K) (N : Mem) (hN : ∀ j, j ≠ 32 → j ≠ 33 → N j = B j) (h33 : ∀ q, 0 ≤ q → q < B 0 38 → (N 33 q = 0 ∨ N 33 q = 1) ∧ (N 33 q = 1 ↔ ∃ i, (0 ≤ i ∧ i < B 0 37) ∧ B 27 i = c ∧ B 32 (B 25 i) = 1 ∧ B 26 i = q)) (x : Int) (hx : 0 ≤ x ∧ x ≤ B 0 38) (h32 : ∀ q, 0 ≤ q → q < x → N 32 q = N 33 q) : K 77 [(0, .inr 0), (1, .inl c), (2, .inl s), (3, .inl x)] [] N := by
  obtain ⟨f1, f2, f3⟩ := hH.1
  have m30 := hH.2.1
  have n0 := hN 0 (by decide) (by decide)
  have nr := hH.2.2 s c hs.1 hs.2 hc.1 hc.2
  have hx33 := h33 x hx.1
  refine k_iload_n C dX11_goesOn_77 rfl rfl ?_
  refine k_aload_n C dX11_goesOn_78 rfl rfl ?_
  refine k_getJ C 38 38 rfl okC11 rfl (by decide) (by decide) rfl flX11_246 dX11_goesOn_79 (fun ld79 => ?_)
  rw [n0] at ld79 ⊢
  refine k_icmp_ge C (tgt := 103) dX11_goesOn_82 rfl (by omega) (by omega) (fun c82 => ?_) (fun c82 => ?_)
  · refine k_aload_n C dX11_goesOn_103 rfl rfl ?_
    refine k_getR C (j := 23) okC11 rfl (by decide) (by decide) rfl flX11_65 dX11_goesOn_104 ?_
    refine k_bipush C dX11_goesOn_107 (by decide) ?_
    refine k_iload_n C dX11_goesOn_109 rfl rfl ?_
    refine k_imul C dX11_goesOn_110 ?_
    refine k_iload_n C dX11_goesOn_111 rfl rfl ?_
    refine k_iadd C dX11_goesOn_112 ?_
    refine k_iaload C rfl (by decide) (by decide) ⟨by omega, by omega⟩ dX11_goesOn_113 (fun ld113 => ?_)
    rw [hN 19 (by decide) (by decide)] at ld113 ⊢
    exact k_iret C dX11_goesOn_114 (by omega) (fun _ => ⟨hN, rfl, fun q a b => by rw [h32 q a (by omega)]; exact h33 q a b⟩)
  · have hx33 := hx33 c82
    refine k_aload_n C dX11_goesOn_85 rfl rfl ?_
    refine k_getR C (j := 47) okC11 rfl (by decide) (by decide) rfl flX11_105 dX11_goesOn_86 ?_
    refine k_iload_n C dX11_goesOn_89 rfl rfl ?_
    refine k_aload_n C dX11_goesOn_90 rfl rfl ?_
    refine k_getR C (j := 48) okC11 rfl (by decide) (by decide) rfl flX11_108 dX11_goesOn_91 ?_
    refine k_iload_n C dX11_goesOn_94 rfl rfl ?_
    refine k_zaload C rfl (by decide) (by decide) ⟨by omega, by omega⟩ dX11_goesOn_95 (fun ld95 => ?_)
    refine k_zastore C rfl (by decide) (by decide) ⟨by omega, by omega⟩ (by omega) dX11_goesOn_96 ?_
    refine k_iinc C dX11_goesOn_97 (by decide) rfl ?_
    refine k_goto C (tgt := 77) dX11_goesOn_100 rfl ?_
    refine k_cut2 C (lv' := [(0, _), (1, _), (2, _), (3, _)]) ⟨rfl, rfl, rfl, rfl, trivial⟩ ?_
    refine m_go3 bl B hH hin c s hc hs C _ (fun j a b => by rw [up_ne a]; exact hN j a b) (by rw [up_ne (by decide)]; exact h33) (x + 1) (by omega) (fun q a b => ?_)
    rw [up_at, up_ne (show (33 : Nat) ≠ 32 by decide)]
    by_cases z : q = x
    · rw [if_pos z, z]
    · rw [if_neg z]; exact h32 q a (by omega)
termination_by (B 0 38 - x).toNat
decreasing_by all_goals omega
set_option maxHeartbeats 4000000 in
set_option maxRecDepth 100000 in
theorem m_go2 {K : Kt} (bl : Nat) (B : Mem) (hH : HkM B) (hin : ∀ q, 0 ≤ q → q < B 0 38 → B 32 q = 0 ∨ B 32 q = 1) (c s : Int) (hc : 0 ≤ c ∧ c < 8) (hs : 0 ≤ s ∧ s < B 0 25) (C : Ctx (shM bl) nM RX11 cX11_goesOn 4 (some .int) (lvl 0) (fun r M' => (∀ j, j ≠ 32 → j ≠ 33 → M' j = B j) ∧ r = B 19 (8 * s + c) ∧ ∀ q, 0 ≤ q → q < B 0 38 → (M' 32 q = 0 ∨ M' 32 q = 1) ∧ (M' 32 q = 1 ↔ ∃ i, (0 ≤ i ∧ i < B 0 37) ∧ B 27 i = c ∧ B 32 (B 25 i) = 1 ∧ B 26 i = q)) K) (N : Mem) (hN : ∀ j, j ≠ 33 → N j = B j) (e : Int) (he : 0 ≤ e ∧ e ≤ B 0 37) (h33 : ∀ q, 0 ≤ q → q < B 0 38 → (N 33 q = 0 ∨ N 33 q = 1) ∧ (N 33 q = 1 ↔ ∃ i, (0 ≤ i ∧ i < e) ∧ B 27 i = c ∧ B 32 (B 25 i) = 1 ∧ B 26 i = q)) : K 25 [(0, .inr 0), (1, .inl c), (2, .inl s), (3, .inl e)] [] N := by
  obtain ⟨f1, f2, f3⟩ := hH.1
  have n0 := hN 0 (by decide)
  have n25 := hN 25 (by decide)
  have n26 := hN 26 (by decide)
  have n27 := hN 27 (by decide)
  have n32 := hN 32 (by decide)
  have fe := f3 e he.1
  refine k_iload_n C dX11_goesOn_25 rfl rfl ?_
  refine k_aload_n C dX11_goesOn_26 rfl rfl ?_
  refine k_getJ C 37 37 rfl okC11 rfl (by decide) (by decide) rfl flX11_243 dX11_goesOn_27 (fun ld27 => ?_)
  rw [n0] at ld27 ⊢
  refine k_icmp_ge C (tgt := 75) dX11_goesOn_30 rfl (by omega) (by omega) (fun c30 => ?_) (fun c30 => ?_)
  · refine k_iconst C dX11_goesOn_75 ?_
    refine k_istore_n C dX11_goesOn_76 rfl (by decide) ?_
    refine k_cut2 C (lv' := [(0, _), (1, _), (2, _), (3, _)]) ⟨rfl, rfl, rfl, rfl, trivial⟩ ?_
    refine m_go3 bl B hH hin c s hc hs C N (fun j a b => hN j b) (fun q a b => ?_) 0 (by omega) (fun q a b => by omega)
    rw [show e = B 0 37 by omega] at h33
    exact h33 q a b
  · obtain ⟨g1, g2, g3⟩ := fe c30
    have i1 := hin (B 25 e) g1.1 g1.2
    refine k_aload_n C dX11_goesOn_33 rfl rfl ?_
    refine k_getR C (j := 36) okC11 rfl (by decide) (by decide) rfl flX11_90 dX11_goesOn_34 ?_
    refine k_iload_n C dX11_goesOn_37 rfl rfl ?_
    refine k_iaload C rfl (by decide) (by decide) ⟨by omega, by omega⟩ dX11_goesOn_38 (fun ld38 => ?_)
    rw [n27] at ld38 ⊢
    refine k_iload_n C dX11_goesOn_39 rfl rfl ?_
    refine k_icmp_ne C (tgt := 69) dX11_goesOn_40 rfl (by omega) (by omega) (fun c40 => ?_) (fun c40 => ?_)
    · refine k_iinc C dX11_goesOn_69 (by decide) rfl ?_
      refine k_goto C (tgt := 25) dX11_goesOn_72 rfl ?_
      refine k_cut2 C (lv' := [(0, _), (1, _), (2, _), (3, _)]) ⟨rfl, rfl, rfl, rfl, trivial⟩ ?_
      first
      | (refine m_go2 bl B hH hin c s hc hs C _ (fun j a => by rw [up_ne a]; exact hN j a) (e + 1) (by omega) (fun q a b => ?_)
         rw [up_at]
         by_cases z : q = B 26 e
         · have w1 : B 32 (B 25 e) = 1 := by omega
           have w2 : 0 ≤ e ∧ e < e + 1 := by omega
           rw [if_pos z]; exact ⟨Or.inr rfl, fun _ => ⟨e, w2, c40, w1, z.symm⟩, fun _ => rfl⟩
         · rw [if_neg z]; refine ⟨(h33 q a b).1, fun y => ?_, fun ⟨i, i0, i1, i2, i3⟩ => (h33 q a b).2.2 ⟨i, by by_cases w : i = e; (rw [w] at i3; exact absurd i3.symm z); omega, i1, i2, i3⟩⟩
           obtain ⟨i, i0, i1⟩ := (h33 q a b).2.1 y
           exact ⟨i, by omega, i1⟩)
      | (refine m_go2 bl B hH hin c s hc hs C N hN (e + 1) (by omega) (fun q a b => ?_)
         refine ⟨(h33 q a b).1, fun y => ?_, fun ⟨i, i0, i1, i2, i3⟩ => (h33 q a b).2.2 ⟨i, by by_cases w : i = e; (rw [w] at i1 i2; exfalso; omega); omega, i1, i2, i3⟩⟩
         obtain ⟨i, i0, i1⟩ := (h33 q a b).2.1 y
         exact ⟨i, by omega, i1⟩)
    · refine k_aload_n C dX11_goesOn_43 rfl rfl ?_
      refine k_getR C (j := 47) okC11 rfl (by decide) (by decide) rfl flX11_105 dX11_goesOn_44 ?_
      refine k_aload_n C dX11_goesOn_47 rfl rfl ?_
      refine k_getR C (j := 34) okC11 rfl (by decide) (by decide) rfl flX11_84 dX11_goesOn_48 ?_
      refine k_iload_n C dX11_goesOn_51 rfl rfl ?_
      refine k_iaload C rfl (by decide) (by decide) ⟨by omega, by omega⟩ dX11_goesOn_52 (fun ld52 => ?_)
      rw [n25] at ld52 ⊢
      refine k_zaload C rfl (by decide) (by decide) ⟨by omega, by omega⟩ dX11_goesOn_53 (fun ld53 => ?_)
      rw [n32] at ld53 ⊢
      refine k_if_eq C (tgt := 69) dX11_goesOn_54 rfl (by omega) (fun c54 => ?_) (fun c54 => ?_)
      · refine k_iinc C dX11_goesOn_69 (by decide) rfl ?_
        refine k_goto C (tgt := 25) dX11_goesOn_72 rfl ?_
        refine k_cut2 C (lv' := [(0, _), (1, _), (2, _), (3, _)]) ⟨rfl, rfl, rfl, rfl, trivial⟩ ?_
        first
        | (refine m_go2 bl B hH hin c s hc hs C _ (fun j a => by rw [up_ne a]; exact hN j a) (e + 1) (by omega) (fun q a b => ?_)
           rw [up_at]
           by_cases z : q = B 26 e
           · have w1 : B 32 (B 25 e) = 1 := by omega
             have w2 : 0 ≤ e ∧ e < e + 1 := by omega
             rw [if_pos z]; exact ⟨Or.inr rfl, fun _ => ⟨e, w2, c40, w1, z.symm⟩, fun _ => rfl⟩
           · rw [if_neg z]; refine ⟨(h33 q a b).1, fun y => ?_, fun ⟨i, i0, i1, i2, i3⟩ => (h33 q a b).2.2 ⟨i, by by_cases w : i = e; (rw [w] at i3; exact absurd i3.symm z); omega, i1, i2, i3⟩⟩
             obtain ⟨i, i0, i1⟩ := (h33 q a b).2.1 y
             exact ⟨i, by omega, i1⟩)
        | (refine m_go2 bl B hH hin c s hc hs C N hN (e + 1) (by omega) (fun q a b => ?_)
           refine ⟨(h33 q a b).1, fun y => ?_, fun ⟨i, i0, i1, i2, i3⟩ => (h33 q a b).2.2 ⟨i, by by_cases w : i = e; (rw [w] at i1 i2; exfalso; omega); omega, i1, i2, i3⟩⟩
           obtain ⟨i, i0, i1⟩ := (h33 q a b).2.1 y
           exact ⟨i, by omega, i1⟩)
      · refine k_aload_n C dX11_goesOn_57 rfl rfl ?_
        refine k_getR C (j := 48) okC11 rfl (by decide) (by decide) rfl flX11_108 dX11_goesOn_58 ?_
        refine k_aload_n C dX11_goesOn_61 rfl rfl ?_
        refine k_getR C (j := 35) okC11 rfl (by decide) (by decide) rfl flX11_87 dX11_goesOn_62 ?_
        refine k_iload_n C dX11_goesOn_65 rfl rfl ?_
        refine k_iaload C rfl (by decide) (by decide) ⟨by omega, by omega⟩ dX11_goesOn_66 (fun ld66 => ?_)
        rw [n26] at ld66 ⊢
        refine k_iconst C dX11_goesOn_67 ?_
        refine k_zastore C rfl (by decide) (by decide) ⟨by omega, by omega⟩ (by omega) dX11_goesOn_68 ?_
        refine k_iinc C dX11_goesOn_69 (by decide) rfl ?_
        refine k_goto C (tgt := 25) dX11_goesOn_72 rfl ?_
        refine k_cut2 C (lv' := [(0, _), (1, _), (2, _), (3, _)]) ⟨rfl, rfl, rfl, rfl, trivial⟩ ?_
        first
        | (refine m_go2 bl B hH hin c s hc hs C _ (fun j a => by rw [up_ne a]; exact hN j a) (e + 1) (by omega) (fun q a b => ?_)
           rw [up_at]
           by_cases z : q = B 26 e
           · have w1 : B 32 (B 25 e) = 1 := by omega
             have w2 : 0 ≤ e ∧ e < e + 1 := by omega
             rw [if_pos z]; exact ⟨Or.inr rfl, fun _ => ⟨e, w2, c40, w1, z.symm⟩, fun _ => rfl⟩
           · rw [if_neg z]; refine ⟨(h33 q a b).1, fun y => ?_, fun ⟨i, i0, i1, i2, i3⟩ => (h33 q a b).2.2 ⟨i, by by_cases w : i = e; (rw [w] at i3; exact absurd i3.symm z); omega, i1, i2, i3⟩⟩
             obtain ⟨i, i0, i1⟩ := (h33 q a b).2.1 y
             exact ⟨i, by omega, i1⟩)
        | (refine m_go2 bl B hH hin c s hc hs C N hN (e + 1) (by omega) (fun q a b => ?_)
           refine ⟨(h33 q a b).1, fun y => ?_, fun ⟨i, i0, i1, i2, i3⟩ => (h33 q a b).2.2 ⟨i, by by_cases w : i = e; (rw [w] at i1 i2; exfalso; omega); omega, i1, i2, i3⟩⟩
           obtain ⟨i, i0, i1⟩ := (h33 q a b).2.1 y
           exact ⟨i, by omega, i1⟩)
termination_by (B 0 37 - e).toNat
decreasing_by all_goals omega
set_option maxHeartbeats 4000000 in
set_option maxRecDepth 100000 in
theorem m_go1 {K : Kt} (bl : Nat) (B : Mem) (hH : HkM B) (hin : ∀ q, 0 ≤ q → q < B 0 38 → B 32 q = 0 ∨ B 32 q = 1) (c s : Int) (hc : 0 ≤ c ∧ c < 8) (hs : 0 ≤ s ∧ s < B 0 25) (C : Ctx (shM bl) nM RX11 cX11_goesOn 4 (some .int) (lvl 0) (fun r M' => (∀ j, j ≠ 32 → j ≠ 33 → M' j = B j) ∧ r = B 19 (8 * s + c) ∧ ∀ q, 0 ≤ q → q < B 0 38 → (M' 32 q = 0 ∨ M' 32 q = 1) ∧ (M' 32 q = 1 ↔ ∃ i, (0 ≤ i ∧ i < B 0 37) ∧ B 27 i = c ∧ B 32 (B 25 i) = 1 ∧ B 26 i = q)) K) (N : Mem) (hN : ∀ j, j ≠ 33 → N j = B j) (x : Int) (hx : 0 ≤ x ∧ x ≤ B 0 38) (h33 : ∀ q, 0 ≤ q → q < x → N 33 q = 0) : K 2 [(0, .inr 0), (1, .inl c), (2, .inl s), (3, .inl x)] [] N := by
  obtain ⟨f1, f2, f3⟩ := hH.1
  have n0 := hN 0 (by decide)
  refine k_iload_n C dX11_goesOn_2 rfl rfl ?_
  refine k_aload_n C dX11_goesOn_3 rfl rfl ?_
  refine k_getJ C 38 38 rfl okC11 rfl (by decide) (by decide) rfl flX11_246 dX11_goesOn_4 (fun ld4 => ?_)
  rw [n0] at ld4 ⊢
  refine k_icmp_ge C (tgt := 23) dX11_goesOn_7 rfl (by omega) (by omega) (fun c7 => ?_) (fun c7 => ?_)
  · refine k_iconst C dX11_goesOn_23 ?_
    refine k_istore_n C dX11_goesOn_24 rfl (by decide) ?_
    refine k_cut2 C (lv' := [(0, _), (1, _), (2, _), (3, _)]) ⟨rfl, rfl, rfl, rfl, trivial⟩ ?_
    exact m_go2 bl B hH hin c s hc hs C N hN 0 (by omega) (fun q a b => ⟨Or.inl (h33 q a (by omega)), fun y => by rw [h33 q a (by omega)] at y; omega, fun ⟨i, i0, _⟩ => by omega⟩)
  · refine k_aload_n C dX11_goesOn_10 rfl rfl ?_
    refine k_getR C (j := 48) okC11 rfl (by decide) (by decide) rfl flX11_108 dX11_goesOn_11 ?_
    refine k_iload_n C dX11_goesOn_14 rfl rfl ?_
    refine k_iconst C dX11_goesOn_15 ?_
    refine k_zastore C rfl (by decide) (by decide) ⟨by omega, by omega⟩ (by omega) dX11_goesOn_16 ?_
    refine k_iinc C dX11_goesOn_17 (by decide) rfl ?_
    refine k_goto C (tgt := 2) dX11_goesOn_20 rfl ?_
    refine k_cut2 C (lv' := [(0, _), (1, _), (2, _), (3, _)]) ⟨rfl, rfl, rfl, rfl, trivial⟩ ?_
    refine m_go1 bl B hH hin c s hc hs C _ (fun j a => by rw [up_ne a]; exact hN j a) (x + 1) (by omega) (fun q a b => ?_)
    rw [up_at]
    by_cases z : q = x
    · rw [if_pos z]
    · rw [if_neg z]; exact h33 q a (by omega)
termination_by (B 0 38 - x).toNat
decreasing_by all_goals omega
set_option maxHeartbeats 4000000 in
set_option maxRecDepth 100000 in
theorem c_M_goesOn (bl : Nat) (B : Mem) (hH : HkM B) (hin : ∀ q, 0 ≤ q → q < B 0 38 → B 32 q = 0 ∨ B 32 q = 1) (c s : Int) (hc : 0 ≤ c ∧ c < 8) (hs : 0 ≤ s ∧ s < B 0 25) : Ct (shM bl) nM yX11_goesOn cX11_goesOn 4 (some .int) (lvl 0) [.inr 0, .inl c, .inl s] B (fun r M' => (∀ j, j ≠ 32 → j ≠ 33 → M' j = B j) ∧ r = B 19 (8 * s + c) ∧ ∀ q, 0 ≤ q → q < B 0 38 → (M' 32 q = 0 ∨ M' 32 q = 1) ∧ (M' 32 q = 1 ↔ ∃ i, (0 ≤ i ∧ i < B 0 37) ∧ B 27 i = c ∧ B 32 (B 25 i) = 1 ∧ B 26 i = q)) := by
  refine Ct_of (by decide +kernel) (Nat.le_of_ble_eq_true rfl) (fun K C => ?_)
  obtain ⟨f1, f2, f3⟩ := hH.1
  have m30 := hH.2.1
  refine k_iconst C dX11_goesOn_0 ?_
  refine k_istore_n C dX11_goesOn_1 rfl (by decide) ?_
  refine k_cut2 C (lv' := [(0, _), (1, _), (2, _), (3, _)]) ⟨rfl, rfl, rfl, rfl, trivial⟩ ?_
  exact m_go1 bl B hH hin c s hc hs C B (fun _ _ => rfl) 0 (by omega) (fun q a b => by omega)
set_option maxHeartbeats 4000000 in
set_option maxRecDepth 100000 in
theorem c_M_clearBreak (bl : Nat) (N : Mem) : Ct (shM bl) nM yX11_clearBreak cX11_clearBreak 1 none (lvl 0) [.inr 0] N (fun _ M' => M' = up N 0 50 0) := by
  refine Ct_of (by decide +kernel) (Nat.le_of_ble_eq_true rfl) (fun K C => ?_)
  refine k_aload_n C dX11_clearBreak_0 rfl rfl ?_
  refine k_iconst C dX11_clearBreak_1 ?_
  refine k_putJ C 50 50 rfl okC11 rfl (by decide) (by decide) rfl rfl rfl (by omega) flX11_252 dX11_clearBreak_2 ?_
  exact k_vret C dX11_clearBreak_5 (fun _ => rfl)
