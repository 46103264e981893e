/-! THE REFERENCE: bracket, and reads with it -/

theorem skp_self {tx : Int → Int} {n j : Int} (h0 : 0 ≤ j ∧ j ≤ n) (hn : n ≤ 200) (h : j < n → tx j ≠ 32) : skp tx n 201 j = j := by
  obtain ⟨a, b, c⟩ := skp_ok (tx := tx) (n := n) 201 j h0.1 h0.2 (by omega)
  by_cases z : skp tx n 201 j = j
  · exact z
  · exact absurd (b j (Int.le_refl j) (by omega)) (h (by omega))
/-- a bar or the bracket's end, its step told -/
theorem PS_bar {tx : Int → Int} {M N A : Mem} {j p D : Int} (h : PS tx M N j) (jn : j < M 0 31) (tj : tx j = 124 ∨ tx j = 41) (hop : opn tx j = p) (hd : dep tx j = D + 1) (h0D : 0 ≤ D) (hA : A = adM N (fi tx j) (cnt tx p + 1) 8) : PZ tx (j + 1) (A 28) (A 29) (A 30) ∧ A 0 43 = ee tx (j + 1) ∧ cnt tx (j + 1) = cnt tx j ∧ SC tx (M 0 31) (j + 1) := by
  obtain ⟨b1, b2, b3, b4, b5, b6, b7, b8, b9, b10⟩ := id h
  obtain ⟨g0, g1, g2, g3, g4⟩ := adM_f (M := N) (a := fi tx j) (b := cnt tx p + 1) (c := 8)
  rw [← hA, b6] at g1 g2 g3 g4
  have es := ee_s (tx := tx) b3.1
  have cs := cnt_s (tx := tx) b3.1
  rw [if_neg (by omega), if_neg (by omega)] at es cs
  refine ⟨PZ_s (PZ_ext b9 (fun e p q => ⟨by rw [g2, if_neg (by omega)], by rw [g3, if_neg (by omega)], by rw [g4, if_neg (by omega)]⟩)) b3.1 ⟨fun l => by unfold isL at l; omega, fun q => by omega, fun _ => ⟨by rw [g2, if_pos rfl], by rw [g3, if_pos rfl, hop], by rw [g4, if_pos rfl]⟩, fun q => by omega⟩, by rw [g1, if_pos rfl, es], by rw [cs]; omega, SC_s b10 ⟨b3.1, jn⟩ (Or.inr (Or.inr (Or.inl ⟨by omega, by omega⟩)))⟩
set_option maxHeartbeats 4000000 in
set_option maxRecDepth 100000 in
theorem m_brk {K : Kt} (bl : Nat) (tx : Int → Int) (M : Mem) (hT : TxM M tx) (e : Nat) (D : Int) (hD : D = 10 - (e + 1 : Nat)) (he : e ≤ 9) (ir : ∀ (N : Mem) (i : Int), PS tx M N i → dep tx i = D + 1 → NSt tx (M 0 31) i → Ct (shM bl) nM yX11_reads cX11_reads 5 (some .int) (lvl (2 + 2 * e)) [.inr 0, .inl (fi tx i)] N (fun r M' => RdP tx M M' i (D + 1) r)) (p : Int) (hp : 0 ≤ p ∧ p < M 0 31) (tp : tx p = 40) (hd : dep tx p = D) (C : Ctx (shM bl) nM RX11 cX11_bracket 4 (some .int) (lvl (3 + 2 * e)) (fun r M' => RbP tx M M' p D r) K) (N : Mem) (q : Int) (hq : p ≤ q ∧ N 0 32 = q) (hP : PS tx M (up N 0 32 (q + 1)) (q + 1)) (hf : fi tx (q + 1) = cnt tx p) (hdq : dep tx (q + 1) = D + 1) (hdk : ∀ k, p < k → k ≤ q + 1 → D < dep tx k) (hs : sta tx (q + 1) = 0) : K 44 [(0, .inr 0), (1, .inl (fi tx p)), (2, .inl (cnt tx p)), (3, .inl (cnt tx p + 1))] [] N := by
  have t1 := hT.1
  have cb := cnt_b (tx := tx) hp.1
  have fb := fi_b (tx := tx) (i := p) (by omega)
  have hq200 := hP.2.2.1
  refine k_aload_n C dX11_bracket_44 rfl rfl ?_
  refine k_dup C dX11_bracket_45 ?_
  refine k_getJ C 32 32 rfl okC11 rfl (by decide) (by decide) rfl flX11_207 dX11_bracket_46 (fun ld46 => ?_)
  rw [hq.2]
  refine k_iconst C dX11_bracket_49 ?_
  refine k_iadd C dX11_bracket_50 ?_
  refine k_putJ C 32 32 rfl okC11 rfl (by decide) (by decide) rfl rfl rfl (by omega) flX11_207 dX11_bracket_51 ?_
  refine k_aload_n C dX11_bracket_54 rfl rfl ?_
  refine k_aload_n C dX11_bracket_55 rfl rfl ?_
  refine k_iload_n C dX11_bracket_56 rfl rfl ?_
  refine k_callV C okX11_240 dX11_bracket_57 ((by have z := ir (up N 0 32 (q + 1)) (q + 1) hP hdq (fun x _ _ _ _ => hs); rw [hf] at z; exact z)) rfl rfl (by decide) rfl ⟨rfl, rfl, by show 2 + 2 * e + 1 ≤ 3 + 2 * e; omega, by show 8 + (5 + 11) + 64 * (2 + 2 * e) ≤ 64 * (3 + 2 * e); omega⟩ rfl (Nat.le_of_ble_eq_true rfl) (fun r57 M57 hr57 hp57 => ?_)
  rcases hp57 with ⟨j, j1, j2, j3, j4, j5, j6⟩ | w
  · obtain ⟨b1, b2, b3, b4, b5, b6, b7, b8, b9, b10⟩ := id j2
    have eb := ee_b (tx := tx) b3.1
    have fj := fi_b (tx := tx) (i := j) (by omega)
    have lok := lo_eq (tx := tx) (d := D) (i := p + 1) (j := j) (by omega) (by omega) (fun x a c => by
      by_cases z : x ≤ q + 1
      · exact hdk x (by omega) z
      · have := j5 x (by omega) (by omega); omega)
    have hop : opn tx j = p := by
      show lo tx (dep tx j - 1) j = p
      rw [show dep tx j - 1 = D by omega, lok, lo_s hp.1, if_pos ⟨tp, hd⟩]
    have hdj : ∀ k, p < k → k ≤ j → D < dep tx k := fun k a c => by
      by_cases z : k ≤ q + 1
      · exact hdk k a z
      · have := j5 k (by omega) c; omega
    have dsj := dep_s (tx := tx) b3.1
    have ssj := sta_s (tx := tx) b3.1
    have fsj := fi_s (tx := tx) b3.1
    subst j3
    refine k_iload_n C dX11_bracket_60 rfl rfl ?_
    refine k_bipush C dX11_bracket_61 (by decide) ?_
    refine k_callV C okX11_230 dX11_bracket_63 (c_M_add bl M57 (by rw [b6]; omega) (fi tx j) (cnt tx p + 1) 8 (by omega) (by omega) (by decide)) rfl rfl (by decide) rfl ⟨rfl, rfl, by show 0 + 1 ≤ 3 + 2 * e; omega, by show 8 + (4 + 11) + 64 * (0) ≤ 64 * (3 + 2 * e); omega⟩ rfl (Nat.le_of_ble_eq_true rfl) (fun r63 M63 hr63 hp63 => ?_)
    obtain ⟨g0, g1, g2, g3, g4⟩ := adM_f (M := M57) (a := fi tx j) (b := cnt tx p + 1) (c := 8)
    rw [← hp63] at g0 g1 g2 g3 g4
    rw [b6] at g1 g2 g3 g4
    have W63 : RdW M M63 := by rw [hp63]; exact b1.ad
    have m32 : M63 0 32 = j := by rw [g1, if_neg (by decide)]; exact b2
    have m33 : M63 0 33 = dep tx j := by rw [g1, if_neg (by decide)]; exact b4
    have m45 : M63 0 45 = 0 := by rw [g1, if_neg (by decide)]; exact b8
    have m43 : M63 0 43 = ee tx j + 1 := by rw [g1, if_pos rfl]
    have m44 : M63 0 44 = cnt tx j := by rw [g1, if_neg (by decide)]; exact b7
    have tb := fun z => hT.2 j b3.1 z
    have skj : skp (M63 24) (M63 0 31) 201 (M63 0 32) = j := by rw [W63.e.1, W63.e.2, m32]; exact skp_self b3 t1.2 (fun z => by have := tb z; have := (j6 z).1; omega)
    have self : up M63 0 32 j = M63 := by rw [← m32]; exact up_self _ _ _
    have val : (if skp (M63 24) (M63 0 31) 201 (M63 0 32) < M63 0 31 then M63 24 (skp (M63 24) (M63 0 31) 201 (M63 0 32)) % 256 else 0) = (if j < M 0 31 then tx j else 0) := by rw [skj, W63.e.1, W63.e.2]; by_cases z : j < M 0 31; (rw [if_pos z, if_pos z]; exact (tb z).1.symm); (rw [if_neg z, if_neg z])
    refine k_aload_n C dX11_bracket_66 rfl rfl ?_
    refine k_getJ C 45 45 rfl okC11 rfl (by decide) (by decide) rfl flX11_219 dX11_bracket_67 (fun ld67 => ?_)
    rw [m45] at ld67 ⊢
    refine k_if_ne C (tgt := 82) dX11_bracket_70 rfl (by omega) (fun c70 => ?_) (fun c70 => ?_)
    · exfalso; omega
    · refine k_aload_n C dX11_bracket_73 rfl rfl ?_
      refine k_callV C okX11_223 dX11_bracket_74 (c_M_now bl M63 (by rw [m32, W63.e.2]; omega)) rfl rfl (by decide) rfl ⟨rfl, rfl, by show 0 + 1 ≤ 3 + 2 * e; omega, by show 8 + (1 + 11) + 64 * (0) ≤ 64 * (3 + 2 * e); omega⟩ rfl (Nat.le_of_ble_eq_true rfl) (fun r74 M74 hr74 hp74 => ?_)
      obtain ⟨z74, hq74⟩ := hp74
      rw [skj, self] at z74
      rw [val] at hq74
      rw [z74]
      subst hq74
      refine k_bipush C dX11_bracket_77 (by decide) ?_
      refine k_icmp_eq C (tgt := 44) dX11_bracket_79 rfl (by omega) (by omega) (fun c79 => ?_) (fun c79 => ?_)
      · refine k_cut2 C (lv' := [(0, _), (1, _), (2, _), (3, _)]) ⟨rfl, rfl, rfl, rfl, trivial⟩ ?_
        have jn : j < M 0 31 := by by_cases z : j < M 0 31; exact z; (rw [if_neg z] at c79; omega)
        rw [if_pos jn] at c79
        have PB := PS_bar j2 jn (Or.inl c79) hop (by omega) (by omega) hp63
        rw [if_neg (by omega), if_neg (by omega)] at dsj
        rw [if_neg (by omega), if_neg (by omega)] at ssj
        rw [if_neg (by omega), if_neg (by omega), if_pos c79, hop] at fsj
        refine m_brk bl tx M hT e D hD he ir p hp tp hd C M63 j ⟨by omega, m32⟩ ⟨W63.a (by decide), up_same, by omega, by rw [up_at, if_neg (by decide), m33, dsj]; omega, by omega, by rw [up_at, if_neg (by decide)]; exact PB.2.1, by rw [up_at, if_neg (by decide), PB.2.2.1]; exact m44, by rw [up_at, if_neg (by decide)]; exact m45, by rw [up_ne (by decide), up_ne (by decide), up_ne (by decide)]; exact PB.1, PB.2.2.2⟩ fsj (by omega) (fun k a c => ?_) ssj
        by_cases z : k = j + 1
        · rw [z]; omega
        · exact hdj k a (by omega)
      · refine k_aload_n C dX11_bracket_82 rfl rfl ?_
        refine k_getJ C 45 45 rfl okC11 rfl (by decide) (by decide) rfl flX11_219 dX11_bracket_83 (fun ld83 => ?_)
        rw [m45] at ld83 ⊢
        refine k_if_eq C (tgt := 91) dX11_bracket_86 rfl (by omega) (fun c86 => ?_) (fun c86 => ?_)
        · refine k_aload_n C dX11_bracket_91 rfl rfl ?_
          refine k_callV C okX11_223 dX11_bracket_92 (c_M_now bl M63 (by rw [m32, W63.e.2]; omega)) rfl rfl (by decide) rfl ⟨rfl, rfl, by show 0 + 1 ≤ 3 + 2 * e; omega, by show 8 + (1 + 11) + 64 * (0) ≤ 64 * (3 + 2 * e); omega⟩ rfl (Nat.le_of_ble_eq_true rfl) (fun r92 M92 hr92 hp92 => ?_)
          obtain ⟨z92, hq92⟩ := hp92
          rw [skj, self] at z92
          rw [val] at hq92
          rw [z92]
          subst hq92
          refine k_bipush C dX11_bracket_95 (by decide) ?_
          refine k_icmp_eq C (tgt := 107) dX11_bracket_97 rfl (by omega) (by omega) (fun c97 => ?_) (fun c97 => ?_)
          · have jn : j < M 0 31 := by by_cases z : j < M 0 31; exact z; (rw [if_neg z] at c97; omega)
            rw [if_pos jn] at c97 c79
            have PB := PS_bar j2 jn (Or.inr c97) hop (by omega) (by omega) hp63
            rw [if_neg (by omega), if_pos c97] at dsj
            rw [if_neg (by omega), if_pos c97] at ssj
            rw [if_neg (by omega), if_neg (by omega), if_neg (by omega), if_pos c97, hop] at fsj
            refine k_aload_n C dX11_bracket_107 rfl rfl ?_
            refine k_dup C dX11_bracket_108 ?_
            refine k_getJ C 32 32 rfl okC11 rfl (by decide) (by decide) rfl flX11_207 dX11_bracket_109 (fun ld109 => ?_)
            rw [m32]
            refine k_iconst C dX11_bracket_112 ?_
            refine k_iadd C dX11_bracket_113 ?_
            refine k_putJ C 32 32 rfl okC11 rfl (by decide) (by decide) rfl rfl rfl (by omega) flX11_207 dX11_bracket_114 ?_
            refine k_aload_n C dX11_bracket_117 rfl rfl ?_
            refine k_dup C dX11_bracket_118 ?_
            refine k_getJ C 33 33 rfl okC11 rfl (by decide) (by decide) rfl flX11_237 dX11_bracket_119 (fun ld119 => ?_)
            rw [up_at, if_neg (by decide), m33]
            refine k_iconst C dX11_bracket_122 ?_
            refine k_isub C dX11_bracket_123 ?_
            refine k_putJ C 33 33 rfl okC11 rfl (by decide) (by decide) rfl rfl rfl (by omega) flX11_237 dX11_bracket_124 ?_
            have Q1 : PS tx M (up (up M63 0 32 (j + 1)) 0 33 (dep tx j - 1)) (j + 1) := ⟨(W63.a (by decide)).a (by decide), by rw [up_at, if_neg (by decide), up_same], by omega, by rw [up_same]; omega, by omega, by rw [up_at, if_neg (by decide), up_at, if_neg (by decide)]; exact PB.2.1, by rw [up_at, if_neg (by decide), up_at, if_neg (by decide), PB.2.2.1]; exact m44, by rw [up_at, if_neg (by decide), up_at, if_neg (by decide)]; exact m45, by rw [up_ne (by decide), up_ne (by decide), up_ne (by decide), up_ne (by decide), up_ne (by decide), up_ne (by decide)]; exact PB.1, PB.2.2.2⟩
            generalize up (up M63 0 32 (j + 1)) 0 33 (dep tx j - 1) = B1 at *
            obtain ⟨st, s1, s2, s3, s4, s5, s6⟩ := PS_now hT Q1
            have sm := sp_to (tx := tx) (by omega : 0 ≤ j + 1) s1.1 s3
            obtain ⟨d1, d2, d3, d4, d5, d6, d7, d8, d9, d10⟩ := id s5
            have e2b := ee_b (tx := tx) (p := st) (by omega)
            have kd : ∀ k, p ≤ k → k ≤ st → D ≤ dep tx k := fun k a c => by
              by_cases z : k ≤ j
              · by_cases y : k = p
                · rw [y]; omega
                · have := hdj k (by omega) z; omega
              · have := sp_to (tx := tx) (i := j + 1) (j := k) (by omega) (by omega) (fun x a c => s3 x a (by omega))
                rw [this.1]; omega
            refine k_aload_n C dX11_bracket_127 rfl rfl ?_
            refine k_callV C okX11_223 dX11_bracket_128 (c_M_now bl B1 (by rw [Q1.2.1, Q1.1.e.2]; omega)) rfl rfl (by decide) rfl ⟨rfl, rfl, by show 0 + 1 ≤ 3 + 2 * e; omega, by show 8 + (1 + 11) + 64 * (0) ≤ 64 * (3 + 2 * e); omega⟩ rfl (Nat.le_of_ble_eq_true rfl) (fun r128 M128 hr128 hp128 => ?_)
            obtain ⟨z128, hq128⟩ := hp128
            rw [s2] at z128
            rw [s6] at hq128
            subst z128
            subst hq128
            refine k_bipush C dX11_bracket_131 (by decide) ?_
            refine k_icmp_ne C (tgt := 162) dX11_bracket_133 rfl (by omega) (by omega) (fun c133 => ?_) (fun c133 => ?_)
            · refine k_iload_n C dX11_bracket_162 rfl rfl ?_
              exact k_iret C dX11_bracket_163 (by omega) (fun _ => by
           first
           | (have stn2 : ¬ (st < M 0 31 ∧ tx st = 42) := fun z => by rw [if_pos z.1] at c133; exact c133 z.2
              refine Or.inl ⟨st, by omega, s5, by rw [sm.2.2.2.2, fsj], by rw [sm.1]; omega, kd, fun x a c f g => ?_⟩
              exfalso
              by_cases z : x = st
              · rw [z] at c g; exact stn2 ⟨c, g⟩
              · exact s4 (by omega) (f st (Int.le_refl _) (by omega)))
           | (have ds2 := dep_s (tx := tx) (p := st) (by omega)
              have ss2 := sta_s (tx := tx) (p := st) (by omega)
              have fs2 := fi_s (tx := tx) (p := st) (by omega)
              have es2 := ee_s (tx := tx) (p := st) (by omega)
              have cs2 := cnt_s (tx := tx) (p := st) (by omega)
              rw [if_neg (by omega), if_neg (by omega)] at ds2 ss2 cs2
              rw [if_neg (by omega), if_neg (by omega), if_neg (by omega), if_neg (by omega)] at fs2
              rw [if_pos c133] at es2
              have fld : ∀ x, x ≠ 43 → M159 0 x = up (up B1 0 32 st) 0 32 (st + 1) 0 x := fun x hx => by rw [l1, if_neg hx, k1, if_neg hx]
              refine Or.inl ⟨st + 1, by omega, ⟨W159, by rw [fld 32 (by decide)]; exact up_same, by omega, by rw [fld 33 (by decide), h1 33 (by decide), ds2, d4]; omega, by omega, by rw [l1, if_pos rfl, es2]; omega, by rw [fld 44 (by decide), h1 44 (by decide), cs2, d7]; omega, by rw [fld 45 (by decide), h1 45 (by decide)]; exact d8, PZ_s (PZ_ext d9 (fun x a c => ⟨?_, ?_, ?_⟩)) (by omega) ⟨fun l => by unfold isL at l; omega, fun l => by omega, fun l => by omega, fun _ => ⟨j, b3.1, by omega, c97, fun x a c => s3 x (by omega) c, ?_, ?_⟩⟩, SC_s d10 ⟨by omega, stn⟩ (Or.inr (Or.inr (Or.inr (Or.inl ⟨c133, by rw [sm.2.1]; exact ssj⟩))))⟩, by rw [fs2, sm.2.2.2.2, fsj], by rw [ds2, sm.1]; omega, fun k a c => ?_, fun x _ _ _ _ => ss2⟩
              · rw [l2, if_neg (by omega), k2, if_neg (by omega), up_ne (by decide)]
              · rw [l3, if_neg (by omega), k3, if_neg (by omega), up_ne (by decide)]
              · rw [l4, if_neg (by omega), k4, if_neg (by omega), up_ne (by decide)]
              · rw [hop]; exact ⟨by rw [l2, if_neg (by omega), k2, if_pos rfl], by rw [l3, if_neg (by omega), k3, if_pos rfl], by rw [l4, if_neg (by omega), k4, if_pos rfl]⟩
              · rw [hop]; exact ⟨by rw [l2, if_pos rfl], by rw [l3, if_pos rfl], by rw [l4, if_pos rfl]⟩
              · by_cases z : k = st + 1
                · rw [z, ds2, sm.1]; omega
                · exact kd k a (by omega)))
            · have stn : st < M 0 31 := by by_cases z : st < M 0 31; exact z; (rw [if_neg z] at c133; omega)
              rw [if_pos stn] at c133
              refine k_aload_n C dX11_bracket_136 rfl rfl ?_
              refine k_dup C dX11_bracket_137 ?_
              refine k_getJ C 32 32 rfl okC11 rfl (by decide) (by decide) rfl flX11_207 dX11_bracket_138 (fun ld138 => ?_)
              rw [d2]
              refine k_iconst C dX11_bracket_141 ?_
              refine k_iadd C dX11_bracket_142 ?_
              refine k_putJ C 32 32 rfl okC11 rfl (by decide) (by decide) rfl rfl rfl (by omega) flX11_207 dX11_bracket_143 ?_
              have h1 : ∀ x, x ≠ 32 → up (up B1 0 32 st) 0 32 (st + 1) 0 x = up B1 0 32 st 0 x := fun x hx => by rw [up_at, if_neg hx]
              have h43 : up (up B1 0 32 st) 0 32 (st + 1) 0 43 = ee tx st := by rw [h1 43 (by decide)]; exact d6
              refine k_aload_n C dX11_bracket_146 rfl rfl ?_
              refine k_iload_n C dX11_bracket_147 rfl rfl ?_
              refine k_iload_n C dX11_bracket_148 rfl rfl ?_
              refine k_bipush C dX11_bracket_149 (by decide) ?_
              refine k_callV C okX11_230 dX11_bracket_151 (c_M_add bl (up (up B1 0 32 st) 0 32 (st + 1)) (by rw [h43]; omega) (cnt tx p) (cnt tx p + 1) 8 (by omega) (by omega) (by decide)) rfl rfl (by decide) rfl ⟨rfl, rfl, by show 0 + 1 ≤ 3 + 2 * e; omega, by show 8 + (4 + 11) + 64 * (0) ≤ 64 * (3 + 2 * e); omega⟩ rfl (Nat.le_of_ble_eq_true rfl) (fun r151 M151 hr151 hp151 => ?_)
              obtain ⟨k0, k1, k2, k3, k4⟩ := adM_f (M := up (up B1 0 32 st) 0 32 (st + 1)) (a := cnt tx p) (b := cnt tx p + 1) (c := 8)
              rw [← hp151] at k0 k1 k2 k3 k4
              rw [h43] at k1 k2 k3 k4
              have W151 : RdW M M151 := by rw [hp151]; exact (d1.a (by decide)).ad
              refine k_aload_n C dX11_bracket_154 rfl rfl ?_
              refine k_iload_n C dX11_bracket_155 rfl rfl ?_
              refine k_iload_n C dX11_bracket_156 rfl rfl ?_
              refine k_bipush C dX11_bracket_157 (by decide) ?_
              refine k_callV C okX11_230 dX11_bracket_159 (c_M_add bl M151 (by rw [k1, if_pos rfl]; omega) (cnt tx p + 1) (cnt tx p) 8 (by omega) (by omega) (by decide)) rfl rfl (by decide) rfl ⟨rfl, rfl, by show 0 + 1 ≤ 3 + 2 * e; omega, by show 8 + (4 + 11) + 64 * (0) ≤ 64 * (3 + 2 * e); omega⟩ rfl (Nat.le_of_ble_eq_true rfl) (fun r159 M159 hr159 hp159 => ?_)
              obtain ⟨l0, l1, l2, l3, l4⟩ := adM_f (M := M151) (a := cnt tx p + 1) (b := cnt tx p) (c := 8)
              rw [← hp159] at l0 l1 l2 l3 l4
              have e43 : M151 0 43 = ee tx st + 1 := by rw [k1, if_pos rfl]
              rw [e43] at l1 l2 l3 l4
              have W159 : RdW M M159 := by rw [hp159]; exact W151.ad
              refine k_iload_n C dX11_bracket_162 rfl rfl ?_
              exact k_iret C dX11_bracket_163 (by omega) (fun _ => by
           first
           | (have stn2 : ¬ (st < M 0 31 ∧ tx st = 42) := fun z => by rw [if_pos z.1] at c133; exact c133 z.2
              refine Or.inl ⟨st, by omega, s5, by rw [sm.2.2.2.2, fsj], by rw [sm.1]; omega, kd, fun x a c f g => ?_⟩
              exfalso
              by_cases z : x = st
              · rw [z] at c g; exact stn2 ⟨c, g⟩
              · exact s4 (by omega) (f st (Int.le_refl _) (by omega)))
           | (have ds2 := dep_s (tx := tx) (p := st) (by omega)
              have ss2 := sta_s (tx := tx) (p := st) (by omega)
              have fs2 := fi_s (tx := tx) (p := st) (by omega)
              have es2 := ee_s (tx := tx) (p := st) (by omega)
              have cs2 := cnt_s (tx := tx) (p := st) (by omega)
              rw [if_neg (by omega), if_neg (by omega)] at ds2 ss2 cs2
              rw [if_neg (by omega), if_neg (by omega), if_neg (by omega), if_neg (by omega)] at fs2
              rw [if_pos c133] at es2
              have fld : ∀ x, x ≠ 43 → M159 0 x = up (up B1 0 32 st) 0 32 (st + 1) 0 x := fun x hx => by rw [l1, if_neg hx, k1, if_neg hx]
              refine Or.inl ⟨st + 1, by omega, ⟨W159, by rw [fld 32 (by decide)]; exact up_same, by omega, by rw [fld 33 (by decide), h1 33 (by decide), ds2, d4]; omega, by omega, by rw [l1, if_pos rfl, es2]; omega, by rw [fld 44 (by decide), h1 44 (by decide), cs2, d7]; omega, by rw [fld 45 (by decide), h1 45 (by decide)]; exact d8, PZ_s (PZ_ext d9 (fun x a c => ⟨?_, ?_, ?_⟩)) (by omega) ⟨fun l => by unfold isL at l; omega, fun l => by omega, fun l => by omega, fun _ => ⟨j, b3.1, by omega, c97, fun x a c => s3 x (by omega) c, ?_, ?_⟩⟩, SC_s d10 ⟨by omega, stn⟩ (Or.inr (Or.inr (Or.inr (Or.inl ⟨c133, by rw [sm.2.1]; exact ssj⟩))))⟩, by rw [fs2, sm.2.2.2.2, fsj], by rw [ds2, sm.1]; omega, fun k a c => ?_, fun x _ _ _ _ => ss2⟩
              · rw [l2, if_neg (by omega), k2, if_neg (by omega), up_ne (by decide)]
              · rw [l3, if_neg (by omega), k3, if_neg (by omega), up_ne (by decide)]
              · rw [l4, if_neg (by omega), k4, if_neg (by omega), up_ne (by decide)]
              · rw [hop]; exact ⟨by rw [l2, if_neg (by omega), k2, if_pos rfl], by rw [l3, if_neg (by omega), k3, if_pos rfl], by rw [l4, if_neg (by omega), k4, if_pos rfl]⟩
              · rw [hop]; exact ⟨by rw [l2, if_pos rfl], by rw [l3, if_pos rfl], by rw [l4, if_pos rfl]⟩
              · by_cases z : k = st + 1
                · rw [z, ds2, sm.1]; omega
                · exact kd k a (by omega)))
          · refine k_aload_n C dX11_bracket_100 rfl rfl ?_
            refine k_iconst C dX11_bracket_101 ?_
            refine k_putB C 45 45 rfl okC11 rfl (by decide) (by decide) rfl rfl rfl (by omega) flX11_219 dX11_bracket_102 ?_
            refine k_iload_n C dX11_bracket_105 rfl rfl ?_
            exact k_iret C dX11_bracket_106 (by omega) (fun _ => by
           refine Or.inr ⟨W63.a (by decide), up_same, ?_, by rw [up_at, if_neg (by decide), m32]; omega, by rw [up_at, if_neg (by decide), m43]; omega⟩
           rw [up_at, if_neg (by decide), m32]
           by_cases z : j < M 0 31
           · rw [if_pos z] at c79 c97
             have u := j6 z
             refine SC_bad b10 ⟨b3.1, z⟩ u.1 (fun mp => ?_)
             unfold isL at u
             rcases mp with v | v | v | v
             · omega
             · omega
             · have := u.2.2.2 v.1; omega
             · exact u.2.2.1 v
           · have ej : j = M 0 31 := by omega
             rw [ej] at b10
             rw [SC_end b10, ← ej, if_neg (by omega)])
        · exfalso; omega
  · refine k_iload_n C dX11_bracket_60 rfl rfl ?_
    refine k_bipush C dX11_bracket_61 (by decide) ?_
    refine k_callV C okX11_230 dX11_bracket_63 (c_M_add bl M57 (by have := w.2.2.2.2; omega) r57 (cnt tx p + 1) 8 (by omega) (by omega) (by decide)) rfl rfl (by decide) rfl ⟨rfl, rfl, by show 0 + 1 ≤ 3 + 2 * e; omega, by show 8 + (4 + 11) + 64 * (0) ≤ 64 * (3 + 2 * e); omega⟩ rfl (Nat.le_of_ble_eq_true rfl) (fun r63 M63 hr63 hp63 => ?_)
    obtain ⟨g0, g1, g2, g3, g4⟩ := adM_f (M := M57) (a := r57) (b := cnt tx p + 1) (c := 8)
    rw [← hp63] at g0 g1 g2 g3 g4
    have m45 : M63 0 45 = 1 := by rw [g1, if_neg (by decide)]; exact w.2.1
    refine k_aload_n C dX11_bracket_66 rfl rfl ?_
    refine k_getJ C 45 45 rfl okC11 rfl (by decide) (by decide) rfl flX11_219 dX11_bracket_67 (fun ld67 => ?_)
    rw [m45] at ld67 ⊢
    refine k_if_ne C (tgt := 82) dX11_bracket_70 rfl (by omega) (fun c70 => ?_) (fun c70 => ?_)
    · refine k_aload_n C dX11_bracket_82 rfl rfl ?_
      refine k_getJ C 45 45 rfl okC11 rfl (by decide) (by decide) rfl flX11_219 dX11_bracket_83 (fun ld83 => ?_)
      rw [m45] at ld83 ⊢
      refine k_if_eq C (tgt := 91) dX11_bracket_86 rfl (by omega) (fun c86 => ?_) (fun c86 => ?_)
      · exfalso; omega
      · refine k_iload_n C dX11_bracket_89 rfl rfl ?_
        exact k_iret C dX11_bracket_90 (by omega) (fun _ => Or.inr ⟨by rw [hp63]; exact w.1.ad, m45, by rw [g1, if_neg (by decide)]; exact w.2.2.1, by rw [g1, if_neg (by decide)]; exact w.2.2.2.1, by rw [g1, if_pos rfl]; have := w.2.2.2.2; omega⟩)
    · exfalso; omega
termination_by (M 0 31 - q).toNat
decreasing_by all_goals omega
set_option maxHeartbeats 4000000 in
set_option maxRecDepth 100000 in
theorem c_brkS (bl : Nat) (tx : Int → Int) (M : Mem) (hT : TxM M tx) (e : Nat) (D : Int) (hD : D = 10 - (e + 1 : Nat)) (he : e ≤ 9) (ir : ∀ (N : Mem) (i : Int), PS tx M N i → dep tx i = D + 1 → NSt tx (M 0 31) i → Ct (shM bl) nM yX11_reads cX11_reads 5 (some .int) (lvl (2 + 2 * e)) [.inr 0, .inl (fi tx i)] N (fun r M' => RdP tx M M' i (D + 1) r)) (p : Int) (hp : 0 ≤ p ∧ p < M 0 31) (tp : tx p = 40) (hd : dep tx p = D) (N : Mem) (hP : PS tx M N p) : Ct (shM bl) nM yX11_bracket cX11_bracket 4 (some .int) (lvl (3 + 2 * e)) [.inr 0, .inl (fi tx p)] N (fun r M' => RbP tx M M' p D r) := by
  refine Ct_of (by decide +kernel) (Nat.le_of_ble_eq_true rfl) (fun K C => ?_)
  have t1 := hT.1
  have cb := cnt_b (tx := tx) hp.1
  have fb := fi_b (tx := tx) (i := p) (by omega)
  obtain ⟨b1, b2, b3, b4, b5, b6, b7, b8, b9, b10⟩ := id hP
  have eb := ee_b (tx := tx) hp.1
  have dsp := dep_s (tx := tx) hp.1
  have ssp := sta_s (tx := tx) hp.1
  have fsp := fi_s (tx := tx) hp.1
  have esp := ee_s (tx := tx) hp.1
  have csp := cnt_s (tx := tx) hp.1
  rw [if_pos tp] at dsp fsp csp
  rw [if_neg (by omega), if_neg (by omega)] at ssp esp
  refine k_aload_n C dX11_bracket_0 rfl rfl ?_
  refine k_getJ C 33 33 rfl okC11 rfl (by decide) (by decide) rfl flX11_237 dX11_bracket_1 (fun ld1 => ?_)
  rw [b4] at ld1 ⊢
  refine k_bipush C dX11_bracket_4 (by decide) ?_
  refine k_icmp_ne C (tgt := 16) dX11_bracket_6 rfl (by omega) (by omega) (fun c6 => ?_) (fun c6 => ?_)
  · refine k_aload_n C dX11_bracket_16 rfl rfl ?_
    refine k_dup C dX11_bracket_17 ?_
    refine k_getJ C 33 33 rfl okC11 rfl (by decide) (by decide) rfl flX11_237 dX11_bracket_18 (fun ld18 => ?_)
    rw [b4]
    refine k_iconst C dX11_bracket_21 ?_
    refine k_iadd C dX11_bracket_22 ?_
    refine k_putJ C 33 33 rfl okC11 rfl (by decide) (by decide) rfl rfl rfl (by omega) flX11_237 dX11_bracket_23 ?_
    have u : ∀ x, x ≠ 33 → up N 0 33 (dep tx p + 1) 0 x = N 0 x := fun x hx => by rw [up_at, if_neg hx]
    refine k_aload_n C dX11_bracket_26 rfl rfl ?_
    refine k_callV C okX11_227 dX11_bracket_27 (c_M_state bl (up N 0 33 (dep tx p + 1)) (by rw [u 44 (by decide), b7]; omega)) rfl rfl (by decide) rfl ⟨rfl, rfl, by show 0 + 1 ≤ 3 + 2 * e; omega, by show 8 + (1 + 11) + 64 * (0) ≤ 64 * (3 + 2 * e); omega⟩ rfl (Nat.le_of_ble_eq_true rfl) (fun r27 M27 hr27 hp27 => ?_)
    obtain ⟨hq27, z27⟩ := hp27
    rw [u 44 (by decide), b7] at hq27 z27
    have q44 : M27 0 44 = cnt tx p + 1 := by rw [z27]; exact up_same
    subst hq27
    refine k_istore_n C dX11_bracket_30 rfl (by decide) ?_
    refine k_aload_n C dX11_bracket_31 rfl rfl ?_
    refine k_callV C okX11_227 dX11_bracket_32 (c_M_state bl M27 (by rw [q44]; omega)) rfl rfl (by decide) rfl ⟨rfl, rfl, by show 0 + 1 ≤ 3 + 2 * e; omega, by show 8 + (1 + 11) + 64 * (0) ≤ 64 * (3 + 2 * e); omega⟩ rfl (Nat.le_of_ble_eq_true rfl) (fun r32 M32 hr32 hp32 => ?_)
    obtain ⟨hq32, z32⟩ := hp32
    rw [q44] at hq32 z32
    subst hq32
    have q43 : M32 0 43 = ee tx p := by rw [z32, up_at, if_neg (by decide), z27, up_at, if_neg (by decide), u 43 (by decide)]; exact b6
    refine k_istore_n C dX11_bracket_35 rfl (by decide) ?_
    refine k_aload_n C dX11_bracket_36 rfl rfl ?_
    refine k_iload_n C dX11_bracket_37 rfl rfl ?_
    refine k_iload_n C dX11_bracket_38 rfl rfl ?_
    refine k_bipush C dX11_bracket_39 (by decide) ?_
    refine k_callV C okX11_230 dX11_bracket_41 (c_M_add bl M32 (by rw [q43]; omega) (fi tx p) (cnt tx p) 8 (by omega) (by omega) (by decide)) rfl rfl (by decide) rfl ⟨rfl, rfl, by show 0 + 1 ≤ 3 + 2 * e; omega, by show 8 + (4 + 11) + 64 * (0) ≤ 64 * (3 + 2 * e); omega⟩ rfl (Nat.le_of_ble_eq_true rfl) (fun r41 M41 hr41 hp41 => ?_)
    obtain ⟨g0, g1, g2, g3, g4⟩ := adM_f (M := M32) (a := fi tx p) (b := cnt tx p) (c := 8)
    rw [← hp41] at g0 g1 g2 g3 g4
    rw [q43] at g1 g2 g3 g4
    refine k_cut2 C (lv' := [(0, _), (1, _), (2, _), (3, _)]) ⟨rfl, rfl, rfl, rfl, trivial⟩ ?_
    have W41 : RdW M M41 := by rw [hp41, z32, z27]; exact (((b1.a (by decide)).a (by decide)).a (by decide)).ad
    have f0 : ∀ x, x ≠ 43 → x ≠ 44 → x ≠ 33 → M41 0 x = N 0 x := fun x p1 p2 p3 => by rw [g1, if_neg p1, z32, up_at, if_neg p2, z27, up_at, if_neg p2, u x p3]
    have f33 : M41 0 33 = dep tx p + 1 := by rw [g1, if_neg (by decide), z32, up_at, if_neg (by decide), z27, up_at, if_neg (by decide)]; exact up_same
    have f44 : M41 0 44 = cnt tx p + 1 + 1 := by rw [g1, if_neg (by decide), z32]; exact up_same
    have cc : ∀ x, x ≠ 0 → M32 x = N x := fun x hx => by rw [z32, up_ne hx, z27, up_ne hx, up_ne hx]
    refine m_brk bl tx M hT e D hD he ir p hp tp hd C M41 p ⟨by omega, by rw [f0 32 (by decide) (by decide) (by decide)]; exact b2⟩ ⟨W41.a (by decide), up_same, by omega, by rw [up_at, if_neg (by decide), f33, dsp], by omega, by rw [up_at, if_neg (by decide), g1, if_pos rfl, esp], by rw [up_at, if_neg (by decide), f44, csp]; omega, by rw [up_at, if_neg (by decide), f0 45 (by decide) (by decide) (by decide)]; exact b8, ?_, SC_s b10 hp (Or.inr (Or.inl ⟨tp, by omega⟩))⟩ fsp (by omega) (fun k a c => by rw [show k = p + 1 by omega]; omega) ssp
    rw [up_ne (by decide), up_ne (by decide), up_ne (by decide)]
    exact PZ_s (PZ_ext b9 (fun x a c => ⟨by rw [g2, if_neg (by omega), cc 28 (by decide)], by rw [g3, if_neg (by omega), cc 29 (by decide)], by rw [g4, if_neg (by omega), cc 30 (by decide)]⟩)) hp.1 ⟨fun l => by unfold isL at l; omega, fun _ => ⟨by rw [g2, if_pos rfl], by rw [g3, if_pos rfl], by rw [g4, if_pos rfl]⟩, fun l => by omega, fun l => by omega⟩
  · exfalso; omega
set_option maxHeartbeats 4000000 in
set_option maxRecDepth 100000 in
theorem c_brk0 (bl : Nat) (tx : Int → Int) (M : Mem) (hT : TxM M tx) (p : Int) (hp : 0 ≤ p ∧ p < M 0 31) (tp : tx p = 40) (hd : dep tx p = 10) (N : Mem) (hP : PS tx M N p) : Ct (shM bl) nM yX11_bracket cX11_bracket 4 (some .int) (lvl (1 + 2 * 0)) [.inr 0, .inl (fi tx p)] N (fun r M' => RbP tx M M' p 10 r) := by
  refine Ct_of (by decide +kernel) (Nat.le_of_ble_eq_true rfl) (fun K C => ?_)
  have t1 := hT.1
  have fb := fi_b (tx := tx) (i := p) (by omega)
  have eb := ee_b (tx := tx) hp.1
  obtain ⟨b1, b2, b3, b4, b5, b6, b7, b8, b9, b10⟩ := id hP
  refine k_aload_n C dX11_bracket_0 rfl rfl ?_
  refine k_getJ C 33 33 rfl okC11 rfl (by decide) (by decide) rfl flX11_237 dX11_bracket_1 (fun ld1 => ?_)
  rw [b4] at ld1 ⊢
  refine k_bipush C dX11_bracket_4 (by decide) ?_
  refine k_icmp_ne C (tgt := 16) dX11_bracket_6 rfl (by omega) (by omega) (fun c6 => ?_) (fun c6 => ?_)
  · exfalso; omega
  · refine k_aload_n C dX11_bracket_9 rfl rfl ?_
    refine k_iconst C dX11_bracket_10 ?_
    refine k_putB C 45 45 rfl okC11 rfl (by decide) (by decide) rfl rfl rfl (by omega) flX11_219 dX11_bracket_11 ?_
    refine k_iload_n C dX11_bracket_14 rfl rfl ?_
    exact k_iret C dX11_bracket_15 (by omega) (fun _ => by
      refine Or.inr ⟨b1.a (by decide), up_same, ?_, by rw [up_at, if_neg (by decide), b2]; omega, by rw [up_at, if_neg (by decide), b6]; omega⟩
      rw [up_at, if_neg (by decide), b2]
      exact SC_bad b10 hp (by omega) (fun mp => by
        rcases mp with v | v | v | v <;> omega))
set_option maxHeartbeats 4000000 in
set_option maxRecDepth 100000 in
theorem c_reads (bl : Nat) (tx : Int → Int) (M : Mem) (hT : TxM M tx) : ∀ (e : Nat), e ≤ 10 → ∀ (N : Mem) (i : Int), PS tx M N i → dep tx i = 10 - e → NSt tx (M 0 31) i → Ct (shM bl) nM yX11_reads cX11_reads 5 (some .int) (lvl (2 + 2 * e)) [.inr 0, .inl (fi tx i)] N (fun r M' => RdP tx M M' i (10 - e) r)
  | 0, he, N, i, hP, hd, hn => by
    refine Ct_of (by decide +kernel) (Nat.le_of_ble_eq_true rfl) (fun K C => ?_)
    refine k_iload_n C dX11_reads_0 rfl rfl ?_
    refine k_istore_n C dX11_reads_1 rfl (by decide) ?_
    refine k_cut2 C (lv' := [(0, _), (1, _), (2, _)]) ⟨rfl, rfl, rfl, trivial⟩ ?_
    exact m_reads bl tx M hT 0 (10 - (0 : Nat)) rfl (fun N p h1 h2 h3 h4 => c_brk0 bl tx M hT p ⟨h1.2.2.1.1, h2⟩ h3 h4 N h1) i (fi tx i) C N i hP ⟨hP.2.2.1.1, Int.le_refl i⟩ hd (fun k a c => by rw [show k = i by omega]; omega) hn
  | e + 1, he, N, i, hP, hd, hn => by
    refine Ct_of (by decide +kernel) (Nat.le_of_ble_eq_true rfl) (fun K C => ?_)
    refine k_iload_n C dX11_reads_0 rfl rfl ?_
    refine k_istore_n C dX11_reads_1 rfl (by decide) ?_
    refine k_cut2 C (lv' := [(0, _), (1, _), (2, _)]) ⟨rfl, rfl, rfl, trivial⟩ ?_
    refine m_reads bl tx M hT (e + 1) (10 - ((e + 1 : Nat) : Int)) rfl (fun N p h1 h2 h3 h4 => ?_) i (fi tx i) C N i hP ⟨hP.2.2.1.1, Int.le_refl i⟩ hd (fun k a c => by rw [show k = i by omega]; omega) hn
    have z := c_brkS bl tx M hT e (10 - ((e + 1 : Nat) : Int)) rfl (by omega) (fun N2 i2 q1 q2 q3 => by have y := c_reads bl tx M hT e (by omega) N2 i2 q1 (by omega) q3; rw [show (10 : Int) - e = 10 - ((e + 1 : Nat) : Int) + 1 by omega] at y; exact y) p ⟨h1.2.2.1.1, h2⟩ h3 h4 N h1
    rw [show 3 + 2 * e = 1 + 2 * (e + 1) by omega] at z
    exact z
