/-! UsageDesk$Routine: closeBracket, replaceBy -/
theorem as_nxt {tx sE : Int → Int} {n : Int} (hG : GT tx n) {r x : Int} (hr : 0 ≤ r ∧ r < n) (tr : tx r = 41) (hE : ∀ y, 0 ≤ y → y ≤ r → (tx y = 124 ∨ tx y = 41) → sE (ls tx (dep tx y - 1) y) = y) (hx : AS tx (opn tx r) x) (hlt : x < r) : ∀ (N : Nat) (y : Int), y < N → x < y → y ≤ r → (AS tx (opn tx r) y ∨ y = r) → x < sE x
  | 0, y, a, b, c, d => by
    exfalso
    have o := (opn_ok hG hr (Or.inr tr)).1
    rcases d with (d | d) | d
    · omega
    · have := d.2.2.2; omega
    · omega
  | N + 1, y, a, b, c, d => by
    have o := (opn_ok hG hr (Or.inr tr)).1
    have x0 : opn tx r ≤ x := by
      rcases hx with z | z
      · omega
      · have q := lo_ok (tx := tx) (p := x) (d := dep tx (opn tx r)) z.2.2.2 (by have := (hG.2.2 (opn tx r) o.1 (by omega)).2.1; exact this) (by rw [z.2.1]; omega)
        rw [z.2.2.1] at q; omega
    have ty : tx y = 124 ∨ tx y = 41 := by
      rcases d with (d | d) | d
      · omega
      · exact Or.inl d.1
      · rw [d]; exact Or.inr tr
    have y0 : 0 ≤ y := by omega
    have oy : opn tx y = opn tx r := by
      rcases d with d | d
      · rcases ty with w | w
        · exact opn_as hG hr (Or.inr tr) d w
        · rcases d with d | d
          · omega
          · omega
      · rw [d]
    have le := as_le hG (r := y) (x := x) ⟨y0, by omega⟩ ty (by rw [oy]; exact hx) b
    by_cases z : x = ls tx (dep tx y - 1) y
    · rw [z, hE y y0 c ty, ← z]; exact b
    · have l1 := ls_ok (tx := tx) (p := y) (d := dep tx y - 1) y0 (by have := hG.2.2 y y0 (by omega); omega) (by omega)
      have as2 := as_ls hG (r := y) ⟨y0, by omega⟩ ty
      rw [oy] at as2
      exact as_nxt hG hr tr hE hx hlt N (ls tx (dep tx y - 1) y) (by omega) (by omega) (by omega) (Or.inl as2)
theorem chn_ge {tx sE : Int → Int} {n : Int} (hG : GT tx n) {r : Int} (hr : 0 ≤ r ∧ r < n) (tr : tx r = 41) (hE : ∀ y, 0 ≤ y → y ≤ r → (tx y = 124 ∨ tx y = 41) → sE (ls tx (dep tx y - 1) y) = y) {K0 : Nat} (h2 : ∀ j : Nat, j < K0 → chn sE (opn tx r) j < r ∧ AS tx (opn tx r) (chn sE (opn tx r) j)) : ∀ k : Nat, k ≤ K0 → opn tx r + k ≤ chn sE (opn tx r) k
  | 0, _ => by show opn tx r + ((0 : Nat) : Int) ≤ opn tx r; omega
  | k + 1, hk => by
    have ih := chn_ge hG hr tr hE h2 k (by omega)
    have q := h2 k (by omega)
    have := as_nxt hG hr tr hE q.2 q.1 (r.toNat + 1) r (by omega) q.1 (Int.le_refl r) (Or.inr rfl)
    show opn tx r + ((k + 1 : Nat) : Int) ≤ sE (chn sE (opn tx r) k)
    omega
def CbP (M N : Mem) (r : Int) : Prop := (∀ j, j ≠ 34 → j ≠ 35 → j ≠ 36 → N j = M j) ∧ N 34 r = opn (M 32) r ∧ (∀ x, AS (M 32) (opn (M 32) r) x → x < r → N 34 x = r) ∧ (∀ x, x ≠ r → ¬ (AS (M 32) (opn (M 32) r) x ∧ x < r) → N 34 x = M 34 x) ∧ ((N 36 r = 1 ∧ ∃ st, stA (M 32) (M 31 7) r st ∧ N 35 r = st + 1) ∨ (N 36 r = 0 ∧ N 35 r = r + 1 ∧ ∀ st, ¬ stA (M 32) (M 31 7) r st)) ∧ ∀ x, x ≠ r → N 35 x = M 35 x ∧ N 36 x = M 36 x
set_option maxHeartbeats 4000000 in
set_option maxRecDepth 100000 in
theorem l_cb2 {K : Kt} (M : Mem) (hG : GT (M 32) (M 31 7)) (r : Int) (hr : 0 ≤ r ∧ r < M 31 7) (tr : M 32 r = 41) (hE : ∀ y, 0 ≤ y → y ≤ r → (M 32 y = 124 ∨ M 32 y = 41) → M 33 (ls (M 32) (dep (M 32) y - 1) y) = y) (C : Ctx shC nC RX8 cX8_closeBracket 5 none (lvl 0) (fun _ M' => CbP M M' r) K) (N : Mem) (hF : (∀ j, j ≠ 34 → N j = M j) ∧ N 34 r = opn (M 32) r ∧ (∀ x, AS (M 32) (opn (M 32) r) x → x < r → N 34 x = r) ∧ (∀ x, x ≠ r → ¬ (AS (M 32) (opn (M 32) r) x ∧ x < r) → N 34 x = M 34 x)) (st : Int) (hs : r < st ∧ st ≤ M 31 7) (hI : ∀ j, r < j → j < st → M 32 j = 32) : K 55 [(0, .inr 31), (1, .inl (opn (M 32) r)), (2, .inl r), (4, .inl st)] [] N := by
  have t1 := hG.1
  have n31 := hF.1 31 (by decide)
  have n32 := hF.1 32 (by decide)
  refine k_iload C dX8_closeBracket_55 rfl ?_
  refine k_aload_n C dX8_closeBracket_57 rfl rfl ?_
  refine k_getJ C 7 7 rfl okC8 rfl (by decide) (by decide) rfl flX8_38 dX8_closeBracket_58 (fun ld58 => ?_)
  rw [n31] at ld58 ⊢
  refine k_icmp_ge C (tgt := 82) dX8_closeBracket_61 rfl (by omega) (by omega) (fun c61 => ?_) (fun c61 => ?_)
  · refine k_aload_n C dX8_closeBracket_82 rfl rfl ?_
    refine k_getR C (j := 4) okC8 rfl (by decide) (by decide) rfl flX8_24 dX8_closeBracket_83 ?_
    refine k_iload_n C dX8_closeBracket_86 rfl rfl ?_
    refine k_iload C dX8_closeBracket_87 rfl ?_
    refine k_aload_n C dX8_closeBracket_89 rfl rfl ?_
    refine k_getJ C 7 7 rfl okC8 rfl (by decide) (by decide) rfl flX8_38 dX8_closeBracket_90 (fun ld90 => ?_)
    rw [n31] at ld90 ⊢
    refine k_icmp_ge C (tgt := 112) dX8_closeBracket_93 rfl (by omega) (by omega) (fun c93 => ?_) (fun c93 => ?_)
    · refine k_iconst C dX8_closeBracket_112 ?_
      refine k_zastore C rfl (by decide) (by decide) ⟨by omega, by omega⟩ (by omega) dX8_closeBracket_113 ?_
      refine k_aload_n C dX8_closeBracket_114 rfl rfl ?_
      refine k_getR C (j := 3) okC8 rfl (by decide) (by decide) rfl flX8_21 dX8_closeBracket_115 ?_
      refine k_iload_n C dX8_closeBracket_118 rfl rfl ?_
      refine k_aload_n C dX8_closeBracket_119 rfl rfl ?_
      refine k_getR C (j := 4) okC8 rfl (by decide) (by decide) rfl flX8_24 dX8_closeBracket_120 ?_
      refine k_iload_n C dX8_closeBracket_123 rfl rfl ?_
      refine k_zaload C rfl (by decide) (by decide) ⟨by omega, by omega⟩ dX8_closeBracket_124 (fun ld124 => ?_)
      rw [up_same]
      refine k_if_eq C (tgt := 135) dX8_closeBracket_125 rfl (by omega) (fun c125 => ?_) (fun c125 => ?_)
      · refine k_iload_n C dX8_closeBracket_135 rfl rfl ?_
        refine k_iconst C dX8_closeBracket_136 ?_
        refine k_iadd C dX8_closeBracket_137 ?_
        refine k_iastore C rfl (by decide) (by decide) ⟨by omega, by omega⟩ (by omega) dX8_closeBracket_138 ?_
        exact k_vret C dX8_closeBracket_139 (fun _ => by
        first
        | (exfalso; omega)
        | (refine ⟨fun j a b c => by rw [up_ne b, up_ne c]; exact hF.1 j a, by rw [up_ne (by decide), up_ne (by decide)]; exact hF.2.1, by rw [up_ne (by decide), up_ne (by decide)]; exact hF.2.2.1, by rw [up_ne (by decide), up_ne (by decide)]; exact hF.2.2.2, Or.inl ⟨by rw [up_ne (by decide)]; exact up_same, st, ⟨by omega, by omega, by omega, hI⟩, up_same⟩, fun x hx => ?_⟩
           rw [up_at, if_neg hx, up_ne (by decide), up_ne (by decide), up_at, if_neg hx, hF.1 35 (by decide), hF.1 36 (by decide)]; exact ⟨rfl, rfl⟩)
        | (refine ⟨fun j a b c => by rw [up_ne b, up_ne c]; exact hF.1 j a, by rw [up_ne (by decide), up_ne (by decide)]; exact hF.2.1, by rw [up_ne (by decide), up_ne (by decide)]; exact hF.2.2.1, by rw [up_ne (by decide), up_ne (by decide)]; exact hF.2.2.2, Or.inr ⟨by rw [up_ne (by decide)]; exact up_same, up_same, fun s2 hs2 => ?_⟩, fun x hx => ?_⟩
           · obtain ⟨s3, s4, s5, s6⟩ := hs2
             rcases Int.lt_trichotomy s2 st with z | z | z
             · have := hI s2 s3 z; omega
             · subst z; omega
             · have := s6 st (by omega) z; omega
           · rw [up_at, if_neg hx, up_ne (by decide), up_ne (by decide), up_at, if_neg hx, hF.1 35 (by decide), hF.1 36 (by decide)]; exact ⟨rfl, rfl⟩))
      · refine k_iload C dX8_closeBracket_128 rfl ?_
        refine k_iconst C dX8_closeBracket_130 ?_
        refine k_iadd C dX8_closeBracket_131 ?_
        refine k_goto C (tgt := 138) dX8_closeBracket_132 rfl ?_
        refine k_iastore C rfl (by decide) (by decide) ⟨by omega, by omega⟩ (by omega) dX8_closeBracket_138 ?_
        exact k_vret C dX8_closeBracket_139 (fun _ => by
        first
        | (exfalso; omega)
        | (refine ⟨fun j a b c => by rw [up_ne b, up_ne c]; exact hF.1 j a, by rw [up_ne (by decide), up_ne (by decide)]; exact hF.2.1, by rw [up_ne (by decide), up_ne (by decide)]; exact hF.2.2.1, by rw [up_ne (by decide), up_ne (by decide)]; exact hF.2.2.2, Or.inl ⟨by rw [up_ne (by decide)]; exact up_same, st, ⟨by omega, by omega, by omega, hI⟩, up_same⟩, fun x hx => ?_⟩
           rw [up_at, if_neg hx, up_ne (by decide), up_ne (by decide), up_at, if_neg hx, hF.1 35 (by decide), hF.1 36 (by decide)]; exact ⟨rfl, rfl⟩)
        | (refine ⟨fun j a b c => by rw [up_ne b, up_ne c]; exact hF.1 j a, by rw [up_ne (by decide), up_ne (by decide)]; exact hF.2.1, by rw [up_ne (by decide), up_ne (by decide)]; exact hF.2.2.1, by rw [up_ne (by decide), up_ne (by decide)]; exact hF.2.2.2, Or.inr ⟨by rw [up_ne (by decide)]; exact up_same, up_same, fun s2 hs2 => ?_⟩, fun x hx => ?_⟩
           · obtain ⟨s3, s4, s5, s6⟩ := hs2
             rcases Int.lt_trichotomy s2 st with z | z | z
             · have := hI s2 s3 z; omega
             · subst z; omega
             · have := s6 st (by omega) z; omega
           · rw [up_at, if_neg hx, up_ne (by decide), up_ne (by decide), up_at, if_neg hx, hF.1 35 (by decide), hF.1 36 (by decide)]; exact ⟨rfl, rfl⟩))
    · refine k_aload_n C dX8_closeBracket_96 rfl rfl ?_
      refine k_getR C (j := 0) okC8 rfl (by decide) (by decide) rfl flX8_9 dX8_closeBracket_97 ?_
      refine k_iload C dX8_closeBracket_100 rfl ?_
      refine k_iaload C rfl (by decide) (by decide) ⟨by omega, by omega⟩ dX8_closeBracket_102 (fun ld102 => ?_)
      rw [n32] at ld102 ⊢
      refine k_bipush C dX8_closeBracket_103 (by decide) ?_
      refine k_icmp_ne C (tgt := 112) dX8_closeBracket_105 rfl (by omega) (by omega) (fun c105 => ?_) (fun c105 => ?_)
      · refine k_iconst C dX8_closeBracket_112 ?_
        refine k_zastore C rfl (by decide) (by decide) ⟨by omega, by omega⟩ (by omega) dX8_closeBracket_113 ?_
        refine k_aload_n C dX8_closeBracket_114 rfl rfl ?_
        refine k_getR C (j := 3) okC8 rfl (by decide) (by decide) rfl flX8_21 dX8_closeBracket_115 ?_
        refine k_iload_n C dX8_closeBracket_118 rfl rfl ?_
        refine k_aload_n C dX8_closeBracket_119 rfl rfl ?_
        refine k_getR C (j := 4) okC8 rfl (by decide) (by decide) rfl flX8_24 dX8_closeBracket_120 ?_
        refine k_iload_n C dX8_closeBracket_123 rfl rfl ?_
        refine k_zaload C rfl (by decide) (by decide) ⟨by omega, by omega⟩ dX8_closeBracket_124 (fun ld124 => ?_)
        rw [up_same]
        refine k_if_eq C (tgt := 135) dX8_closeBracket_125 rfl (by omega) (fun c125 => ?_) (fun c125 => ?_)
        · refine k_iload_n C dX8_closeBracket_135 rfl rfl ?_
          refine k_iconst C dX8_closeBracket_136 ?_
          refine k_iadd C dX8_closeBracket_137 ?_
          refine k_iastore C rfl (by decide) (by decide) ⟨by omega, by omega⟩ (by omega) dX8_closeBracket_138 ?_
          exact k_vret C dX8_closeBracket_139 (fun _ => by
        first
        | (exfalso; omega)
        | (refine ⟨fun j a b c => by rw [up_ne b, up_ne c]; exact hF.1 j a, by rw [up_ne (by decide), up_ne (by decide)]; exact hF.2.1, by rw [up_ne (by decide), up_ne (by decide)]; exact hF.2.2.1, by rw [up_ne (by decide), up_ne (by decide)]; exact hF.2.2.2, Or.inl ⟨by rw [up_ne (by decide)]; exact up_same, st, ⟨by omega, by omega, by omega, hI⟩, up_same⟩, fun x hx => ?_⟩
           rw [up_at, if_neg hx, up_ne (by decide), up_ne (by decide), up_at, if_neg hx, hF.1 35 (by decide), hF.1 36 (by decide)]; exact ⟨rfl, rfl⟩)
        | (refine ⟨fun j a b c => by rw [up_ne b, up_ne c]; exact hF.1 j a, by rw [up_ne (by decide), up_ne (by decide)]; exact hF.2.1, by rw [up_ne (by decide), up_ne (by decide)]; exact hF.2.2.1, by rw [up_ne (by decide), up_ne (by decide)]; exact hF.2.2.2, Or.inr ⟨by rw [up_ne (by decide)]; exact up_same, up_same, fun s2 hs2 => ?_⟩, fun x hx => ?_⟩
           · obtain ⟨s3, s4, s5, s6⟩ := hs2
             rcases Int.lt_trichotomy s2 st with z | z | z
             · have := hI s2 s3 z; omega
             · subst z; omega
             · have := s6 st (by omega) z; omega
           · rw [up_at, if_neg hx, up_ne (by decide), up_ne (by decide), up_at, if_neg hx, hF.1 35 (by decide), hF.1 36 (by decide)]; exact ⟨rfl, rfl⟩))
        · refine k_iload C dX8_closeBracket_128 rfl ?_
          refine k_iconst C dX8_closeBracket_130 ?_
          refine k_iadd C dX8_closeBracket_131 ?_
          refine k_goto C (tgt := 138) dX8_closeBracket_132 rfl ?_
          refine k_iastore C rfl (by decide) (by decide) ⟨by omega, by omega⟩ (by omega) dX8_closeBracket_138 ?_
          exact k_vret C dX8_closeBracket_139 (fun _ => by
        first
        | (exfalso; omega)
        | (refine ⟨fun j a b c => by rw [up_ne b, up_ne c]; exact hF.1 j a, by rw [up_ne (by decide), up_ne (by decide)]; exact hF.2.1, by rw [up_ne (by decide), up_ne (by decide)]; exact hF.2.2.1, by rw [up_ne (by decide), up_ne (by decide)]; exact hF.2.2.2, Or.inl ⟨by rw [up_ne (by decide)]; exact up_same, st, ⟨by omega, by omega, by omega, hI⟩, up_same⟩, fun x hx => ?_⟩
           rw [up_at, if_neg hx, up_ne (by decide), up_ne (by decide), up_at, if_neg hx, hF.1 35 (by decide), hF.1 36 (by decide)]; exact ⟨rfl, rfl⟩)
        | (refine ⟨fun j a b c => by rw [up_ne b, up_ne c]; exact hF.1 j a, by rw [up_ne (by decide), up_ne (by decide)]; exact hF.2.1, by rw [up_ne (by decide), up_ne (by decide)]; exact hF.2.2.1, by rw [up_ne (by decide), up_ne (by decide)]; exact hF.2.2.2, Or.inr ⟨by rw [up_ne (by decide)]; exact up_same, up_same, fun s2 hs2 => ?_⟩, fun x hx => ?_⟩
           · obtain ⟨s3, s4, s5, s6⟩ := hs2
             rcases Int.lt_trichotomy s2 st with z | z | z
             · have := hI s2 s3 z; omega
             · subst z; omega
             · have := s6 st (by omega) z; omega
           · rw [up_at, if_neg hx, up_ne (by decide), up_ne (by decide), up_at, if_neg hx, hF.1 35 (by decide), hF.1 36 (by decide)]; exact ⟨rfl, rfl⟩))
      · refine k_iconst C dX8_closeBracket_108 ?_
        refine k_goto C (tgt := 113) dX8_closeBracket_109 rfl ?_
        refine k_zastore C rfl (by decide) (by decide) ⟨by omega, by omega⟩ (by omega) dX8_closeBracket_113 ?_
        refine k_aload_n C dX8_closeBracket_114 rfl rfl ?_
        refine k_getR C (j := 3) okC8 rfl (by decide) (by decide) rfl flX8_21 dX8_closeBracket_115 ?_
        refine k_iload_n C dX8_closeBracket_118 rfl rfl ?_
        refine k_aload_n C dX8_closeBracket_119 rfl rfl ?_
        refine k_getR C (j := 4) okC8 rfl (by decide) (by decide) rfl flX8_24 dX8_closeBracket_120 ?_
        refine k_iload_n C dX8_closeBracket_123 rfl rfl ?_
        refine k_zaload C rfl (by decide) (by decide) ⟨by omega, by omega⟩ dX8_closeBracket_124 (fun ld124 => ?_)
        rw [up_same]
        refine k_if_eq C (tgt := 135) dX8_closeBracket_125 rfl (by omega) (fun c125 => ?_) (fun c125 => ?_)
        · refine k_iload_n C dX8_closeBracket_135 rfl rfl ?_
          refine k_iconst C dX8_closeBracket_136 ?_
          refine k_iadd C dX8_closeBracket_137 ?_
          refine k_iastore C rfl (by decide) (by decide) ⟨by omega, by omega⟩ (by omega) dX8_closeBracket_138 ?_
          exact k_vret C dX8_closeBracket_139 (fun _ => by
        first
        | (exfalso; omega)
        | (refine ⟨fun j a b c => by rw [up_ne b, up_ne c]; exact hF.1 j a, by rw [up_ne (by decide), up_ne (by decide)]; exact hF.2.1, by rw [up_ne (by decide), up_ne (by decide)]; exact hF.2.2.1, by rw [up_ne (by decide), up_ne (by decide)]; exact hF.2.2.2, Or.inl ⟨by rw [up_ne (by decide)]; exact up_same, st, ⟨by omega, by omega, by omega, hI⟩, up_same⟩, fun x hx => ?_⟩
           rw [up_at, if_neg hx, up_ne (by decide), up_ne (by decide), up_at, if_neg hx, hF.1 35 (by decide), hF.1 36 (by decide)]; exact ⟨rfl, rfl⟩)
        | (refine ⟨fun j a b c => by rw [up_ne b, up_ne c]; exact hF.1 j a, by rw [up_ne (by decide), up_ne (by decide)]; exact hF.2.1, by rw [up_ne (by decide), up_ne (by decide)]; exact hF.2.2.1, by rw [up_ne (by decide), up_ne (by decide)]; exact hF.2.2.2, Or.inr ⟨by rw [up_ne (by decide)]; exact up_same, up_same, fun s2 hs2 => ?_⟩, fun x hx => ?_⟩
           · obtain ⟨s3, s4, s5, s6⟩ := hs2
             rcases Int.lt_trichotomy s2 st with z | z | z
             · have := hI s2 s3 z; omega
             · subst z; omega
             · have := s6 st (by omega) z; omega
           · rw [up_at, if_neg hx, up_ne (by decide), up_ne (by decide), up_at, if_neg hx, hF.1 35 (by decide), hF.1 36 (by decide)]; exact ⟨rfl, rfl⟩))
        · refine k_iload C dX8_closeBracket_128 rfl ?_
          refine k_iconst C dX8_closeBracket_130 ?_
          refine k_iadd C dX8_closeBracket_131 ?_
          refine k_goto C (tgt := 138) dX8_closeBracket_132 rfl ?_
          refine k_iastore C rfl (by decide) (by decide) ⟨by omega, by omega⟩ (by omega) dX8_closeBracket_138 ?_
          exact k_vret C dX8_closeBracket_139 (fun _ => by
        first
        | (exfalso; omega)
        | (refine ⟨fun j a b c => by rw [up_ne b, up_ne c]; exact hF.1 j a, by rw [up_ne (by decide), up_ne (by decide)]; exact hF.2.1, by rw [up_ne (by decide), up_ne (by decide)]; exact hF.2.2.1, by rw [up_ne (by decide), up_ne (by decide)]; exact hF.2.2.2, Or.inl ⟨by rw [up_ne (by decide)]; exact up_same, st, ⟨by omega, by omega, by omega, hI⟩, up_same⟩, fun x hx => ?_⟩
           rw [up_at, if_neg hx, up_ne (by decide), up_ne (by decide), up_at, if_neg hx, hF.1 35 (by decide), hF.1 36 (by decide)]; exact ⟨rfl, rfl⟩)
        | (refine ⟨fun j a b c => by rw [up_ne b, up_ne c]; exact hF.1 j a, by rw [up_ne (by decide), up_ne (by decide)]; exact hF.2.1, by rw [up_ne (by decide), up_ne (by decide)]; exact hF.2.2.1, by rw [up_ne (by decide), up_ne (by decide)]; exact hF.2.2.2, Or.inr ⟨by rw [up_ne (by decide)]; exact up_same, up_same, fun s2 hs2 => ?_⟩, fun x hx => ?_⟩
           · obtain ⟨s3, s4, s5, s6⟩ := hs2
             rcases Int.lt_trichotomy s2 st with z | z | z
             · have := hI s2 s3 z; omega
             · subst z; omega
             · have := s6 st (by omega) z; omega
           · rw [up_at, if_neg hx, up_ne (by decide), up_ne (by decide), up_at, if_neg hx, hF.1 35 (by decide), hF.1 36 (by decide)]; exact ⟨rfl, rfl⟩))
  · refine k_aload_n C dX8_closeBracket_64 rfl rfl ?_
    refine k_getR C (j := 0) okC8 rfl (by decide) (by decide) rfl flX8_9 dX8_closeBracket_65 ?_
    refine k_iload C dX8_closeBracket_68 rfl ?_
    refine k_iaload C rfl (by decide) (by decide) ⟨by omega, by omega⟩ dX8_closeBracket_70 (fun ld70 => ?_)
    rw [n32] at ld70 ⊢
    refine k_bipush C dX8_closeBracket_71 (by decide) ?_
    refine k_icmp_ne C (tgt := 82) dX8_closeBracket_73 rfl (by omega) (by omega) (fun c73 => ?_) (fun c73 => ?_)
    · refine k_aload_n C dX8_closeBracket_82 rfl rfl ?_
      refine k_getR C (j := 4) okC8 rfl (by decide) (by decide) rfl flX8_24 dX8_closeBracket_83 ?_
      refine k_iload_n C dX8_closeBracket_86 rfl rfl ?_
      refine k_iload C dX8_closeBracket_87 rfl ?_
      refine k_aload_n C dX8_closeBracket_89 rfl rfl ?_
      refine k_getJ C 7 7 rfl okC8 rfl (by decide) (by decide) rfl flX8_38 dX8_closeBracket_90 (fun ld90 => ?_)
      rw [n31] at ld90 ⊢
      refine k_icmp_ge C (tgt := 112) dX8_closeBracket_93 rfl (by omega) (by omega) (fun c93 => ?_) (fun c93 => ?_)
      · refine k_iconst C dX8_closeBracket_112 ?_
        refine k_zastore C rfl (by decide) (by decide) ⟨by omega, by omega⟩ (by omega) dX8_closeBracket_113 ?_
        refine k_aload_n C dX8_closeBracket_114 rfl rfl ?_
        refine k_getR C (j := 3) okC8 rfl (by decide) (by decide) rfl flX8_21 dX8_closeBracket_115 ?_
        refine k_iload_n C dX8_closeBracket_118 rfl rfl ?_
        refine k_aload_n C dX8_closeBracket_119 rfl rfl ?_
        refine k_getR C (j := 4) okC8 rfl (by decide) (by decide) rfl flX8_24 dX8_closeBracket_120 ?_
        refine k_iload_n C dX8_closeBracket_123 rfl rfl ?_
        refine k_zaload C rfl (by decide) (by decide) ⟨by omega, by omega⟩ dX8_closeBracket_124 (fun ld124 => ?_)
        rw [up_same]
        refine k_if_eq C (tgt := 135) dX8_closeBracket_125 rfl (by omega) (fun c125 => ?_) (fun c125 => ?_)
        · refine k_iload_n C dX8_closeBracket_135 rfl rfl ?_
          refine k_iconst C dX8_closeBracket_136 ?_
          refine k_iadd C dX8_closeBracket_137 ?_
          refine k_iastore C rfl (by decide) (by decide) ⟨by omega, by omega⟩ (by omega) dX8_closeBracket_138 ?_
          exact k_vret C dX8_closeBracket_139 (fun _ => by
        first
        | (exfalso; omega)
        | (refine ⟨fun j a b c => by rw [up_ne b, up_ne c]; exact hF.1 j a, by rw [up_ne (by decide), up_ne (by decide)]; exact hF.2.1, by rw [up_ne (by decide), up_ne (by decide)]; exact hF.2.2.1, by rw [up_ne (by decide), up_ne (by decide)]; exact hF.2.2.2, Or.inl ⟨by rw [up_ne (by decide)]; exact up_same, st, ⟨by omega, by omega, by omega, hI⟩, up_same⟩, fun x hx => ?_⟩
           rw [up_at, if_neg hx, up_ne (by decide), up_ne (by decide), up_at, if_neg hx, hF.1 35 (by decide), hF.1 36 (by decide)]; exact ⟨rfl, rfl⟩)
        | (refine ⟨fun j a b c => by rw [up_ne b, up_ne c]; exact hF.1 j a, by rw [up_ne (by decide), up_ne (by decide)]; exact hF.2.1, by rw [up_ne (by decide), up_ne (by decide)]; exact hF.2.2.1, by rw [up_ne (by decide), up_ne (by decide)]; exact hF.2.2.2, Or.inr ⟨by rw [up_ne (by decide)]; exact up_same, up_same, fun s2 hs2 => ?_⟩, fun x hx => ?_⟩
           · obtain ⟨s3, s4, s5, s6⟩ := hs2
             rcases Int.lt_trichotomy s2 st with z | z | z
             · have := hI s2 s3 z; omega
             · subst z; omega
             · have := s6 st (by omega) z; omega
           · rw [up_at, if_neg hx, up_ne (by decide), up_ne (by decide), up_at, if_neg hx, hF.1 35 (by decide), hF.1 36 (by decide)]; exact ⟨rfl, rfl⟩))
        · refine k_iload C dX8_closeBracket_128 rfl ?_
          refine k_iconst C dX8_closeBracket_130 ?_
          refine k_iadd C dX8_closeBracket_131 ?_
          refine k_goto C (tgt := 138) dX8_closeBracket_132 rfl ?_
          refine k_iastore C rfl (by decide) (by decide) ⟨by omega, by omega⟩ (by omega) dX8_closeBracket_138 ?_
          exact k_vret C dX8_closeBracket_139 (fun _ => by
        first
        | (exfalso; omega)
        | (refine ⟨fun j a b c => by rw [up_ne b, up_ne c]; exact hF.1 j a, by rw [up_ne (by decide), up_ne (by decide)]; exact hF.2.1, by rw [up_ne (by decide), up_ne (by decide)]; exact hF.2.2.1, by rw [up_ne (by decide), up_ne (by decide)]; exact hF.2.2.2, Or.inl ⟨by rw [up_ne (by decide)]; exact up_same, st, ⟨by omega, by omega, by omega, hI⟩, up_same⟩, fun x hx => ?_⟩
           rw [up_at, if_neg hx, up_ne (by decide), up_ne (by decide), up_at, if_neg hx, hF.1 35 (by decide), hF.1 36 (by decide)]; exact ⟨rfl, rfl⟩)
        | (refine ⟨fun j a b c => by rw [up_ne b, up_ne c]; exact hF.1 j a, by rw [up_ne (by decide), up_ne (by decide)]; exact hF.2.1, by rw [up_ne (by decide), up_ne (by decide)]; exact hF.2.2.1, by rw [up_ne (by decide), up_ne (by decide)]; exact hF.2.2.2, Or.inr ⟨by rw [up_ne (by decide)]; exact up_same, up_same, fun s2 hs2 => ?_⟩, fun x hx => ?_⟩
           · obtain ⟨s3, s4, s5, s6⟩ := hs2
             rcases Int.lt_trichotomy s2 st with z | z | z
             · have := hI s2 s3 z; omega
             · subst z; omega
             · have := s6 st (by omega) z; omega
           · rw [up_at, if_neg hx, up_ne (by decide), up_ne (by decide), up_at, if_neg hx, hF.1 35 (by decide), hF.1 36 (by decide)]; exact ⟨rfl, rfl⟩))
      · refine k_aload_n C dX8_closeBracket_96 rfl rfl ?_
        refine k_getR C (j := 0) okC8 rfl (by decide) (by decide) rfl flX8_9 dX8_closeBracket_97 ?_
        refine k_iload C dX8_closeBracket_100 rfl ?_
        refine k_iaload C rfl (by decide) (by decide) ⟨by omega, by omega⟩ dX8_closeBracket_102 (fun ld102 => ?_)
        rw [n32] at ld102 ⊢
        refine k_bipush C dX8_closeBracket_103 (by decide) ?_
        refine k_icmp_ne C (tgt := 112) dX8_closeBracket_105 rfl (by omega) (by omega) (fun c105 => ?_) (fun c105 => ?_)
        · refine k_iconst C dX8_closeBracket_112 ?_
          refine k_zastore C rfl (by decide) (by decide) ⟨by omega, by omega⟩ (by omega) dX8_closeBracket_113 ?_
          refine k_aload_n C dX8_closeBracket_114 rfl rfl ?_
          refine k_getR C (j := 3) okC8 rfl (by decide) (by decide) rfl flX8_21 dX8_closeBracket_115 ?_
          refine k_iload_n C dX8_closeBracket_118 rfl rfl ?_
          refine k_aload_n C dX8_closeBracket_119 rfl rfl ?_
          refine k_getR C (j := 4) okC8 rfl (by decide) (by decide) rfl flX8_24 dX8_closeBracket_120 ?_
          refine k_iload_n C dX8_closeBracket_123 rfl rfl ?_
          refine k_zaload C rfl (by decide) (by decide) ⟨by omega, by omega⟩ dX8_closeBracket_124 (fun ld124 => ?_)
          rw [up_same]
          refine k_if_eq C (tgt := 135) dX8_closeBracket_125 rfl (by omega) (fun c125 => ?_) (fun c125 => ?_)
          · refine k_iload_n C dX8_closeBracket_135 rfl rfl ?_
            refine k_iconst C dX8_closeBracket_136 ?_
            refine k_iadd C dX8_closeBracket_137 ?_
            refine k_iastore C rfl (by decide) (by decide) ⟨by omega, by omega⟩ (by omega) dX8_closeBracket_138 ?_
            exact k_vret C dX8_closeBracket_139 (fun _ => by
        first
        | (exfalso; omega)
        | (refine ⟨fun j a b c => by rw [up_ne b, up_ne c]; exact hF.1 j a, by rw [up_ne (by decide), up_ne (by decide)]; exact hF.2.1, by rw [up_ne (by decide), up_ne (by decide)]; exact hF.2.2.1, by rw [up_ne (by decide), up_ne (by decide)]; exact hF.2.2.2, Or.inl ⟨by rw [up_ne (by decide)]; exact up_same, st, ⟨by omega, by omega, by omega, hI⟩, up_same⟩, fun x hx => ?_⟩
           rw [up_at, if_neg hx, up_ne (by decide), up_ne (by decide), up_at, if_neg hx, hF.1 35 (by decide), hF.1 36 (by decide)]; exact ⟨rfl, rfl⟩)
        | (refine ⟨fun j a b c => by rw [up_ne b, up_ne c]; exact hF.1 j a, by rw [up_ne (by decide), up_ne (by decide)]; exact hF.2.1, by rw [up_ne (by decide), up_ne (by decide)]; exact hF.2.2.1, by rw [up_ne (by decide), up_ne (by decide)]; exact hF.2.2.2, Or.inr ⟨by rw [up_ne (by decide)]; exact up_same, up_same, fun s2 hs2 => ?_⟩, fun x hx => ?_⟩
           · obtain ⟨s3, s4, s5, s6⟩ := hs2
             rcases Int.lt_trichotomy s2 st with z | z | z
             · have := hI s2 s3 z; omega
             · subst z; omega
             · have := s6 st (by omega) z; omega
           · rw [up_at, if_neg hx, up_ne (by decide), up_ne (by decide), up_at, if_neg hx, hF.1 35 (by decide), hF.1 36 (by decide)]; exact ⟨rfl, rfl⟩))
          · refine k_iload C dX8_closeBracket_128 rfl ?_
            refine k_iconst C dX8_closeBracket_130 ?_
            refine k_iadd C dX8_closeBracket_131 ?_
            refine k_goto C (tgt := 138) dX8_closeBracket_132 rfl ?_
            refine k_iastore C rfl (by decide) (by decide) ⟨by omega, by omega⟩ (by omega) dX8_closeBracket_138 ?_
            exact k_vret C dX8_closeBracket_139 (fun _ => by
        first
        | (exfalso; omega)
        | (refine ⟨fun j a b c => by rw [up_ne b, up_ne c]; exact hF.1 j a, by rw [up_ne (by decide), up_ne (by decide)]; exact hF.2.1, by rw [up_ne (by decide), up_ne (by decide)]; exact hF.2.2.1, by rw [up_ne (by decide), up_ne (by decide)]; exact hF.2.2.2, Or.inl ⟨by rw [up_ne (by decide)]; exact up_same, st, ⟨by omega, by omega, by omega, hI⟩, up_same⟩, fun x hx => ?_⟩
           rw [up_at, if_neg hx, up_ne (by decide), up_ne (by decide), up_at, if_neg hx, hF.1 35 (by decide), hF.1 36 (by decide)]; exact ⟨rfl, rfl⟩)
        | (refine ⟨fun j a b c => by rw [up_ne b, up_ne c]; exact hF.1 j a, by rw [up_ne (by decide), up_ne (by decide)]; exact hF.2.1, by rw [up_ne (by decide), up_ne (by decide)]; exact hF.2.2.1, by rw [up_ne (by decide), up_ne (by decide)]; exact hF.2.2.2, Or.inr ⟨by rw [up_ne (by decide)]; exact up_same, up_same, fun s2 hs2 => ?_⟩, fun x hx => ?_⟩
           · obtain ⟨s3, s4, s5, s6⟩ := hs2
             rcases Int.lt_trichotomy s2 st with z | z | z
             · have := hI s2 s3 z; omega
             · subst z; omega
             · have := s6 st (by omega) z; omega
           · rw [up_at, if_neg hx, up_ne (by decide), up_ne (by decide), up_at, if_neg hx, hF.1 35 (by decide), hF.1 36 (by decide)]; exact ⟨rfl, rfl⟩))
        · refine k_iconst C dX8_closeBracket_108 ?_
          refine k_goto C (tgt := 113) dX8_closeBracket_109 rfl ?_
          refine k_zastore C rfl (by decide) (by decide) ⟨by omega, by omega⟩ (by omega) dX8_closeBracket_113 ?_
          refine k_aload_n C dX8_closeBracket_114 rfl rfl ?_
          refine k_getR C (j := 3) okC8 rfl (by decide) (by decide) rfl flX8_21 dX8_closeBracket_115 ?_
          refine k_iload_n C dX8_closeBracket_118 rfl rfl ?_
          refine k_aload_n C dX8_closeBracket_119 rfl rfl ?_
          refine k_getR C (j := 4) okC8 rfl (by decide) (by decide) rfl flX8_24 dX8_closeBracket_120 ?_
          refine k_iload_n C dX8_closeBracket_123 rfl rfl ?_
          refine k_zaload C rfl (by decide) (by decide) ⟨by omega, by omega⟩ dX8_closeBracket_124 (fun ld124 => ?_)
          rw [up_same]
          refine k_if_eq C (tgt := 135) dX8_closeBracket_125 rfl (by omega) (fun c125 => ?_) (fun c125 => ?_)
          · refine k_iload_n C dX8_closeBracket_135 rfl rfl ?_
            refine k_iconst C dX8_closeBracket_136 ?_
            refine k_iadd C dX8_closeBracket_137 ?_
            refine k_iastore C rfl (by decide) (by decide) ⟨by omega, by omega⟩ (by omega) dX8_closeBracket_138 ?_
            exact k_vret C dX8_closeBracket_139 (fun _ => by
        first
        | (exfalso; omega)
        | (refine ⟨fun j a b c => by rw [up_ne b, up_ne c]; exact hF.1 j a, by rw [up_ne (by decide), up_ne (by decide)]; exact hF.2.1, by rw [up_ne (by decide), up_ne (by decide)]; exact hF.2.2.1, by rw [up_ne (by decide), up_ne (by decide)]; exact hF.2.2.2, Or.inl ⟨by rw [up_ne (by decide)]; exact up_same, st, ⟨by omega, by omega, by omega, hI⟩, up_same⟩, fun x hx => ?_⟩
           rw [up_at, if_neg hx, up_ne (by decide), up_ne (by decide), up_at, if_neg hx, hF.1 35 (by decide), hF.1 36 (by decide)]; exact ⟨rfl, rfl⟩)
        | (refine ⟨fun j a b c => by rw [up_ne b, up_ne c]; exact hF.1 j a, by rw [up_ne (by decide), up_ne (by decide)]; exact hF.2.1, by rw [up_ne (by decide), up_ne (by decide)]; exact hF.2.2.1, by rw [up_ne (by decide), up_ne (by decide)]; exact hF.2.2.2, Or.inr ⟨by rw [up_ne (by decide)]; exact up_same, up_same, fun s2 hs2 => ?_⟩, fun x hx => ?_⟩
           · obtain ⟨s3, s4, s5, s6⟩ := hs2
             rcases Int.lt_trichotomy s2 st with z | z | z
             · have := hI s2 s3 z; omega
             · subst z; omega
             · have := s6 st (by omega) z; omega
           · rw [up_at, if_neg hx, up_ne (by decide), up_ne (by decide), up_at, if_neg hx, hF.1 35 (by decide), hF.1 36 (by decide)]; exact ⟨rfl, rfl⟩))
          · refine k_iload C dX8_closeBracket_128 rfl ?_
            refine k_iconst C dX8_closeBracket_130 ?_
            refine k_iadd C dX8_closeBracket_131 ?_
            refine k_goto C (tgt := 138) dX8_closeBracket_132 rfl ?_
            refine k_iastore C rfl (by decide) (by decide) ⟨by omega, by omega⟩ (by omega) dX8_closeBracket_138 ?_
            exact k_vret C dX8_closeBracket_139 (fun _ => by
        first
        | (exfalso; omega)
        | (refine ⟨fun j a b c => by rw [up_ne b, up_ne c]; exact hF.1 j a, by rw [up_ne (by decide), up_ne (by decide)]; exact hF.2.1, by rw [up_ne (by decide), up_ne (by decide)]; exact hF.2.2.1, by rw [up_ne (by decide), up_ne (by decide)]; exact hF.2.2.2, Or.inl ⟨by rw [up_ne (by decide)]; exact up_same, st, ⟨by omega, by omega, by omega, hI⟩, up_same⟩, fun x hx => ?_⟩
           rw [up_at, if_neg hx, up_ne (by decide), up_ne (by decide), up_at, if_neg hx, hF.1 35 (by decide), hF.1 36 (by decide)]; exact ⟨rfl, rfl⟩)
        | (refine ⟨fun j a b c => by rw [up_ne b, up_ne c]; exact hF.1 j a, by rw [up_ne (by decide), up_ne (by decide)]; exact hF.2.1, by rw [up_ne (by decide), up_ne (by decide)]; exact hF.2.2.1, by rw [up_ne (by decide), up_ne (by decide)]; exact hF.2.2.2, Or.inr ⟨by rw [up_ne (by decide)]; exact up_same, up_same, fun s2 hs2 => ?_⟩, fun x hx => ?_⟩
           · obtain ⟨s3, s4, s5, s6⟩ := hs2
             rcases Int.lt_trichotomy s2 st with z | z | z
             · have := hI s2 s3 z; omega
             · subst z; omega
             · have := s6 st (by omega) z; omega
           · rw [up_at, if_neg hx, up_ne (by decide), up_ne (by decide), up_at, if_neg hx, hF.1 35 (by decide), hF.1 36 (by decide)]; exact ⟨rfl, rfl⟩))
    · refine k_iinc C dX8_closeBracket_76 (by decide) rfl ?_
      refine k_goto C (tgt := 55) dX8_closeBracket_79 rfl ?_
      refine k_cut2 C (lv' := [(0, _), (1, _), (2, _), (4, _)]) ⟨rfl, rfl, rfl, rfl, trivial⟩ ?_
      exact l_cb2 M hG r hr tr hE C N hF (st + 1) (by omega) (fun j a b => by by_cases z : j = st; (rw [z]; exact c73); exact hI j a (by omega))
termination_by (M 31 7 - st).toNat
decreasing_by all_goals omega
set_option maxHeartbeats 4000000 in
set_option maxRecDepth 100000 in
theorem l_cb1 {K : Kt} (M : Mem) (hG : GT (M 32) (M 31 7)) (r : Int) (hr : 0 ≤ r ∧ r < M 31 7) (tr : M 32 r = 41) (hE : ∀ y, 0 ≤ y → y ≤ r → (M 32 y = 124 ∨ M 32 y = 41) → M 33 (ls (M 32) (dep (M 32) y - 1) y) = y) (C : Ctx shC nC RX8 cX8_closeBracket 5 none (lvl 0) (fun _ M' => CbP M M' r) K) (N : Mem) (K0 : Nat) (k1 : chn (M 33) (opn (M 32) r) K0 = r) (k2 : ∀ j : Nat, j < K0 → chn (M 33) (opn (M 32) r) j < r ∧ AS (M 32) (opn (M 32) r) (chn (M 33) (opn (M 32) r) j)) (k : Nat) (hk : k ≤ K0) (hF : (∀ j, j ≠ 34 → N j = M j) ∧ (∀ j : Nat, j < k → N 34 (chn (M 33) (opn (M 32) r) j) = r) ∧ (∀ x, (∀ j : Nat, j < k → x ≠ chn (M 33) (opn (M 32) r) j) → N 34 x = M 34 x)) : K 5 [(0, .inr 31), (1, .inl (opn (M 32) r)), (2, .inl r), (3, .inl (chn (M 33) (opn (M 32) r) k)), (4, .inl (k : Int))] [] N := by
  have t1 := hG.1
  have o := (opn_ok hG hr (Or.inr tr)).1
  have n31 := hF.1 31 (by decide)
  have n33 := hF.1 33 (by decide)
  have ge := chn_ge hG hr tr hE k2 k hk
  have ge0 := chn_ge hG hr tr hE k2 K0 (Nat.le_refl _)
  rw [k1] at ge0
  have lek : chn (M 33) (opn (M 32) r) k ≤ r := by
    by_cases z : k = K0
    · rw [z, k1]; exact Int.le_refl _
    · have := (k2 k (by omega)).1; omega
  refine k_iload C dX8_closeBracket_5 rfl ?_
  refine k_aload_n C dX8_closeBracket_7 rfl rfl ?_
  refine k_getJ C 7 7 rfl okC8 rfl (by decide) (by decide) rfl flX8_38 dX8_closeBracket_8 (fun ld8 => ?_)
  rw [n31] at ld8 ⊢
  refine k_icmp_ge C (tgt := 43) dX8_closeBracket_11 rfl (by omega) (by omega) (fun c11 => ?_) (fun c11 => ?_)
  · refine k_aload_n C dX8_closeBracket_43 rfl rfl ?_
    refine k_getR C (j := 2) okC8 rfl (by decide) (by decide) rfl flX8_18 dX8_closeBracket_44 ?_
    refine k_iload_n C dX8_closeBracket_47 rfl rfl ?_
    refine k_iload_n C dX8_closeBracket_48 rfl rfl ?_
    refine k_iastore C rfl (by decide) (by decide) ⟨by omega, by omega⟩ (by omega) dX8_closeBracket_49 ?_
    refine k_iload_n C dX8_closeBracket_50 rfl rfl ?_
    refine k_iconst C dX8_closeBracket_51 ?_
    refine k_iadd C dX8_closeBracket_52 ?_
    refine k_istore C dX8_closeBracket_53 (by decide) ?_
    refine k_cut2 C (lv' := [(0, _), (1, _), (2, _), (4, _)]) ⟨rfl, rfl, rfl, rfl, trivial⟩ ?_
    first
    | (exfalso; omega)
    | (have ek : k = K0 := by
         by_cases z : k = K0
         · exact z
         · have := (k2 k (by omega)).1; omega
       subst ek
       refine l_cb2 M hG r hr tr hE C _ ⟨fun j a => by rw [up_ne a]; exact hF.1 j a, up_same, fun x a b => ?_, fun x a b => ?_⟩ (r + 1) (by omega) (fun j a b => by omega)
       · rw [up_at, if_neg (by omega)]
         obtain ⟨kx, m1, m2⟩ := chn_all hG (sE := M 33) hr (Or.inr tr) hE (x.toNat + 1) x (by omega) (by omega) (Or.inl a)
         have kk2 : kx < k := by
           by_cases z : kx < k
           · exact z
           · exfalso
             by_cases y : k = kx
             · rw [← y, k1] at m1; omega
             · have := (m2 k (by omega)).1; rw [k1] at this; omega
         rw [← m1]; exact hF.2.1 kx kk2
       · rw [up_at, if_neg a]
         exact hF.2.2 x (fun j hj e => b (by rw [e]; exact ⟨(k2 j hj).2, (k2 j hj).1⟩)))
  · refine k_iload_n C dX8_closeBracket_14 rfl rfl ?_
    refine k_if_lt C (tgt := 43) dX8_closeBracket_15 rfl (by omega) (fun c15 => ?_) (fun c15 => ?_)
    · refine k_aload_n C dX8_closeBracket_43 rfl rfl ?_
      refine k_getR C (j := 2) okC8 rfl (by decide) (by decide) rfl flX8_18 dX8_closeBracket_44 ?_
      refine k_iload_n C dX8_closeBracket_47 rfl rfl ?_
      refine k_iload_n C dX8_closeBracket_48 rfl rfl ?_
      refine k_iastore C rfl (by decide) (by decide) ⟨by omega, by omega⟩ (by omega) dX8_closeBracket_49 ?_
      refine k_iload_n C dX8_closeBracket_50 rfl rfl ?_
      refine k_iconst C dX8_closeBracket_51 ?_
      refine k_iadd C dX8_closeBracket_52 ?_
      refine k_istore C dX8_closeBracket_53 (by decide) ?_
      refine k_cut2 C (lv' := [(0, _), (1, _), (2, _), (4, _)]) ⟨rfl, rfl, rfl, rfl, trivial⟩ ?_
      first
      | (exfalso; omega)
      | (have ek : k = K0 := by
           by_cases z : k = K0
           · exact z
           · have := (k2 k (by omega)).1; omega
         subst ek
         refine l_cb2 M hG r hr tr hE C _ ⟨fun j a => by rw [up_ne a]; exact hF.1 j a, up_same, fun x a b => ?_, fun x a b => ?_⟩ (r + 1) (by omega) (fun j a b => by omega)
         · rw [up_at, if_neg (by omega)]
           obtain ⟨kx, m1, m2⟩ := chn_all hG (sE := M 33) hr (Or.inr tr) hE (x.toNat + 1) x (by omega) (by omega) (Or.inl a)
           have kk2 : kx < k := by
             by_cases z : kx < k
             · exact z
             · exfalso
               by_cases y : k = kx
               · rw [← y, k1] at m1; omega
               · have := (m2 k (by omega)).1; rw [k1] at this; omega
           rw [← m1]; exact hF.2.1 kx kk2
         · rw [up_at, if_neg a]
           exact hF.2.2 x (fun j hj e => b (by rw [e]; exact ⟨(k2 j hj).2, (k2 j hj).1⟩)))
    · refine k_iload_n C dX8_closeBracket_18 rfl rfl ?_
      refine k_iload_n C dX8_closeBracket_19 rfl rfl ?_
      refine k_icmp_ge C (tgt := 43) dX8_closeBracket_20 rfl (by omega) (by omega) (fun c20 => ?_) (fun c20 => ?_)
      · refine k_aload_n C dX8_closeBracket_43 rfl rfl ?_
        refine k_getR C (j := 2) okC8 rfl (by decide) (by decide) rfl flX8_18 dX8_closeBracket_44 ?_
        refine k_iload_n C dX8_closeBracket_47 rfl rfl ?_
        refine k_iload_n C dX8_closeBracket_48 rfl rfl ?_
        refine k_iastore C rfl (by decide) (by decide) ⟨by omega, by omega⟩ (by omega) dX8_closeBracket_49 ?_
        refine k_iload_n C dX8_closeBracket_50 rfl rfl ?_
        refine k_iconst C dX8_closeBracket_51 ?_
        refine k_iadd C dX8_closeBracket_52 ?_
        refine k_istore C dX8_closeBracket_53 (by decide) ?_
        refine k_cut2 C (lv' := [(0, _), (1, _), (2, _), (4, _)]) ⟨rfl, rfl, rfl, rfl, trivial⟩ ?_
        first
        | (exfalso; omega)
        | (have ek : k = K0 := by
             by_cases z : k = K0
             · exact z
             · have := (k2 k (by omega)).1; omega
           subst ek
           refine l_cb2 M hG r hr tr hE C _ ⟨fun j a => by rw [up_ne a]; exact hF.1 j a, up_same, fun x a b => ?_, fun x a b => ?_⟩ (r + 1) (by omega) (fun j a b => by omega)
           · rw [up_at, if_neg (by omega)]
             obtain ⟨kx, m1, m2⟩ := chn_all hG (sE := M 33) hr (Or.inr tr) hE (x.toNat + 1) x (by omega) (by omega) (Or.inl a)
             have kk2 : kx < k := by
               by_cases z : kx < k
               · exact z
               · exfalso
                 by_cases y : k = kx
                 · rw [← y, k1] at m1; omega
                 · have := (m2 k (by omega)).1; rw [k1] at this; omega
             rw [← m1]; exact hF.2.1 kx kk2
           · rw [up_at, if_neg a]
             exact hF.2.2 x (fun j hj e => b (by rw [e]; exact ⟨(k2 j hj).2, (k2 j hj).1⟩)))
      · refine k_aload_n C dX8_closeBracket_23 rfl rfl ?_
        refine k_getR C (j := 2) okC8 rfl (by decide) (by decide) rfl flX8_18 dX8_closeBracket_24 ?_
        refine k_iload_n C dX8_closeBracket_27 rfl rfl ?_
        refine k_iload_n C dX8_closeBracket_28 rfl rfl ?_
        refine k_iastore C rfl (by decide) (by decide) ⟨by omega, by omega⟩ (by omega) dX8_closeBracket_29 ?_
        refine k_aload_n C dX8_closeBracket_30 rfl rfl ?_
        refine k_getR C (j := 1) okC8 rfl (by decide) (by decide) rfl flX8_15 dX8_closeBracket_31 ?_
        refine k_iload_n C dX8_closeBracket_34 rfl rfl ?_
        refine k_iaload C rfl (by decide) (by decide) ⟨by omega, by omega⟩ dX8_closeBracket_35 (fun ld35 => ?_)
        rw [up_ne (show (33 : Nat) ≠ 34 by decide), n33] at ld35 ⊢
        refine k_istore_n C dX8_closeBracket_36 rfl (by decide) ?_
        refine k_iinc C dX8_closeBracket_37 (by decide) rfl ?_
        refine k_goto C (tgt := 5) dX8_closeBracket_40 rfl ?_
        refine k_cut2 C (lv' := [(0, _), (1, _), (2, _), (3, _), (4, _)]) ⟨rfl, rfl, rfl, rfl, rfl, trivial⟩ ?_
        have kl : k < K0 := by by_cases z : k = K0; (rw [z, k1] at c20; omega); omega
        refine l_cb1 M hG r hr tr hE C _ K0 k1 k2 (k + 1) (by omega) ⟨fun j a => by rw [up_ne a]; exact hF.1 j a, fun j hj => ?_, fun x hx => ?_⟩
        · rw [up_at]
          by_cases z : j = k
          · rw [z, if_pos rfl]
          · split
            · rfl
            · exact hF.2.1 j (by omega)
        · rw [up_at, if_neg (hx k (by omega))]; exact hF.2.2 x (fun j hj => hx j (by omega))
termination_by K0 - k
decreasing_by all_goals omega
set_option maxHeartbeats 4000000 in
set_option maxRecDepth 100000 in
theorem c_closeBracket (M : Mem) (hG : GT (M 32) (M 31 7)) (r : Int) (hr : 0 ≤ r ∧ r < M 31 7) (tr : M 32 r = 41) (hE : ∀ y, 0 ≤ y → y ≤ r → (M 32 y = 124 ∨ M 32 y = 41) → M 33 (ls (M 32) (dep (M 32) y - 1) y) = y) : Ct shC nC yX8_closeBracket cX8_closeBracket 5 none (lvl 0) [.inr 31, .inl (opn (M 32) r), .inl r] M (fun _ M' => CbP M M' r) := by
  refine Ct_of (by decide +kernel) (Nat.le_of_ble_eq_true rfl) (fun K C => ?_)
  have t1 := hG.1
  have o := (opn_ok hG hr (Or.inr tr)).1
  obtain ⟨K0, k1, k2⟩ := chn_all hG (sE := M 33) hr (Or.inr tr) hE (r.toNat + 1) r (by omega) (Int.le_refl r) (Or.inr rfl)
  refine k_iload_n C dX8_closeBracket_0 rfl rfl ?_
  refine k_istore_n C dX8_closeBracket_1 rfl (by decide) ?_
  refine k_iconst C dX8_closeBracket_2 ?_
  refine k_istore C dX8_closeBracket_3 (by decide) ?_
  refine k_cut2 C (lv' := [(0, _), (1, _), (2, _), (3, _), (4, _)]) ⟨rfl, rfl, rfl, rfl, rfl, trivial⟩ ?_
  exact l_cb1 M hG r hr tr hE C M K0 k1 k2 0 (by omega) ⟨fun _ _ => rfl, fun j hj => by omega, fun _ _ => rfl⟩
theorem scf_cg {tx tx' : Int → Int} {n : Int} (h : ∀ i, 0 ≤ i → i < n → tx' i = tx i) : ∀ (f : Nat) (i op st : Int), 0 ≤ i → scf tx' n f i op st = scf tx n f i op st
  | 0, i, op, st, _ => rfl
  | f + 1, i, op, st, h0 => by
    rw [scf, scf]
    by_cases c : i < n
    · rw [if_pos c, if_pos c, h i h0 c, scf_cg h f (i + 1) _ _ (by omega), scf_cg h f (i + 1) _ _ (by omega)]
    · rw [if_neg c, if_neg c]
theorem RA_close {tx : Int → Int} {n : Int} (hG : GT tx n) {i : Int} {sE pt bh rp sE' pt' bh' rp' : Int → Int} (hi : 0 ≤ i ∧ i < n) (ti : tx i = 41) (h : RA tx n i sE pt bh rp) (h1 : sE' = updI sE (ls tx (dep tx i - 1) i) i) (p1 : pt' i = opn tx i) (p2 : ∀ x, AS tx (opn tx i) x → x < i → pt' x = i) (p3 : ∀ x, x ≠ i → ¬ (AS tx (opn tx i) x ∧ x < i) → pt' x = pt x) (p4 : (rp' i = 1 ∧ ∃ st, stA tx n i st ∧ bh' i = st + 1) ∨ (rp' i = 0 ∧ bh' i = i + 1 ∧ ∀ st, ¬ stA tx n i st)) (p5 : ∀ x, x ≠ i → bh' x = bh x ∧ rp' x = rp x) : RA tx n (i + 1) sE' pt' bh' rp' := by
  have oi := opn_ok hG hi (Or.inr ti)
  refine ⟨fun y a b c => ?_, fun r a b c => ?_⟩
  · rw [h1]
    by_cases z : y = i
    · rw [z, updI_at]
    · rw [updI_ne (ls_inj hG ⟨a, by omega, hi.2⟩ c (Or.inr ti))]; exact h.1 y a (by omega) c
  · by_cases z : r = i
    · subst z; exact ⟨p1, p2, p4⟩
    · obtain ⟨q1, q2, q3⟩ := h.2 r a (by omega) c
      have og := opn_ok hG (r := r) ⟨a, by omega⟩ (Or.inr c)
      have dr := dep_s (tx := tx) a
      rw [if_neg (by omega), if_pos c] at dr
      have ne : opn tx r ≠ opn tx i := fun e => by
        have := oi.2 (r + 1) (by omega) (by omega)
        have e1 := og.1.2.2.2
        have e2 := oi.1.2.2.2
        rw [e] at e1
        omega
      have na : ∀ x, AS tx (opn tx r) x → ¬ AS tx (opn tx i) x := fun x ax ai => by
        rcases ax with ax | ax
        · rcases ai with ai | ai
          · exact ne (ax.symm.trans ai)
          · rw [ax] at ai; have := og.1.2.2.1; omega
        · rcases ai with ai | ai
          · rw [ai] at ax; have := oi.1.2.2.1; omega
          · have d1 := ax.2.1; have d2 := ai.2.1
            have dd : dep tx (opn tx r) = dep tx (opn tx i) := by omega
            have l1 := ax.2.2.1; have l2 := ai.2.2.1
            rw [dd] at l1
            exact ne (l1.symm.trans l2)
      refine ⟨?_, fun x ax xr => ?_, ?_⟩
      · rw [p3 r z (fun q => by
          rcases q.1 with w | w
          · rw [w] at c; have := oi.1.2.2.1; omega
          · omega)]; exact q1
      · rw [p3 x (by omega) (fun q => na x ax q.1)]; exact q2 x ax xr
      · rw [(p5 r z).1, (p5 r z).2]; exact q3
theorem RA_bar {tx : Int → Int} {n : Int} (hG : GT tx n) {i : Int} {sE sE' pt bh rp : Int → Int} (hi : 0 ≤ i ∧ i < n) (ti : tx i = 124) (h : RA tx n i sE pt bh rp) (h1 : sE' = updI sE (ls tx (dep tx i - 1) i) i) : RA tx n (i + 1) sE' pt bh rp := by
  refine ⟨fun y a b c => ?_, fun r a b c => h.2 r a (by by_cases z : r = i; (rw [z] at c; omega); omega) c⟩
  rw [h1]
  by_cases z : y = i
  · rw [z, updI_at]
  · rw [updI_ne (ls_inj hG ⟨a, by omega, hi.2⟩ c (Or.inl ti))]; exact h.1 y a (by omega) c
theorem RA_oth {tx : Int → Int} {n i : Int} {sE pt bh rp : Int → Int} (ti : tx i ≠ 124 ∧ tx i ≠ 41) (h : RA tx n i sE pt bh rp) : RA tx n (i + 1) sE pt bh rp :=
  ⟨fun y a b c => h.1 y a (by by_cases z : y = i; (rw [z] at c; omega); omega) c, fun r a b c => h.2 r a (by by_cases z : r = i; (rw [z] at c; omega); omega) c⟩
/-- the routine's tables are those of its text -/
def RtC (M : Mem) : Prop := GT (M 32) (M 31 7) ∧ RA (M 32) (M 31 7) (M 31 7) (M 33) (M 34) (M 35) (M 36) ∧ ∀ p, 0 ≤ p → p < 200 → 0 ≤ M 32 p ∧ M 32 p < 256
def RpF (M N : Mem) : Prop := (∀ j, j < 31 ∨ 38 < j → N j = M j) ∧ ∀ i, i ≠ 7 → N 31 i = M 31 i
set_option maxHeartbeats 4000000 in
set_option maxRecDepth 100000 in
theorem l_rp2 {K : Kt} (M : Mem) (n : Int) (hn : 0 ≤ n ∧ n ≤ 200) (hsc : scf (M 30) n 201 0 0 0 = -1) (hb : ∀ i, 0 ≤ i → i < 200 → 0 ≤ M 30 i ∧ M 30 i < 256) (ht : ∀ i, 0 ≤ i → i < 200 → 0 ≤ M 32 i ∧ M 32 i < 256) (C : Ctx shC nC RX8 cX8_replaceBy 5 none (lvl 1) (fun _ M' => RpF M M' ∧ RtC M' ∧ M' 31 7 = n ∧ ∀ i, 0 ≤ i → i < n → M' 32 i = M 30 i) K) (N : Mem) (hF : RpF M N) (hz : N 31 7 = n) (hx : ∀ i, 0 ≤ i → i < n → N 32 i = M 30 i) (hG : GT (N 32) n) (hbt : ∀ p, 0 ≤ p → p < 200 → 0 ≤ N 32 p ∧ N 32 p < 256) (i : Int) (hi : 0 ≤ i ∧ i ≤ n) (hlo : ∀ d, 0 ≤ d → d < dep (N 32) i → N 37 d = lo (N 32) d i) (hls : ∀ d, 0 ≤ d → d < dep (N 32) i → N 38 d = ls (N 32) d i) (hR : RA (N 32) n i (N 33) (N 34) (N 35) (N 36)) : K 55 [(0, .inr 31), (1, .inr 30), (2, .inl n), (3, .inl (dep (N 32) i)), (4, .inl i)] [] N := by
  have gi := hG.2.2 i hi.1
  have ds := dep_s (tx := N 32) hi.1
  have bi := hbt i hi.1
  have los := fun d => lo_s (tx := N 32) hi.1 d
  have lss := fun d => ls_s (tx := N 32) hi.1 d
  have dn : i = n → dep (N 32) i = 0 := fun z => by rw [z]; exact hG.2.1
  refine k_iload C dX8_replaceBy_55 rfl ?_
  refine k_aload_n C dX8_replaceBy_57 rfl rfl ?_
  refine k_getJ C 7 7 rfl okC8 rfl (by decide) (by decide) rfl flX8_38 dX8_replaceBy_58 (fun ld58 => ?_)
  rw [hz] at ld58 ⊢
  refine k_icmp_ge C (tgt := 196) dX8_replaceBy_61 rfl (by omega) (by omega) (fun c61 => ?_) (fun c61 => ?_)
  · exact k_vret C dX8_replaceBy_196 (fun _ => by
      have e : i = n := by omega
      subst e
      refine ⟨hF, ⟨by rw [hz]; exact hG, by rw [hz]; exact hR, hbt⟩, hz, hx⟩)
  · have gi := gi c61
    have bi := bi (by omega)
    refine k_aload_n C dX8_replaceBy_64 rfl rfl ?_
    refine k_getR C (j := 0) okC8 rfl (by decide) (by decide) rfl flX8_9 dX8_replaceBy_65 ?_
    refine k_iload C dX8_replaceBy_68 rfl ?_
    refine k_iaload C rfl (by decide) (by decide) ⟨by omega, by omega⟩ dX8_replaceBy_70 (fun ld70 => ?_)
    refine k_bipush C dX8_replaceBy_71 (by decide) ?_
    refine k_icmp_ne C (tgt := 104) dX8_replaceBy_73 rfl (by omega) (by omega) (fun c73 => ?_) (fun c73 => ?_)
    · refine k_aload_n C dX8_replaceBy_104 rfl rfl ?_
      refine k_getR C (j := 0) okC8 rfl (by decide) (by decide) rfl flX8_9 dX8_replaceBy_105 ?_
      refine k_iload C dX8_replaceBy_108 rfl ?_
      refine k_iaload C rfl (by decide) (by decide) ⟨by omega, by omega⟩ dX8_replaceBy_110 (fun ld110 => ?_)
      refine k_bipush C dX8_replaceBy_111 (by decide) ?_
      refine k_icmp_ne C (tgt := 147) dX8_replaceBy_113 rfl (by omega) (by omega) (fun c113 => ?_) (fun c113 => ?_)
      · refine k_aload_n C dX8_replaceBy_147 rfl rfl ?_
        refine k_getR C (j := 0) okC8 rfl (by decide) (by decide) rfl flX8_9 dX8_replaceBy_148 ?_
        refine k_iload C dX8_replaceBy_151 rfl ?_
        refine k_iaload C rfl (by decide) (by decide) ⟨by omega, by omega⟩ dX8_replaceBy_153 (fun ld153 => ?_)
        refine k_bipush C dX8_replaceBy_154 (by decide) ?_
        refine k_icmp_ne C (tgt := 190) dX8_replaceBy_156 rfl (by omega) (by omega) (fun c156 => ?_) (fun c156 => ?_)
        · refine k_iinc C dX8_replaceBy_190 (by decide) rfl ?_
          refine k_goto C (tgt := 55) dX8_replaceBy_193 rfl ?_
          refine k_cut2 C (lv' := [(0, _), (1, _), (2, _), (3, _), (4, _)]) ⟨rfl, rfl, rfl, rfl, rfl, trivial⟩ ?_
          first
          | (have e40 : N 32 i = 40 := c73
             rw [if_pos e40] at ds
             rw [← ds]
             have n32 : up (up N 37 (dep (N 32) i) i) 38 (dep (N 32) i) i 32 = N 32 := by rw [up_ne (by decide), up_ne (by decide)]
             have key := l_rp2 M n hn hsc hb ht C (up (up N 37 (dep (N 32) i) i) 38 (dep (N 32) i) i) ⟨fun j hj => by rw [up_ne (by omega), up_ne (by omega)]; exact hF.1 j hj, fun x hx => by rw [up_ne (by decide), up_ne (by decide)]; exact hF.2 x hx⟩ (by rw [up_ne (by decide), up_ne (by decide)]; exact hz) (by rw [n32]; exact hx) (by rw [n32]; exact hG) (by rw [n32]; exact hbt) (i + 1) (by omega)
             rw [n32] at key
             refine key (fun d a b => ?_) (fun d a b => ?_) ?_
             · rw [up_ne (by decide), up_at, los]
               by_cases z : d = dep (N 32) i
               · rw [if_pos z, if_pos ⟨e40, z.symm⟩]
               · rw [if_neg z, if_neg (by omega)]; exact hlo d a (by omega)
             · rw [up_at, lss, up_ne (by decide)]
               by_cases z : d = dep (N 32) i
               · rw [if_pos z, if_pos (Or.inl ⟨e40, z.symm⟩)]
               · rw [if_neg z, if_neg (by omega)]; exact hls d a (by omega)
             · rw [up_ne (by decide), up_ne (by decide), up_ne (by decide), up_ne (by decide), up_ne (by decide), up_ne (by decide), up_ne (by decide), up_ne (by decide)]
               exact RA_oth (by omega) hR)
          | (have e124 : N 32 i = 124 := c113
             rw [if_neg (by omega), if_neg (by omega), show dep (N 32) i + 0 = dep (N 32) i by omega] at ds
             have n32 : up (up N 33 (ls (N 32) (dep (N 32) i - 1) i) i) 38 (dep (N 32) i - 1) i 32 = N 32 := by rw [up_ne (by decide), up_ne (by decide)]
             have key := l_rp2 M n hn hsc hb ht C (up (up N 33 (ls (N 32) (dep (N 32) i - 1) i) i) 38 (dep (N 32) i - 1) i) ⟨fun j hj => by rw [up_ne (by omega), up_ne (by omega)]; exact hF.1 j hj, fun x hx => by rw [up_ne (by decide), up_ne (by decide)]; exact hF.2 x hx⟩ (by rw [up_ne (by decide), up_ne (by decide)]; exact hz) (by rw [n32]; exact hx) (by rw [n32]; exact hG) (by rw [n32]; exact hbt) (i + 1) (by omega)
             rw [n32, ds] at key
             refine key (fun d a b => ?_) (fun d a b => ?_) ?_
             · rw [up_ne (by decide), up_ne (by decide), los, if_neg (by omega)]; exact hlo d a (by omega)
             · rw [up_at, lss, up_ne (by decide)]
               by_cases z : d = dep (N 32) i - 1
               · rw [if_pos z, if_pos (Or.inr ⟨e124, by omega⟩)]
               · rw [if_neg z, if_neg (by omega)]; exact hls d a (by omega)
             · rw [up_ne (show (33 : Nat) ≠ 38 by decide), up_ne (show (34 : Nat) ≠ 38 by decide), up_ne (show (34 : Nat) ≠ 33 by decide), up_ne (show (35 : Nat) ≠ 38 by decide), up_ne (show (35 : Nat) ≠ 33 by decide), up_ne (show (36 : Nat) ≠ 38 by decide), up_ne (show (36 : Nat) ≠ 33 by decide)]
               exact RA_bar hG ⟨hi.1, c61⟩ e124 hR (by funext x; rw [up_at]; rfl))
          | (rw [if_neg (by omega), if_pos c156] at ds
             have d1 : dep (N 32) i - 1 = dep (N 32) (i + 1) := by omega
             rw [d1, ← m32]
             have g38 : M187 38 = N 38 := by rw [b0 38 (by decide) (by decide) (by decide), up_ne (by decide)]
             have g37 : M187 37 = N 37 := by rw [b0 37 (by decide) (by decide) (by decide), up_ne (by decide)]
             have g33 : M187 33 = updI (N 33) (ls (N 32) (dep (N 32) i - 1) i) i := by rw [b0 33 (by decide) (by decide) (by decide)]; funext x; rw [up_at]; rfl
             have g31 : M187 31 = N 31 := by rw [b0 31 (by decide) (by decide) (by decide)]; exact e31
             refine l_rp2 M n hn hsc hb ht C M187 ⟨fun j hj => by rw [b0 j (by omega) (by omega) (by omega), up_ne (by omega)]; exact hF.1 j hj, fun x hx => by rw [g31]; exact hF.2 x hx⟩ (by rw [g31]; exact hz) (by rw [m32]; exact hx) (by rw [m32]; exact hG) (by rw [m32]; exact hbt) (i + 1) (by omega) (fun d a b => ?_) (fun d a b => ?_) ?_
             · rw [m32] at b ⊢
               rw [g37, los, if_neg (by omega)]; exact hlo d a (by omega)
             · rw [m32] at b ⊢
               rw [g38, lss, if_neg (by omega)]; exact hls d a (by omega)
             · rw [m32]
               exact RA_close hG ⟨hi.1, c61⟩ c156 hR g33 b1 b2 b3 b4 b5)
          | (rw [if_neg (by omega), if_neg (by omega), show dep (N 32) i + 0 = dep (N 32) i by omega] at ds
             rw [← ds]
             refine l_rp2 M n hn hsc hb ht C N hF hz hx hG hbt (i + 1) (by omega) (fun d a b => ?_) (fun d a b => ?_) (RA_oth (by omega) hR)
             · rw [los, if_neg (by omega)]; exact hlo d a (by omega)
             · rw [lss, if_neg (by omega)]; exact hls d a (by omega))
          | (exfalso; omega)
        · refine k_iload_n C dX8_replaceBy_159 rfl rfl ?_
          refine k_if_le C (tgt := 190) dX8_replaceBy_160 rfl (by omega) (fun c160 => ?_) (fun c160 => ?_)
          · refine k_iinc C dX8_replaceBy_190 (by decide) rfl ?_
            refine k_goto C (tgt := 55) dX8_replaceBy_193 rfl ?_
            refine k_cut2 C (lv' := [(0, _), (1, _), (2, _), (3, _), (4, _)]) ⟨rfl, rfl, rfl, rfl, rfl, trivial⟩ ?_
            first
            | (have e40 : N 32 i = 40 := c73
               rw [if_pos e40] at ds
               rw [← ds]
               have n32 : up (up N 37 (dep (N 32) i) i) 38 (dep (N 32) i) i 32 = N 32 := by rw [up_ne (by decide), up_ne (by decide)]
               have key := l_rp2 M n hn hsc hb ht C (up (up N 37 (dep (N 32) i) i) 38 (dep (N 32) i) i) ⟨fun j hj => by rw [up_ne (by omega), up_ne (by omega)]; exact hF.1 j hj, fun x hx => by rw [up_ne (by decide), up_ne (by decide)]; exact hF.2 x hx⟩ (by rw [up_ne (by decide), up_ne (by decide)]; exact hz) (by rw [n32]; exact hx) (by rw [n32]; exact hG) (by rw [n32]; exact hbt) (i + 1) (by omega)
               rw [n32] at key
               refine key (fun d a b => ?_) (fun d a b => ?_) ?_
               · rw [up_ne (by decide), up_at, los]
                 by_cases z : d = dep (N 32) i
                 · rw [if_pos z, if_pos ⟨e40, z.symm⟩]
                 · rw [if_neg z, if_neg (by omega)]; exact hlo d a (by omega)
               · rw [up_at, lss, up_ne (by decide)]
                 by_cases z : d = dep (N 32) i
                 · rw [if_pos z, if_pos (Or.inl ⟨e40, z.symm⟩)]
                 · rw [if_neg z, if_neg (by omega)]; exact hls d a (by omega)
               · rw [up_ne (by decide), up_ne (by decide), up_ne (by decide), up_ne (by decide), up_ne (by decide), up_ne (by decide), up_ne (by decide), up_ne (by decide)]
                 exact RA_oth (by omega) hR)
            | (have e124 : N 32 i = 124 := c113
               rw [if_neg (by omega), if_neg (by omega), show dep (N 32) i + 0 = dep (N 32) i by omega] at ds
               have n32 : up (up N 33 (ls (N 32) (dep (N 32) i - 1) i) i) 38 (dep (N 32) i - 1) i 32 = N 32 := by rw [up_ne (by decide), up_ne (by decide)]
               have key := l_rp2 M n hn hsc hb ht C (up (up N 33 (ls (N 32) (dep (N 32) i - 1) i) i) 38 (dep (N 32) i - 1) i) ⟨fun j hj => by rw [up_ne (by omega), up_ne (by omega)]; exact hF.1 j hj, fun x hx => by rw [up_ne (by decide), up_ne (by decide)]; exact hF.2 x hx⟩ (by rw [up_ne (by decide), up_ne (by decide)]; exact hz) (by rw [n32]; exact hx) (by rw [n32]; exact hG) (by rw [n32]; exact hbt) (i + 1) (by omega)
               rw [n32, ds] at key
               refine key (fun d a b => ?_) (fun d a b => ?_) ?_
               · rw [up_ne (by decide), up_ne (by decide), los, if_neg (by omega)]; exact hlo d a (by omega)
               · rw [up_at, lss, up_ne (by decide)]
                 by_cases z : d = dep (N 32) i - 1
                 · rw [if_pos z, if_pos (Or.inr ⟨e124, by omega⟩)]
                 · rw [if_neg z, if_neg (by omega)]; exact hls d a (by omega)
               · rw [up_ne (show (33 : Nat) ≠ 38 by decide), up_ne (show (34 : Nat) ≠ 38 by decide), up_ne (show (34 : Nat) ≠ 33 by decide), up_ne (show (35 : Nat) ≠ 38 by decide), up_ne (show (35 : Nat) ≠ 33 by decide), up_ne (show (36 : Nat) ≠ 38 by decide), up_ne (show (36 : Nat) ≠ 33 by decide)]
                 exact RA_bar hG ⟨hi.1, c61⟩ e124 hR (by funext x; rw [up_at]; rfl))
            | (rw [if_neg (by omega), if_pos c156] at ds
               have d1 : dep (N 32) i - 1 = dep (N 32) (i + 1) := by omega
               rw [d1, ← m32]
               have g38 : M187 38 = N 38 := by rw [b0 38 (by decide) (by decide) (by decide), up_ne (by decide)]
               have g37 : M187 37 = N 37 := by rw [b0 37 (by decide) (by decide) (by decide), up_ne (by decide)]
               have g33 : M187 33 = updI (N 33) (ls (N 32) (dep (N 32) i - 1) i) i := by rw [b0 33 (by decide) (by decide) (by decide)]; funext x; rw [up_at]; rfl
               have g31 : M187 31 = N 31 := by rw [b0 31 (by decide) (by decide) (by decide)]; exact e31
               refine l_rp2 M n hn hsc hb ht C M187 ⟨fun j hj => by rw [b0 j (by omega) (by omega) (by omega), up_ne (by omega)]; exact hF.1 j hj, fun x hx => by rw [g31]; exact hF.2 x hx⟩ (by rw [g31]; exact hz) (by rw [m32]; exact hx) (by rw [m32]; exact hG) (by rw [m32]; exact hbt) (i + 1) (by omega) (fun d a b => ?_) (fun d a b => ?_) ?_
               · rw [m32] at b ⊢
                 rw [g37, los, if_neg (by omega)]; exact hlo d a (by omega)
               · rw [m32] at b ⊢
                 rw [g38, lss, if_neg (by omega)]; exact hls d a (by omega)
               · rw [m32]
                 exact RA_close hG ⟨hi.1, c61⟩ c156 hR g33 b1 b2 b3 b4 b5)
            | (rw [if_neg (by omega), if_neg (by omega), show dep (N 32) i + 0 = dep (N 32) i by omega] at ds
               rw [← ds]
               refine l_rp2 M n hn hsc hb ht C N hF hz hx hG hbt (i + 1) (by omega) (fun d a b => ?_) (fun d a b => ?_) (RA_oth (by omega) hR)
               · rw [los, if_neg (by omega)]; exact hlo d a (by omega)
               · rw [lss, if_neg (by omega)]; exact hls d a (by omega))
            | (exfalso; omega)
          · refine k_iinc C dX8_replaceBy_163 (by decide) rfl ?_
            rw [show dep (N 32) i + -1 = dep (N 32) i - 1 by omega]
            refine k_aload_n C dX8_replaceBy_166 rfl rfl ?_
            refine k_aload_n C dX8_replaceBy_167 rfl rfl ?_
            refine k_getR C (j := 6) okC8 rfl (by decide) (by decide) rfl flX8_31 dX8_replaceBy_168 ?_
            refine k_iload_n C dX8_replaceBy_171 rfl rfl ?_
            refine k_iaload C rfl (by decide) (by decide) ⟨by omega, by omega⟩ dX8_replaceBy_172 (fun ld172 => ?_)
            have ld172b := ld172
            rw [hls (dep (N 32) i - 1) (by omega) (by omega)] at ld172b ⊢
            have lk := ls_ok (tx := N 32) (p := i) (d := dep (N 32) i - 1) hi.1 (by omega) (by omega)
            refine k_iload C dX8_replaceBy_173 rfl ?_
            refine k_callV C okX8_42 dX8_replaceBy_175 (c_endS N (ls (N 32) (dep (N 32) i - 1) i) i (by omega) (by omega)) rfl rfl (by decide) rfl (by decide) rfl (Nat.le_of_ble_eq_true rfl) (fun r175 M175 hr175 hp175 => ?_)
            subst hp175
            refine k_aload_n C dX8_replaceBy_178 rfl rfl ?_
            refine k_aload_n C dX8_replaceBy_179 rfl rfl ?_
            refine k_getR C (j := 5) okC8 rfl (by decide) (by decide) rfl flX8_28 dX8_replaceBy_180 ?_
            refine k_iload_n C dX8_replaceBy_183 rfl rfl ?_
            refine k_iaload C rfl (by decide) (by decide) ⟨by omega, by omega⟩ dX8_replaceBy_184 (fun ld184 => ?_)
            rw [up_ne (show (37 : Nat) ≠ 33 by decide), hlo (dep (N 32) i - 1) (by omega) (by omega)]
            have eop : lo (N 32) (dep (N 32) i - 1) i = opn (N 32) i := rfl
            rw [eop]
            have hE2 : ∀ y, 0 ≤ y → y ≤ i → (N 32 y = 124 ∨ N 32 y = 41) → up N 33 (ls (N 32) (dep (N 32) i - 1) i) i 33 (ls (N 32) (dep (N 32) y - 1) y) = y := fun y a b c => by
              rw [up_at]
              by_cases z : y = i
              · rw [z, if_pos rfl]
              · rw [if_neg (ls_inj hG ⟨a, by omega, c61⟩ c (Or.inr c156))]; exact hR.1 y a (by omega) c
            have e32 : up N 33 (ls (N 32) (dep (N 32) i - 1) i) i 32 = N 32 := up_ne (by decide)
            have e31 : up N 33 (ls (N 32) (dep (N 32) i - 1) i) i 31 = N 31 := up_ne (by decide)
            refine k_iload C dX8_replaceBy_185 rfl ?_
            refine k_callV C okX8_46 dX8_replaceBy_187 ((by have q := c_closeBracket (up N 33 (ls (N 32) (dep (N 32) i - 1) i) i) (by rw [e32, e31, hz]; exact hG) i (by rw [e31, hz]; omega) (by rw [e32]; exact c156) (by rw [e32]; exact hE2); rw [e32] at q; exact q)) rfl rfl (by decide) rfl (by decide) rfl (Nat.le_of_ble_eq_true rfl) (fun r187 M187 hr187 hp187 => ?_)
            obtain ⟨b0, b1, b2, b3, b4, b5⟩ := hp187
            rw [e32] at b1 b2 b3 b4
            rw [e31, hz] at b4
            rw [up_ne (show (34 : Nat) ≠ 33 by decide)] at b3
            rw [up_ne (show (35 : Nat) ≠ 33 by decide), up_ne (show (36 : Nat) ≠ 33 by decide)] at b5
            have m32 : M187 32 = N 32 := by rw [b0 32 (by decide) (by decide) (by decide)]; exact e32
            refine k_iinc C dX8_replaceBy_190 (by decide) rfl ?_
            refine k_goto C (tgt := 55) dX8_replaceBy_193 rfl ?_
            refine k_cut2 C (lv' := [(0, _), (1, _), (2, _), (3, _), (4, _)]) ⟨rfl, rfl, rfl, rfl, rfl, trivial⟩ ?_
            first
            | (have e40 : N 32 i = 40 := c73
               rw [if_pos e40] at ds
               rw [← ds]
               have n32 : up (up N 37 (dep (N 32) i) i) 38 (dep (N 32) i) i 32 = N 32 := by rw [up_ne (by decide), up_ne (by decide)]
               have key := l_rp2 M n hn hsc hb ht C (up (up N 37 (dep (N 32) i) i) 38 (dep (N 32) i) i) ⟨fun j hj => by rw [up_ne (by omega), up_ne (by omega)]; exact hF.1 j hj, fun x hx => by rw [up_ne (by decide), up_ne (by decide)]; exact hF.2 x hx⟩ (by rw [up_ne (by decide), up_ne (by decide)]; exact hz) (by rw [n32]; exact hx) (by rw [n32]; exact hG) (by rw [n32]; exact hbt) (i + 1) (by omega)
               rw [n32] at key
               refine key (fun d a b => ?_) (fun d a b => ?_) ?_
               · rw [up_ne (by decide), up_at, los]
                 by_cases z : d = dep (N 32) i
                 · rw [if_pos z, if_pos ⟨e40, z.symm⟩]
                 · rw [if_neg z, if_neg (by omega)]; exact hlo d a (by omega)
               · rw [up_at, lss, up_ne (by decide)]
                 by_cases z : d = dep (N 32) i
                 · rw [if_pos z, if_pos (Or.inl ⟨e40, z.symm⟩)]
                 · rw [if_neg z, if_neg (by omega)]; exact hls d a (by omega)
               · rw [up_ne (by decide), up_ne (by decide), up_ne (by decide), up_ne (by decide), up_ne (by decide), up_ne (by decide), up_ne (by decide), up_ne (by decide)]
                 exact RA_oth (by omega) hR)
            | (have e124 : N 32 i = 124 := c113
               rw [if_neg (by omega), if_neg (by omega), show dep (N 32) i + 0 = dep (N 32) i by omega] at ds
               have n32 : up (up N 33 (ls (N 32) (dep (N 32) i - 1) i) i) 38 (dep (N 32) i - 1) i 32 = N 32 := by rw [up_ne (by decide), up_ne (by decide)]
               have key := l_rp2 M n hn hsc hb ht C (up (up N 33 (ls (N 32) (dep (N 32) i - 1) i) i) 38 (dep (N 32) i - 1) i) ⟨fun j hj => by rw [up_ne (by omega), up_ne (by omega)]; exact hF.1 j hj, fun x hx => by rw [up_ne (by decide), up_ne (by decide)]; exact hF.2 x hx⟩ (by rw [up_ne (by decide), up_ne (by decide)]; exact hz) (by rw [n32]; exact hx) (by rw [n32]; exact hG) (by rw [n32]; exact hbt) (i + 1) (by omega)
               rw [n32, ds] at key
               refine key (fun d a b => ?_) (fun d a b => ?_) ?_
               · rw [up_ne (by decide), up_ne (by decide), los, if_neg (by omega)]; exact hlo d a (by omega)
               · rw [up_at, lss, up_ne (by decide)]
                 by_cases z : d = dep (N 32) i - 1
                 · rw [if_pos z, if_pos (Or.inr ⟨e124, by omega⟩)]
                 · rw [if_neg z, if_neg (by omega)]; exact hls d a (by omega)
               · rw [up_ne (show (33 : Nat) ≠ 38 by decide), up_ne (show (34 : Nat) ≠ 38 by decide), up_ne (show (34 : Nat) ≠ 33 by decide), up_ne (show (35 : Nat) ≠ 38 by decide), up_ne (show (35 : Nat) ≠ 33 by decide), up_ne (show (36 : Nat) ≠ 38 by decide), up_ne (show (36 : Nat) ≠ 33 by decide)]
                 exact RA_bar hG ⟨hi.1, c61⟩ e124 hR (by funext x; rw [up_at]; rfl))
            | (rw [if_neg (by omega), if_pos c156] at ds
               have d1 : dep (N 32) i - 1 = dep (N 32) (i + 1) := by omega
               rw [d1, ← m32]
               have g38 : M187 38 = N 38 := by rw [b0 38 (by decide) (by decide) (by decide), up_ne (by decide)]
               have g37 : M187 37 = N 37 := by rw [b0 37 (by decide) (by decide) (by decide), up_ne (by decide)]
               have g33 : M187 33 = updI (N 33) (ls (N 32) (dep (N 32) i - 1) i) i := by rw [b0 33 (by decide) (by decide) (by decide)]; funext x; rw [up_at]; rfl
               have g31 : M187 31 = N 31 := by rw [b0 31 (by decide) (by decide) (by decide)]; exact e31
               refine l_rp2 M n hn hsc hb ht C M187 ⟨fun j hj => by rw [b0 j (by omega) (by omega) (by omega), up_ne (by omega)]; exact hF.1 j hj, fun x hx => by rw [g31]; exact hF.2 x hx⟩ (by rw [g31]; exact hz) (by rw [m32]; exact hx) (by rw [m32]; exact hG) (by rw [m32]; exact hbt) (i + 1) (by omega) (fun d a b => ?_) (fun d a b => ?_) ?_
               · rw [m32] at b ⊢
                 rw [g37, los, if_neg (by omega)]; exact hlo d a (by omega)
               · rw [m32] at b ⊢
                 rw [g38, lss, if_neg (by omega)]; exact hls d a (by omega)
               · rw [m32]
                 exact RA_close hG ⟨hi.1, c61⟩ c156 hR g33 b1 b2 b3 b4 b5)
            | (rw [if_neg (by omega), if_neg (by omega), show dep (N 32) i + 0 = dep (N 32) i by omega] at ds
               rw [← ds]
               refine l_rp2 M n hn hsc hb ht C N hF hz hx hG hbt (i + 1) (by omega) (fun d a b => ?_) (fun d a b => ?_) (RA_oth (by omega) hR)
               · rw [los, if_neg (by omega)]; exact hlo d a (by omega)
               · rw [lss, if_neg (by omega)]; exact hls d a (by omega))
            | (exfalso; omega)
      · refine k_iload_n C dX8_replaceBy_116 rfl rfl ?_
        refine k_if_le C (tgt := 147) dX8_replaceBy_117 rfl (by omega) (fun c117 => ?_) (fun c117 => ?_)
        · refine k_aload_n C dX8_replaceBy_147 rfl rfl ?_
          refine k_getR C (j := 0) okC8 rfl (by decide) (by decide) rfl flX8_9 dX8_replaceBy_148 ?_
          refine k_iload C dX8_replaceBy_151 rfl ?_
          refine k_iaload C rfl (by decide) (by decide) ⟨by omega, by omega⟩ dX8_replaceBy_153 (fun ld153 => ?_)
          refine k_bipush C dX8_replaceBy_154 (by decide) ?_
          refine k_icmp_ne C (tgt := 190) dX8_replaceBy_156 rfl (by omega) (by omega) (fun c156 => ?_) (fun c156 => ?_)
          · refine k_iinc C dX8_replaceBy_190 (by decide) rfl ?_
            refine k_goto C (tgt := 55) dX8_replaceBy_193 rfl ?_
            refine k_cut2 C (lv' := [(0, _), (1, _), (2, _), (3, _), (4, _)]) ⟨rfl, rfl, rfl, rfl, rfl, trivial⟩ ?_
            first
            | (have e40 : N 32 i = 40 := c73
               rw [if_pos e40] at ds
               rw [← ds]
               have n32 : up (up N 37 (dep (N 32) i) i) 38 (dep (N 32) i) i 32 = N 32 := by rw [up_ne (by decide), up_ne (by decide)]
               have key := l_rp2 M n hn hsc hb ht C (up (up N 37 (dep (N 32) i) i) 38 (dep (N 32) i) i) ⟨fun j hj => by rw [up_ne (by omega), up_ne (by omega)]; exact hF.1 j hj, fun x hx => by rw [up_ne (by decide), up_ne (by decide)]; exact hF.2 x hx⟩ (by rw [up_ne (by decide), up_ne (by decide)]; exact hz) (by rw [n32]; exact hx) (by rw [n32]; exact hG) (by rw [n32]; exact hbt) (i + 1) (by omega)
               rw [n32] at key
               refine key (fun d a b => ?_) (fun d a b => ?_) ?_
               · rw [up_ne (by decide), up_at, los]
                 by_cases z : d = dep (N 32) i
                 · rw [if_pos z, if_pos ⟨e40, z.symm⟩]
                 · rw [if_neg z, if_neg (by omega)]; exact hlo d a (by omega)
               · rw [up_at, lss, up_ne (by decide)]
                 by_cases z : d = dep (N 32) i
                 · rw [if_pos z, if_pos (Or.inl ⟨e40, z.symm⟩)]
                 · rw [if_neg z, if_neg (by omega)]; exact hls d a (by omega)
               · rw [up_ne (by decide), up_ne (by decide), up_ne (by decide), up_ne (by decide), up_ne (by decide), up_ne (by decide), up_ne (by decide), up_ne (by decide)]
                 exact RA_oth (by omega) hR)
            | (have e124 : N 32 i = 124 := c113
               rw [if_neg (by omega), if_neg (by omega), show dep (N 32) i + 0 = dep (N 32) i by omega] at ds
               have n32 : up (up N 33 (ls (N 32) (dep (N 32) i - 1) i) i) 38 (dep (N 32) i - 1) i 32 = N 32 := by rw [up_ne (by decide), up_ne (by decide)]
               have key := l_rp2 M n hn hsc hb ht C (up (up N 33 (ls (N 32) (dep (N 32) i - 1) i) i) 38 (dep (N 32) i - 1) i) ⟨fun j hj => by rw [up_ne (by omega), up_ne (by omega)]; exact hF.1 j hj, fun x hx => by rw [up_ne (by decide), up_ne (by decide)]; exact hF.2 x hx⟩ (by rw [up_ne (by decide), up_ne (by decide)]; exact hz) (by rw [n32]; exact hx) (by rw [n32]; exact hG) (by rw [n32]; exact hbt) (i + 1) (by omega)
               rw [n32, ds] at key
               refine key (fun d a b => ?_) (fun d a b => ?_) ?_
               · rw [up_ne (by decide), up_ne (by decide), los, if_neg (by omega)]; exact hlo d a (by omega)
               · rw [up_at, lss, up_ne (by decide)]
                 by_cases z : d = dep (N 32) i - 1
                 · rw [if_pos z, if_pos (Or.inr ⟨e124, by omega⟩)]
                 · rw [if_neg z, if_neg (by omega)]; exact hls d a (by omega)
               · rw [up_ne (show (33 : Nat) ≠ 38 by decide), up_ne (show (34 : Nat) ≠ 38 by decide), up_ne (show (34 : Nat) ≠ 33 by decide), up_ne (show (35 : Nat) ≠ 38 by decide), up_ne (show (35 : Nat) ≠ 33 by decide), up_ne (show (36 : Nat) ≠ 38 by decide), up_ne (show (36 : Nat) ≠ 33 by decide)]
                 exact RA_bar hG ⟨hi.1, c61⟩ e124 hR (by funext x; rw [up_at]; rfl))
            | (rw [if_neg (by omega), if_pos c156] at ds
               have d1 : dep (N 32) i - 1 = dep (N 32) (i + 1) := by omega
               rw [d1, ← m32]
               have g38 : M187 38 = N 38 := by rw [b0 38 (by decide) (by decide) (by decide), up_ne (by decide)]
               have g37 : M187 37 = N 37 := by rw [b0 37 (by decide) (by decide) (by decide), up_ne (by decide)]
               have g33 : M187 33 = updI (N 33) (ls (N 32) (dep (N 32) i - 1) i) i := by rw [b0 33 (by decide) (by decide) (by decide)]; funext x; rw [up_at]; rfl
               have g31 : M187 31 = N 31 := by rw [b0 31 (by decide) (by decide) (by decide)]; exact e31
               refine l_rp2 M n hn hsc hb ht C M187 ⟨fun j hj => by rw [b0 j (by omega) (by omega) (by omega), up_ne (by omega)]; exact hF.1 j hj, fun x hx => by rw [g31]; exact hF.2 x hx⟩ (by rw [g31]; exact hz) (by rw [m32]; exact hx) (by rw [m32]; exact hG) (by rw [m32]; exact hbt) (i + 1) (by omega) (fun d a b => ?_) (fun d a b => ?_) ?_
               · rw [m32] at b ⊢
                 rw [g37, los, if_neg (by omega)]; exact hlo d a (by omega)
               · rw [m32] at b ⊢
                 rw [g38, lss, if_neg (by omega)]; exact hls d a (by omega)
               · rw [m32]
                 exact RA_close hG ⟨hi.1, c61⟩ c156 hR g33 b1 b2 b3 b4 b5)
            | (rw [if_neg (by omega), if_neg (by omega), show dep (N 32) i + 0 = dep (N 32) i by omega] at ds
               rw [← ds]
               refine l_rp2 M n hn hsc hb ht C N hF hz hx hG hbt (i + 1) (by omega) (fun d a b => ?_) (fun d a b => ?_) (RA_oth (by omega) hR)
               · rw [los, if_neg (by omega)]; exact hlo d a (by omega)
               · rw [lss, if_neg (by omega)]; exact hls d a (by omega))
            | (exfalso; omega)
          · refine k_iload_n C dX8_replaceBy_159 rfl rfl ?_
            refine k_if_le C (tgt := 190) dX8_replaceBy_160 rfl (by omega) (fun c160 => ?_) (fun c160 => ?_)
            · refine k_iinc C dX8_replaceBy_190 (by decide) rfl ?_
              refine k_goto C (tgt := 55) dX8_replaceBy_193 rfl ?_
              refine k_cut2 C (lv' := [(0, _), (1, _), (2, _), (3, _), (4, _)]) ⟨rfl, rfl, rfl, rfl, rfl, trivial⟩ ?_
              first
              | (have e40 : N 32 i = 40 := c73
                 rw [if_pos e40] at ds
                 rw [← ds]
                 have n32 : up (up N 37 (dep (N 32) i) i) 38 (dep (N 32) i) i 32 = N 32 := by rw [up_ne (by decide), up_ne (by decide)]
                 have key := l_rp2 M n hn hsc hb ht C (up (up N 37 (dep (N 32) i) i) 38 (dep (N 32) i) i) ⟨fun j hj => by rw [up_ne (by omega), up_ne (by omega)]; exact hF.1 j hj, fun x hx => by rw [up_ne (by decide), up_ne (by decide)]; exact hF.2 x hx⟩ (by rw [up_ne (by decide), up_ne (by decide)]; exact hz) (by rw [n32]; exact hx) (by rw [n32]; exact hG) (by rw [n32]; exact hbt) (i + 1) (by omega)
                 rw [n32] at key
                 refine key (fun d a b => ?_) (fun d a b => ?_) ?_
                 · rw [up_ne (by decide), up_at, los]
                   by_cases z : d = dep (N 32) i
                   · rw [if_pos z, if_pos ⟨e40, z.symm⟩]
                   · rw [if_neg z, if_neg (by omega)]; exact hlo d a (by omega)
                 · rw [up_at, lss, up_ne (by decide)]
                   by_cases z : d = dep (N 32) i
                   · rw [if_pos z, if_pos (Or.inl ⟨e40, z.symm⟩)]
                   · rw [if_neg z, if_neg (by omega)]; exact hls d a (by omega)
                 · rw [up_ne (by decide), up_ne (by decide), up_ne (by decide), up_ne (by decide), up_ne (by decide), up_ne (by decide), up_ne (by decide), up_ne (by decide)]
                   exact RA_oth (by omega) hR)
              | (have e124 : N 32 i = 124 := c113
                 rw [if_neg (by omega), if_neg (by omega), show dep (N 32) i + 0 = dep (N 32) i by omega] at ds
                 have n32 : up (up N 33 (ls (N 32) (dep (N 32) i - 1) i) i) 38 (dep (N 32) i - 1) i 32 = N 32 := by rw [up_ne (by decide), up_ne (by decide)]
                 have key := l_rp2 M n hn hsc hb ht C (up (up N 33 (ls (N 32) (dep (N 32) i - 1) i) i) 38 (dep (N 32) i - 1) i) ⟨fun j hj => by rw [up_ne (by omega), up_ne (by omega)]; exact hF.1 j hj, fun x hx => by rw [up_ne (by decide), up_ne (by decide)]; exact hF.2 x hx⟩ (by rw [up_ne (by decide), up_ne (by decide)]; exact hz) (by rw [n32]; exact hx) (by rw [n32]; exact hG) (by rw [n32]; exact hbt) (i + 1) (by omega)
                 rw [n32, ds] at key
                 refine key (fun d a b => ?_) (fun d a b => ?_) ?_
                 · rw [up_ne (by decide), up_ne (by decide), los, if_neg (by omega)]; exact hlo d a (by omega)
                 · rw [up_at, lss, up_ne (by decide)]
                   by_cases z : d = dep (N 32) i - 1
                   · rw [if_pos z, if_pos (Or.inr ⟨e124, by omega⟩)]
                   · rw [if_neg z, if_neg (by omega)]; exact hls d a (by omega)
                 · rw [up_ne (show (33 : Nat) ≠ 38 by decide), up_ne (show (34 : Nat) ≠ 38 by decide), up_ne (show (34 : Nat) ≠ 33 by decide), up_ne (show (35 : Nat) ≠ 38 by decide), up_ne (show (35 : Nat) ≠ 33 by decide), up_ne (show (36 : Nat) ≠ 38 by decide), up_ne (show (36 : Nat) ≠ 33 by decide)]
                   exact RA_bar hG ⟨hi.1, c61⟩ e124 hR (by funext x; rw [up_at]; rfl))
              | (rw [if_neg (by omega), if_pos c156] at ds
                 have d1 : dep (N 32) i - 1 = dep (N 32) (i + 1) := by omega
                 rw [d1, ← m32]
                 have g38 : M187 38 = N 38 := by rw [b0 38 (by decide) (by decide) (by decide), up_ne (by decide)]
                 have g37 : M187 37 = N 37 := by rw [b0 37 (by decide) (by decide) (by decide), up_ne (by decide)]
                 have g33 : M187 33 = updI (N 33) (ls (N 32) (dep (N 32) i - 1) i) i := by rw [b0 33 (by decide) (by decide) (by decide)]; funext x; rw [up_at]; rfl
                 have g31 : M187 31 = N 31 := by rw [b0 31 (by decide) (by decide) (by decide)]; exact e31
                 refine l_rp2 M n hn hsc hb ht C M187 ⟨fun j hj => by rw [b0 j (by omega) (by omega) (by omega), up_ne (by omega)]; exact hF.1 j hj, fun x hx => by rw [g31]; exact hF.2 x hx⟩ (by rw [g31]; exact hz) (by rw [m32]; exact hx) (by rw [m32]; exact hG) (by rw [m32]; exact hbt) (i + 1) (by omega) (fun d a b => ?_) (fun d a b => ?_) ?_
                 · rw [m32] at b ⊢
                   rw [g37, los, if_neg (by omega)]; exact hlo d a (by omega)
                 · rw [m32] at b ⊢
                   rw [g38, lss, if_neg (by omega)]; exact hls d a (by omega)
                 · rw [m32]
                   exact RA_close hG ⟨hi.1, c61⟩ c156 hR g33 b1 b2 b3 b4 b5)
              | (rw [if_neg (by omega), if_neg (by omega), show dep (N 32) i + 0 = dep (N 32) i by omega] at ds
                 rw [← ds]
                 refine l_rp2 M n hn hsc hb ht C N hF hz hx hG hbt (i + 1) (by omega) (fun d a b => ?_) (fun d a b => ?_) (RA_oth (by omega) hR)
                 · rw [los, if_neg (by omega)]; exact hlo d a (by omega)
                 · rw [lss, if_neg (by omega)]; exact hls d a (by omega))
              | (exfalso; omega)
            · refine k_iinc C dX8_replaceBy_163 (by decide) rfl ?_
              rw [show dep (N 32) i + -1 = dep (N 32) i - 1 by omega]
              refine k_aload_n C dX8_replaceBy_166 rfl rfl ?_
              refine k_aload_n C dX8_replaceBy_167 rfl rfl ?_
              refine k_getR C (j := 6) okC8 rfl (by decide) (by decide) rfl flX8_31 dX8_replaceBy_168 ?_
              refine k_iload_n C dX8_replaceBy_171 rfl rfl ?_
              refine k_iaload C rfl (by decide) (by decide) ⟨by omega, by omega⟩ dX8_replaceBy_172 (fun ld172 => ?_)
              have ld172b := ld172
              rw [hls (dep (N 32) i - 1) (by omega) (by omega)] at ld172b ⊢
              have lk := ls_ok (tx := N 32) (p := i) (d := dep (N 32) i - 1) hi.1 (by omega) (by omega)
              refine k_iload C dX8_replaceBy_173 rfl ?_
              refine k_callV C okX8_42 dX8_replaceBy_175 (c_endS N (ls (N 32) (dep (N 32) i - 1) i) i (by omega) (by omega)) rfl rfl (by decide) rfl (by decide) rfl (Nat.le_of_ble_eq_true rfl) (fun r175 M175 hr175 hp175 => ?_)
              subst hp175
              refine k_aload_n C dX8_replaceBy_178 rfl rfl ?_
              refine k_aload_n C dX8_replaceBy_179 rfl rfl ?_
              refine k_getR C (j := 5) okC8 rfl (by decide) (by decide) rfl flX8_28 dX8_replaceBy_180 ?_
              refine k_iload_n C dX8_replaceBy_183 rfl rfl ?_
              refine k_iaload C rfl (by decide) (by decide) ⟨by omega, by omega⟩ dX8_replaceBy_184 (fun ld184 => ?_)
              rw [up_ne (show (37 : Nat) ≠ 33 by decide), hlo (dep (N 32) i - 1) (by omega) (by omega)]
              have eop : lo (N 32) (dep (N 32) i - 1) i = opn (N 32) i := rfl
              rw [eop]
              have hE2 : ∀ y, 0 ≤ y → y ≤ i → (N 32 y = 124 ∨ N 32 y = 41) → up N 33 (ls (N 32) (dep (N 32) i - 1) i) i 33 (ls (N 32) (dep (N 32) y - 1) y) = y := fun y a b c => by
                rw [up_at]
                by_cases z : y = i
                · rw [z, if_pos rfl]
                · rw [if_neg (ls_inj hG ⟨a, by omega, c61⟩ c (Or.inr c156))]; exact hR.1 y a (by omega) c
              have e32 : up N 33 (ls (N 32) (dep (N 32) i - 1) i) i 32 = N 32 := up_ne (by decide)
              have e31 : up N 33 (ls (N 32) (dep (N 32) i - 1) i) i 31 = N 31 := up_ne (by decide)
              refine k_iload C dX8_replaceBy_185 rfl ?_
              refine k_callV C okX8_46 dX8_replaceBy_187 ((by have q := c_closeBracket (up N 33 (ls (N 32) (dep (N 32) i - 1) i) i) (by rw [e32, e31, hz]; exact hG) i (by rw [e31, hz]; omega) (by rw [e32]; exact c156) (by rw [e32]; exact hE2); rw [e32] at q; exact q)) rfl rfl (by decide) rfl (by decide) rfl (Nat.le_of_ble_eq_true rfl) (fun r187 M187 hr187 hp187 => ?_)
              obtain ⟨b0, b1, b2, b3, b4, b5⟩ := hp187
              rw [e32] at b1 b2 b3 b4
              rw [e31, hz] at b4
              rw [up_ne (show (34 : Nat) ≠ 33 by decide)] at b3
              rw [up_ne (show (35 : Nat) ≠ 33 by decide), up_ne (show (36 : Nat) ≠ 33 by decide)] at b5
              have m32 : M187 32 = N 32 := by rw [b0 32 (by decide) (by decide) (by decide)]; exact e32
              refine k_iinc C dX8_replaceBy_190 (by decide) rfl ?_
              refine k_goto C (tgt := 55) dX8_replaceBy_193 rfl ?_
              refine k_cut2 C (lv' := [(0, _), (1, _), (2, _), (3, _), (4, _)]) ⟨rfl, rfl, rfl, rfl, rfl, trivial⟩ ?_
              first
              | (have e40 : N 32 i = 40 := c73
                 rw [if_pos e40] at ds
                 rw [← ds]
                 have n32 : up (up N 37 (dep (N 32) i) i) 38 (dep (N 32) i) i 32 = N 32 := by rw [up_ne (by decide), up_ne (by decide)]
                 have key := l_rp2 M n hn hsc hb ht C (up (up N 37 (dep (N 32) i) i) 38 (dep (N 32) i) i) ⟨fun j hj => by rw [up_ne (by omega), up_ne (by omega)]; exact hF.1 j hj, fun x hx => by rw [up_ne (by decide), up_ne (by decide)]; exact hF.2 x hx⟩ (by rw [up_ne (by decide), up_ne (by decide)]; exact hz) (by rw [n32]; exact hx) (by rw [n32]; exact hG) (by rw [n32]; exact hbt) (i + 1) (by omega)
                 rw [n32] at key
                 refine key (fun d a b => ?_) (fun d a b => ?_) ?_
                 · rw [up_ne (by decide), up_at, los]
                   by_cases z : d = dep (N 32) i
                   · rw [if_pos z, if_pos ⟨e40, z.symm⟩]
                   · rw [if_neg z, if_neg (by omega)]; exact hlo d a (by omega)
                 · rw [up_at, lss, up_ne (by decide)]
                   by_cases z : d = dep (N 32) i
                   · rw [if_pos z, if_pos (Or.inl ⟨e40, z.symm⟩)]
                   · rw [if_neg z, if_neg (by omega)]; exact hls d a (by omega)
                 · rw [up_ne (by decide), up_ne (by decide), up_ne (by decide), up_ne (by decide), up_ne (by decide), up_ne (by decide), up_ne (by decide), up_ne (by decide)]
                   exact RA_oth (by omega) hR)
              | (have e124 : N 32 i = 124 := c113
                 rw [if_neg (by omega), if_neg (by omega), show dep (N 32) i + 0 = dep (N 32) i by omega] at ds
                 have n32 : up (up N 33 (ls (N 32) (dep (N 32) i - 1) i) i) 38 (dep (N 32) i - 1) i 32 = N 32 := by rw [up_ne (by decide), up_ne (by decide)]
                 have key := l_rp2 M n hn hsc hb ht C (up (up N 33 (ls (N 32) (dep (N 32) i - 1) i) i) 38 (dep (N 32) i - 1) i) ⟨fun j hj => by rw [up_ne (by omega), up_ne (by omega)]; exact hF.1 j hj, fun x hx => by rw [up_ne (by decide), up_ne (by decide)]; exact hF.2 x hx⟩ (by rw [up_ne (by decide), up_ne (by decide)]; exact hz) (by rw [n32]; exact hx) (by rw [n32]; exact hG) (by rw [n32]; exact hbt) (i + 1) (by omega)
                 rw [n32, ds] at key
                 refine key (fun d a b => ?_) (fun d a b => ?_) ?_
                 · rw [up_ne (by decide), up_ne (by decide), los, if_neg (by omega)]; exact hlo d a (by omega)
                 · rw [up_at, lss, up_ne (by decide)]
                   by_cases z : d = dep (N 32) i - 1
                   · rw [if_pos z, if_pos (Or.inr ⟨e124, by omega⟩)]
                   · rw [if_neg z, if_neg (by omega)]; exact hls d a (by omega)
                 · rw [up_ne (show (33 : Nat) ≠ 38 by decide), up_ne (show (34 : Nat) ≠ 38 by decide), up_ne (show (34 : Nat) ≠ 33 by decide), up_ne (show (35 : Nat) ≠ 38 by decide), up_ne (show (35 : Nat) ≠ 33 by decide), up_ne (show (36 : Nat) ≠ 38 by decide), up_ne (show (36 : Nat) ≠ 33 by decide)]
                   exact RA_bar hG ⟨hi.1, c61⟩ e124 hR (by funext x; rw [up_at]; rfl))
              | (rw [if_neg (by omega), if_pos c156] at ds
                 have d1 : dep (N 32) i - 1 = dep (N 32) (i + 1) := by omega
                 rw [d1, ← m32]
                 have g38 : M187 38 = N 38 := by rw [b0 38 (by decide) (by decide) (by decide), up_ne (by decide)]
                 have g37 : M187 37 = N 37 := by rw [b0 37 (by decide) (by decide) (by decide), up_ne (by decide)]
                 have g33 : M187 33 = updI (N 33) (ls (N 32) (dep (N 32) i - 1) i) i := by rw [b0 33 (by decide) (by decide) (by decide)]; funext x; rw [up_at]; rfl
                 have g31 : M187 31 = N 31 := by rw [b0 31 (by decide) (by decide) (by decide)]; exact e31
                 refine l_rp2 M n hn hsc hb ht C M187 ⟨fun j hj => by rw [b0 j (by omega) (by omega) (by omega), up_ne (by omega)]; exact hF.1 j hj, fun x hx => by rw [g31]; exact hF.2 x hx⟩ (by rw [g31]; exact hz) (by rw [m32]; exact hx) (by rw [m32]; exact hG) (by rw [m32]; exact hbt) (i + 1) (by omega) (fun d a b => ?_) (fun d a b => ?_) ?_
                 · rw [m32] at b ⊢
                   rw [g37, los, if_neg (by omega)]; exact hlo d a (by omega)
                 · rw [m32] at b ⊢
                   rw [g38, lss, if_neg (by omega)]; exact hls d a (by omega)
                 · rw [m32]
                   exact RA_close hG ⟨hi.1, c61⟩ c156 hR g33 b1 b2 b3 b4 b5)
              | (rw [if_neg (by omega), if_neg (by omega), show dep (N 32) i + 0 = dep (N 32) i by omega] at ds
                 rw [← ds]
                 refine l_rp2 M n hn hsc hb ht C N hF hz hx hG hbt (i + 1) (by omega) (fun d a b => ?_) (fun d a b => ?_) (RA_oth (by omega) hR)
                 · rw [los, if_neg (by omega)]; exact hlo d a (by omega)
                 · rw [lss, if_neg (by omega)]; exact hls d a (by omega))
              | (exfalso; omega)
        · refine k_aload_n C dX8_replaceBy_120 rfl rfl ?_
          refine k_aload_n C dX8_replaceBy_121 rfl rfl ?_
          refine k_getR C (j := 6) okC8 rfl (by decide) (by decide) rfl flX8_31 dX8_replaceBy_122 ?_
          refine k_iload_n C dX8_replaceBy_125 rfl rfl ?_
          refine k_iconst C dX8_replaceBy_126 ?_
          refine k_isub C dX8_replaceBy_127 ?_
          refine k_iaload C rfl (by decide) (by decide) ⟨by omega, by omega⟩ dX8_replaceBy_128 (fun ld128 => ?_)
          have ld128b := ld128
          rw [hls (dep (N 32) i - 1) (by omega) (by omega)] at ld128b ⊢
          have lk := ls_ok (tx := N 32) (p := i) (d := dep (N 32) i - 1) hi.1 (by omega) (by omega)
          refine k_iload C dX8_replaceBy_129 rfl ?_
          refine k_callV C okX8_42 dX8_replaceBy_131 (c_endS N (ls (N 32) (dep (N 32) i - 1) i) i (by omega) (by omega)) rfl rfl (by decide) rfl (by decide) rfl (Nat.le_of_ble_eq_true rfl) (fun r131 M131 hr131 hp131 => ?_)
          subst hp131
          refine k_aload_n C dX8_replaceBy_134 rfl rfl ?_
          refine k_getR C (j := 6) okC8 rfl (by decide) (by decide) rfl flX8_31 dX8_replaceBy_135 ?_
          refine k_iload_n C dX8_replaceBy_138 rfl rfl ?_
          refine k_iconst C dX8_replaceBy_139 ?_
          refine k_isub C dX8_replaceBy_140 ?_
          refine k_iload C dX8_replaceBy_141 rfl ?_
          refine k_iastore C rfl (by decide) (by decide) ⟨by omega, by omega⟩ (by omega) dX8_replaceBy_143 ?_
          refine k_goto C (tgt := 190) dX8_replaceBy_144 rfl ?_
          refine k_iinc C dX8_replaceBy_190 (by decide) rfl ?_
          refine k_goto C (tgt := 55) dX8_replaceBy_193 rfl ?_
          refine k_cut2 C (lv' := [(0, _), (1, _), (2, _), (3, _), (4, _)]) ⟨rfl, rfl, rfl, rfl, rfl, trivial⟩ ?_
          first
          | (have e40 : N 32 i = 40 := c73
             rw [if_pos e40] at ds
             rw [← ds]
             have n32 : up (up N 37 (dep (N 32) i) i) 38 (dep (N 32) i) i 32 = N 32 := by rw [up_ne (by decide), up_ne (by decide)]
             have key := l_rp2 M n hn hsc hb ht C (up (up N 37 (dep (N 32) i) i) 38 (dep (N 32) i) i) ⟨fun j hj => by rw [up_ne (by omega), up_ne (by omega)]; exact hF.1 j hj, fun x hx => by rw [up_ne (by decide), up_ne (by decide)]; exact hF.2 x hx⟩ (by rw [up_ne (by decide), up_ne (by decide)]; exact hz) (by rw [n32]; exact hx) (by rw [n32]; exact hG) (by rw [n32]; exact hbt) (i + 1) (by omega)
             rw [n32] at key
             refine key (fun d a b => ?_) (fun d a b => ?_) ?_
             · rw [up_ne (by decide), up_at, los]
               by_cases z : d = dep (N 32) i
               · rw [if_pos z, if_pos ⟨e40, z.symm⟩]
               · rw [if_neg z, if_neg (by omega)]; exact hlo d a (by omega)
             · rw [up_at, lss, up_ne (by decide)]
               by_cases z : d = dep (N 32) i
               · rw [if_pos z, if_pos (Or.inl ⟨e40, z.symm⟩)]
               · rw [if_neg z, if_neg (by omega)]; exact hls d a (by omega)
             · rw [up_ne (by decide), up_ne (by decide), up_ne (by decide), up_ne (by decide), up_ne (by decide), up_ne (by decide), up_ne (by decide), up_ne (by decide)]
               exact RA_oth (by omega) hR)
          | (have e124 : N 32 i = 124 := c113
             rw [if_neg (by omega), if_neg (by omega), show dep (N 32) i + 0 = dep (N 32) i by omega] at ds
             have n32 : up (up N 33 (ls (N 32) (dep (N 32) i - 1) i) i) 38 (dep (N 32) i - 1) i 32 = N 32 := by rw [up_ne (by decide), up_ne (by decide)]
             have key := l_rp2 M n hn hsc hb ht C (up (up N 33 (ls (N 32) (dep (N 32) i - 1) i) i) 38 (dep (N 32) i - 1) i) ⟨fun j hj => by rw [up_ne (by omega), up_ne (by omega)]; exact hF.1 j hj, fun x hx => by rw [up_ne (by decide), up_ne (by decide)]; exact hF.2 x hx⟩ (by rw [up_ne (by decide), up_ne (by decide)]; exact hz) (by rw [n32]; exact hx) (by rw [n32]; exact hG) (by rw [n32]; exact hbt) (i + 1) (by omega)
             rw [n32, ds] at key
             refine key (fun d a b => ?_) (fun d a b => ?_) ?_
             · rw [up_ne (by decide), up_ne (by decide), los, if_neg (by omega)]; exact hlo d a (by omega)
             · rw [up_at, lss, up_ne (by decide)]
               by_cases z : d = dep (N 32) i - 1
               · rw [if_pos z, if_pos (Or.inr ⟨e124, by omega⟩)]
               · rw [if_neg z, if_neg (by omega)]; exact hls d a (by omega)
             · rw [up_ne (show (33 : Nat) ≠ 38 by decide), up_ne (show (34 : Nat) ≠ 38 by decide), up_ne (show (34 : Nat) ≠ 33 by decide), up_ne (show (35 : Nat) ≠ 38 by decide), up_ne (show (35 : Nat) ≠ 33 by decide), up_ne (show (36 : Nat) ≠ 38 by decide), up_ne (show (36 : Nat) ≠ 33 by decide)]
               exact RA_bar hG ⟨hi.1, c61⟩ e124 hR (by funext x; rw [up_at]; rfl))
          | (rw [if_neg (by omega), if_pos c156] at ds
             have d1 : dep (N 32) i - 1 = dep (N 32) (i + 1) := by omega
             rw [d1, ← m32]
             have g38 : M187 38 = N 38 := by rw [b0 38 (by decide) (by decide) (by decide), up_ne (by decide)]
             have g37 : M187 37 = N 37 := by rw [b0 37 (by decide) (by decide) (by decide), up_ne (by decide)]
             have g33 : M187 33 = updI (N 33) (ls (N 32) (dep (N 32) i - 1) i) i := by rw [b0 33 (by decide) (by decide) (by decide)]; funext x; rw [up_at]; rfl
             have g31 : M187 31 = N 31 := by rw [b0 31 (by decide) (by decide) (by decide)]; exact e31
             refine l_rp2 M n hn hsc hb ht C M187 ⟨fun j hj => by rw [b0 j (by omega) (by omega) (by omega), up_ne (by omega)]; exact hF.1 j hj, fun x hx => by rw [g31]; exact hF.2 x hx⟩ (by rw [g31]; exact hz) (by rw [m32]; exact hx) (by rw [m32]; exact hG) (by rw [m32]; exact hbt) (i + 1) (by omega) (fun d a b => ?_) (fun d a b => ?_) ?_
             · rw [m32] at b ⊢
               rw [g37, los, if_neg (by omega)]; exact hlo d a (by omega)
             · rw [m32] at b ⊢
               rw [g38, lss, if_neg (by omega)]; exact hls d a (by omega)
             · rw [m32]
               exact RA_close hG ⟨hi.1, c61⟩ c156 hR g33 b1 b2 b3 b4 b5)
          | (rw [if_neg (by omega), if_neg (by omega), show dep (N 32) i + 0 = dep (N 32) i by omega] at ds
             rw [← ds]
             refine l_rp2 M n hn hsc hb ht C N hF hz hx hG hbt (i + 1) (by omega) (fun d a b => ?_) (fun d a b => ?_) (RA_oth (by omega) hR)
             · rw [los, if_neg (by omega)]; exact hlo d a (by omega)
             · rw [lss, if_neg (by omega)]; exact hls d a (by omega))
          | (exfalso; omega)
    · refine k_iload_n C dX8_replaceBy_76 rfl rfl ?_
      refine k_bipush C dX8_replaceBy_77 (by decide) ?_
      refine k_icmp_ge C (tgt := 104) dX8_replaceBy_79 rfl (by omega) (by omega) (fun c79 => ?_) (fun c79 => ?_)
      · refine k_aload_n C dX8_replaceBy_104 rfl rfl ?_
        refine k_getR C (j := 0) okC8 rfl (by decide) (by decide) rfl flX8_9 dX8_replaceBy_105 ?_
        refine k_iload C dX8_replaceBy_108 rfl ?_
        refine k_iaload C rfl (by decide) (by decide) ⟨by omega, by omega⟩ dX8_replaceBy_110 (fun ld110 => ?_)
        refine k_bipush C dX8_replaceBy_111 (by decide) ?_
        refine k_icmp_ne C (tgt := 147) dX8_replaceBy_113 rfl (by omega) (by omega) (fun c113 => ?_) (fun c113 => ?_)
        · refine k_aload_n C dX8_replaceBy_147 rfl rfl ?_
          refine k_getR C (j := 0) okC8 rfl (by decide) (by decide) rfl flX8_9 dX8_replaceBy_148 ?_
          refine k_iload C dX8_replaceBy_151 rfl ?_
          refine k_iaload C rfl (by decide) (by decide) ⟨by omega, by omega⟩ dX8_replaceBy_153 (fun ld153 => ?_)
          refine k_bipush C dX8_replaceBy_154 (by decide) ?_
          refine k_icmp_ne C (tgt := 190) dX8_replaceBy_156 rfl (by omega) (by omega) (fun c156 => ?_) (fun c156 => ?_)
          · refine k_iinc C dX8_replaceBy_190 (by decide) rfl ?_
            refine k_goto C (tgt := 55) dX8_replaceBy_193 rfl ?_
            refine k_cut2 C (lv' := [(0, _), (1, _), (2, _), (3, _), (4, _)]) ⟨rfl, rfl, rfl, rfl, rfl, trivial⟩ ?_
            first
            | (have e40 : N 32 i = 40 := c73
               rw [if_pos e40] at ds
               rw [← ds]
               have n32 : up (up N 37 (dep (N 32) i) i) 38 (dep (N 32) i) i 32 = N 32 := by rw [up_ne (by decide), up_ne (by decide)]
               have key := l_rp2 M n hn hsc hb ht C (up (up N 37 (dep (N 32) i) i) 38 (dep (N 32) i) i) ⟨fun j hj => by rw [up_ne (by omega), up_ne (by omega)]; exact hF.1 j hj, fun x hx => by rw [up_ne (by decide), up_ne (by decide)]; exact hF.2 x hx⟩ (by rw [up_ne (by decide), up_ne (by decide)]; exact hz) (by rw [n32]; exact hx) (by rw [n32]; exact hG) (by rw [n32]; exact hbt) (i + 1) (by omega)
               rw [n32] at key
               refine key (fun d a b => ?_) (fun d a b => ?_) ?_
               · rw [up_ne (by decide), up_at, los]
                 by_cases z : d = dep (N 32) i
                 · rw [if_pos z, if_pos ⟨e40, z.symm⟩]
                 · rw [if_neg z, if_neg (by omega)]; exact hlo d a (by omega)
               · rw [up_at, lss, up_ne (by decide)]
                 by_cases z : d = dep (N 32) i
                 · rw [if_pos z, if_pos (Or.inl ⟨e40, z.symm⟩)]
                 · rw [if_neg z, if_neg (by omega)]; exact hls d a (by omega)
               · rw [up_ne (by decide), up_ne (by decide), up_ne (by decide), up_ne (by decide), up_ne (by decide), up_ne (by decide), up_ne (by decide), up_ne (by decide)]
                 exact RA_oth (by omega) hR)
            | (have e124 : N 32 i = 124 := c113
               rw [if_neg (by omega), if_neg (by omega), show dep (N 32) i + 0 = dep (N 32) i by omega] at ds
               have n32 : up (up N 33 (ls (N 32) (dep (N 32) i - 1) i) i) 38 (dep (N 32) i - 1) i 32 = N 32 := by rw [up_ne (by decide), up_ne (by decide)]
               have key := l_rp2 M n hn hsc hb ht C (up (up N 33 (ls (N 32) (dep (N 32) i - 1) i) i) 38 (dep (N 32) i - 1) i) ⟨fun j hj => by rw [up_ne (by omega), up_ne (by omega)]; exact hF.1 j hj, fun x hx => by rw [up_ne (by decide), up_ne (by decide)]; exact hF.2 x hx⟩ (by rw [up_ne (by decide), up_ne (by decide)]; exact hz) (by rw [n32]; exact hx) (by rw [n32]; exact hG) (by rw [n32]; exact hbt) (i + 1) (by omega)
               rw [n32, ds] at key
               refine key (fun d a b => ?_) (fun d a b => ?_) ?_
               · rw [up_ne (by decide), up_ne (by decide), los, if_neg (by omega)]; exact hlo d a (by omega)
               · rw [up_at, lss, up_ne (by decide)]
                 by_cases z : d = dep (N 32) i - 1
                 · rw [if_pos z, if_pos (Or.inr ⟨e124, by omega⟩)]
                 · rw [if_neg z, if_neg (by omega)]; exact hls d a (by omega)
               · rw [up_ne (show (33 : Nat) ≠ 38 by decide), up_ne (show (34 : Nat) ≠ 38 by decide), up_ne (show (34 : Nat) ≠ 33 by decide), up_ne (show (35 : Nat) ≠ 38 by decide), up_ne (show (35 : Nat) ≠ 33 by decide), up_ne (show (36 : Nat) ≠ 38 by decide), up_ne (show (36 : Nat) ≠ 33 by decide)]
                 exact RA_bar hG ⟨hi.1, c61⟩ e124 hR (by funext x; rw [up_at]; rfl))
            | (rw [if_neg (by omega), if_pos c156] at ds
               have d1 : dep (N 32) i - 1 = dep (N 32) (i + 1) := by omega
               rw [d1, ← m32]
               have g38 : M187 38 = N 38 := by rw [b0 38 (by decide) (by decide) (by decide), up_ne (by decide)]
               have g37 : M187 37 = N 37 := by rw [b0 37 (by decide) (by decide) (by decide), up_ne (by decide)]
               have g33 : M187 33 = updI (N 33) (ls (N 32) (dep (N 32) i - 1) i) i := by rw [b0 33 (by decide) (by decide) (by decide)]; funext x; rw [up_at]; rfl
               have g31 : M187 31 = N 31 := by rw [b0 31 (by decide) (by decide) (by decide)]; exact e31
               refine l_rp2 M n hn hsc hb ht C M187 ⟨fun j hj => by rw [b0 j (by omega) (by omega) (by omega), up_ne (by omega)]; exact hF.1 j hj, fun x hx => by rw [g31]; exact hF.2 x hx⟩ (by rw [g31]; exact hz) (by rw [m32]; exact hx) (by rw [m32]; exact hG) (by rw [m32]; exact hbt) (i + 1) (by omega) (fun d a b => ?_) (fun d a b => ?_) ?_
               · rw [m32] at b ⊢
                 rw [g37, los, if_neg (by omega)]; exact hlo d a (by omega)
               · rw [m32] at b ⊢
                 rw [g38, lss, if_neg (by omega)]; exact hls d a (by omega)
               · rw [m32]
                 exact RA_close hG ⟨hi.1, c61⟩ c156 hR g33 b1 b2 b3 b4 b5)
            | (rw [if_neg (by omega), if_neg (by omega), show dep (N 32) i + 0 = dep (N 32) i by omega] at ds
               rw [← ds]
               refine l_rp2 M n hn hsc hb ht C N hF hz hx hG hbt (i + 1) (by omega) (fun d a b => ?_) (fun d a b => ?_) (RA_oth (by omega) hR)
               · rw [los, if_neg (by omega)]; exact hlo d a (by omega)
               · rw [lss, if_neg (by omega)]; exact hls d a (by omega))
            | (exfalso; omega)
          · refine k_iload_n C dX8_replaceBy_159 rfl rfl ?_
            refine k_if_le C (tgt := 190) dX8_replaceBy_160 rfl (by omega) (fun c160 => ?_) (fun c160 => ?_)
            · refine k_iinc C dX8_replaceBy_190 (by decide) rfl ?_
              refine k_goto C (tgt := 55) dX8_replaceBy_193 rfl ?_
              refine k_cut2 C (lv' := [(0, _), (1, _), (2, _), (3, _), (4, _)]) ⟨rfl, rfl, rfl, rfl, rfl, trivial⟩ ?_
              first
              | (have e40 : N 32 i = 40 := c73
                 rw [if_pos e40] at ds
                 rw [← ds]
                 have n32 : up (up N 37 (dep (N 32) i) i) 38 (dep (N 32) i) i 32 = N 32 := by rw [up_ne (by decide), up_ne (by decide)]
                 have key := l_rp2 M n hn hsc hb ht C (up (up N 37 (dep (N 32) i) i) 38 (dep (N 32) i) i) ⟨fun j hj => by rw [up_ne (by omega), up_ne (by omega)]; exact hF.1 j hj, fun x hx => by rw [up_ne (by decide), up_ne (by decide)]; exact hF.2 x hx⟩ (by rw [up_ne (by decide), up_ne (by decide)]; exact hz) (by rw [n32]; exact hx) (by rw [n32]; exact hG) (by rw [n32]; exact hbt) (i + 1) (by omega)
                 rw [n32] at key
                 refine key (fun d a b => ?_) (fun d a b => ?_) ?_
                 · rw [up_ne (by decide), up_at, los]
                   by_cases z : d = dep (N 32) i
                   · rw [if_pos z, if_pos ⟨e40, z.symm⟩]
                   · rw [if_neg z, if_neg (by omega)]; exact hlo d a (by omega)
                 · rw [up_at, lss, up_ne (by decide)]
                   by_cases z : d = dep (N 32) i
                   · rw [if_pos z, if_pos (Or.inl ⟨e40, z.symm⟩)]
                   · rw [if_neg z, if_neg (by omega)]; exact hls d a (by omega)
                 · rw [up_ne (by decide), up_ne (by decide), up_ne (by decide), up_ne (by decide), up_ne (by decide), up_ne (by decide), up_ne (by decide), up_ne (by decide)]
                   exact RA_oth (by omega) hR)
              | (have e124 : N 32 i = 124 := c113
                 rw [if_neg (by omega), if_neg (by omega), show dep (N 32) i + 0 = dep (N 32) i by omega] at ds
                 have n32 : up (up N 33 (ls (N 32) (dep (N 32) i - 1) i) i) 38 (dep (N 32) i - 1) i 32 = N 32 := by rw [up_ne (by decide), up_ne (by decide)]
                 have key := l_rp2 M n hn hsc hb ht C (up (up N 33 (ls (N 32) (dep (N 32) i - 1) i) i) 38 (dep (N 32) i - 1) i) ⟨fun j hj => by rw [up_ne (by omega), up_ne (by omega)]; exact hF.1 j hj, fun x hx => by rw [up_ne (by decide), up_ne (by decide)]; exact hF.2 x hx⟩ (by rw [up_ne (by decide), up_ne (by decide)]; exact hz) (by rw [n32]; exact hx) (by rw [n32]; exact hG) (by rw [n32]; exact hbt) (i + 1) (by omega)
                 rw [n32, ds] at key
                 refine key (fun d a b => ?_) (fun d a b => ?_) ?_
                 · rw [up_ne (by decide), up_ne (by decide), los, if_neg (by omega)]; exact hlo d a (by omega)
                 · rw [up_at, lss, up_ne (by decide)]
                   by_cases z : d = dep (N 32) i - 1
                   · rw [if_pos z, if_pos (Or.inr ⟨e124, by omega⟩)]
                   · rw [if_neg z, if_neg (by omega)]; exact hls d a (by omega)
                 · rw [up_ne (show (33 : Nat) ≠ 38 by decide), up_ne (show (34 : Nat) ≠ 38 by decide), up_ne (show (34 : Nat) ≠ 33 by decide), up_ne (show (35 : Nat) ≠ 38 by decide), up_ne (show (35 : Nat) ≠ 33 by decide), up_ne (show (36 : Nat) ≠ 38 by decide), up_ne (show (36 : Nat) ≠ 33 by decide)]
                   exact RA_bar hG ⟨hi.1, c61⟩ e124 hR (by funext x; rw [up_at]; rfl))
              | (rw [if_neg (by omega), if_pos c156] at ds
                 have d1 : dep (N 32) i - 1 = dep (N 32) (i + 1) := by omega
                 rw [d1, ← m32]
                 have g38 : M187 38 = N 38 := by rw [b0 38 (by decide) (by decide) (by decide), up_ne (by decide)]
                 have g37 : M187 37 = N 37 := by rw [b0 37 (by decide) (by decide) (by decide), up_ne (by decide)]
                 have g33 : M187 33 = updI (N 33) (ls (N 32) (dep (N 32) i - 1) i) i := by rw [b0 33 (by decide) (by decide) (by decide)]; funext x; rw [up_at]; rfl
                 have g31 : M187 31 = N 31 := by rw [b0 31 (by decide) (by decide) (by decide)]; exact e31
                 refine l_rp2 M n hn hsc hb ht C M187 ⟨fun j hj => by rw [b0 j (by omega) (by omega) (by omega), up_ne (by omega)]; exact hF.1 j hj, fun x hx => by rw [g31]; exact hF.2 x hx⟩ (by rw [g31]; exact hz) (by rw [m32]; exact hx) (by rw [m32]; exact hG) (by rw [m32]; exact hbt) (i + 1) (by omega) (fun d a b => ?_) (fun d a b => ?_) ?_
                 · rw [m32] at b ⊢
                   rw [g37, los, if_neg (by omega)]; exact hlo d a (by omega)
                 · rw [m32] at b ⊢
                   rw [g38, lss, if_neg (by omega)]; exact hls d a (by omega)
                 · rw [m32]
                   exact RA_close hG ⟨hi.1, c61⟩ c156 hR g33 b1 b2 b3 b4 b5)
              | (rw [if_neg (by omega), if_neg (by omega), show dep (N 32) i + 0 = dep (N 32) i by omega] at ds
                 rw [← ds]
                 refine l_rp2 M n hn hsc hb ht C N hF hz hx hG hbt (i + 1) (by omega) (fun d a b => ?_) (fun d a b => ?_) (RA_oth (by omega) hR)
                 · rw [los, if_neg (by omega)]; exact hlo d a (by omega)
                 · rw [lss, if_neg (by omega)]; exact hls d a (by omega))
              | (exfalso; omega)
            · refine k_iinc C dX8_replaceBy_163 (by decide) rfl ?_
              rw [show dep (N 32) i + -1 = dep (N 32) i - 1 by omega]
              refine k_aload_n C dX8_replaceBy_166 rfl rfl ?_
              refine k_aload_n C dX8_replaceBy_167 rfl rfl ?_
              refine k_getR C (j := 6) okC8 rfl (by decide) (by decide) rfl flX8_31 dX8_replaceBy_168 ?_
              refine k_iload_n C dX8_replaceBy_171 rfl rfl ?_
              refine k_iaload C rfl (by decide) (by decide) ⟨by omega, by omega⟩ dX8_replaceBy_172 (fun ld172 => ?_)
              have ld172b := ld172
              rw [hls (dep (N 32) i - 1) (by omega) (by omega)] at ld172b ⊢
              have lk := ls_ok (tx := N 32) (p := i) (d := dep (N 32) i - 1) hi.1 (by omega) (by omega)
              refine k_iload C dX8_replaceBy_173 rfl ?_
              refine k_callV C okX8_42 dX8_replaceBy_175 (c_endS N (ls (N 32) (dep (N 32) i - 1) i) i (by omega) (by omega)) rfl rfl (by decide) rfl (by decide) rfl (Nat.le_of_ble_eq_true rfl) (fun r175 M175 hr175 hp175 => ?_)
              subst hp175
              refine k_aload_n C dX8_replaceBy_178 rfl rfl ?_
              refine k_aload_n C dX8_replaceBy_179 rfl rfl ?_
              refine k_getR C (j := 5) okC8 rfl (by decide) (by decide) rfl flX8_28 dX8_replaceBy_180 ?_
              refine k_iload_n C dX8_replaceBy_183 rfl rfl ?_
              refine k_iaload C rfl (by decide) (by decide) ⟨by omega, by omega⟩ dX8_replaceBy_184 (fun ld184 => ?_)
              rw [up_ne (show (37 : Nat) ≠ 33 by decide), hlo (dep (N 32) i - 1) (by omega) (by omega)]
              have eop : lo (N 32) (dep (N 32) i - 1) i = opn (N 32) i := rfl
              rw [eop]
              have hE2 : ∀ y, 0 ≤ y → y ≤ i → (N 32 y = 124 ∨ N 32 y = 41) → up N 33 (ls (N 32) (dep (N 32) i - 1) i) i 33 (ls (N 32) (dep (N 32) y - 1) y) = y := fun y a b c => by
                rw [up_at]
                by_cases z : y = i
                · rw [z, if_pos rfl]
                · rw [if_neg (ls_inj hG ⟨a, by omega, c61⟩ c (Or.inr c156))]; exact hR.1 y a (by omega) c
              have e32 : up N 33 (ls (N 32) (dep (N 32) i - 1) i) i 32 = N 32 := up_ne (by decide)
              have e31 : up N 33 (ls (N 32) (dep (N 32) i - 1) i) i 31 = N 31 := up_ne (by decide)
              refine k_iload C dX8_replaceBy_185 rfl ?_
              refine k_callV C okX8_46 dX8_replaceBy_187 ((by have q := c_closeBracket (up N 33 (ls (N 32) (dep (N 32) i - 1) i) i) (by rw [e32, e31, hz]; exact hG) i (by rw [e31, hz]; omega) (by rw [e32]; exact c156) (by rw [e32]; exact hE2); rw [e32] at q; exact q)) rfl rfl (by decide) rfl (by decide) rfl (Nat.le_of_ble_eq_true rfl) (fun r187 M187 hr187 hp187 => ?_)
              obtain ⟨b0, b1, b2, b3, b4, b5⟩ := hp187
              rw [e32] at b1 b2 b3 b4
              rw [e31, hz] at b4
              rw [up_ne (show (34 : Nat) ≠ 33 by decide)] at b3
              rw [up_ne (show (35 : Nat) ≠ 33 by decide), up_ne (show (36 : Nat) ≠ 33 by decide)] at b5
              have m32 : M187 32 = N 32 := by rw [b0 32 (by decide) (by decide) (by decide)]; exact e32
              refine k_iinc C dX8_replaceBy_190 (by decide) rfl ?_
              refine k_goto C (tgt := 55) dX8_replaceBy_193 rfl ?_
              refine k_cut2 C (lv' := [(0, _), (1, _), (2, _), (3, _), (4, _)]) ⟨rfl, rfl, rfl, rfl, rfl, trivial⟩ ?_
              first
              | (have e40 : N 32 i = 40 := c73
                 rw [if_pos e40] at ds
                 rw [← ds]
                 have n32 : up (up N 37 (dep (N 32) i) i) 38 (dep (N 32) i) i 32 = N 32 := by rw [up_ne (by decide), up_ne (by decide)]
                 have key := l_rp2 M n hn hsc hb ht C (up (up N 37 (dep (N 32) i) i) 38 (dep (N 32) i) i) ⟨fun j hj => by rw [up_ne (by omega), up_ne (by omega)]; exact hF.1 j hj, fun x hx => by rw [up_ne (by decide), up_ne (by decide)]; exact hF.2 x hx⟩ (by rw [up_ne (by decide), up_ne (by decide)]; exact hz) (by rw [n32]; exact hx) (by rw [n32]; exact hG) (by rw [n32]; exact hbt) (i + 1) (by omega)
                 rw [n32] at key
                 refine key (fun d a b => ?_) (fun d a b => ?_) ?_
                 · rw [up_ne (by decide), up_at, los]
                   by_cases z : d = dep (N 32) i
                   · rw [if_pos z, if_pos ⟨e40, z.symm⟩]
                   · rw [if_neg z, if_neg (by omega)]; exact hlo d a (by omega)
                 · rw [up_at, lss, up_ne (by decide)]
                   by_cases z : d = dep (N 32) i
                   · rw [if_pos z, if_pos (Or.inl ⟨e40, z.symm⟩)]
                   · rw [if_neg z, if_neg (by omega)]; exact hls d a (by omega)
                 · rw [up_ne (by decide), up_ne (by decide), up_ne (by decide), up_ne (by decide), up_ne (by decide), up_ne (by decide), up_ne (by decide), up_ne (by decide)]
                   exact RA_oth (by omega) hR)
              | (have e124 : N 32 i = 124 := c113
                 rw [if_neg (by omega), if_neg (by omega), show dep (N 32) i + 0 = dep (N 32) i by omega] at ds
                 have n32 : up (up N 33 (ls (N 32) (dep (N 32) i - 1) i) i) 38 (dep (N 32) i - 1) i 32 = N 32 := by rw [up_ne (by decide), up_ne (by decide)]
                 have key := l_rp2 M n hn hsc hb ht C (up (up N 33 (ls (N 32) (dep (N 32) i - 1) i) i) 38 (dep (N 32) i - 1) i) ⟨fun j hj => by rw [up_ne (by omega), up_ne (by omega)]; exact hF.1 j hj, fun x hx => by rw [up_ne (by decide), up_ne (by decide)]; exact hF.2 x hx⟩ (by rw [up_ne (by decide), up_ne (by decide)]; exact hz) (by rw [n32]; exact hx) (by rw [n32]; exact hG) (by rw [n32]; exact hbt) (i + 1) (by omega)
                 rw [n32, ds] at key
                 refine key (fun d a b => ?_) (fun d a b => ?_) ?_
                 · rw [up_ne (by decide), up_ne (by decide), los, if_neg (by omega)]; exact hlo d a (by omega)
                 · rw [up_at, lss, up_ne (by decide)]
                   by_cases z : d = dep (N 32) i - 1
                   · rw [if_pos z, if_pos (Or.inr ⟨e124, by omega⟩)]
                   · rw [if_neg z, if_neg (by omega)]; exact hls d a (by omega)
                 · rw [up_ne (show (33 : Nat) ≠ 38 by decide), up_ne (show (34 : Nat) ≠ 38 by decide), up_ne (show (34 : Nat) ≠ 33 by decide), up_ne (show (35 : Nat) ≠ 38 by decide), up_ne (show (35 : Nat) ≠ 33 by decide), up_ne (show (36 : Nat) ≠ 38 by decide), up_ne (show (36 : Nat) ≠ 33 by decide)]
                   exact RA_bar hG ⟨hi.1, c61⟩ e124 hR (by funext x; rw [up_at]; rfl))
              | (rw [if_neg (by omega), if_pos c156] at ds
                 have d1 : dep (N 32) i - 1 = dep (N 32) (i + 1) := by omega
                 rw [d1, ← m32]
                 have g38 : M187 38 = N 38 := by rw [b0 38 (by decide) (by decide) (by decide), up_ne (by decide)]
                 have g37 : M187 37 = N 37 := by rw [b0 37 (by decide) (by decide) (by decide), up_ne (by decide)]
                 have g33 : M187 33 = updI (N 33) (ls (N 32) (dep (N 32) i - 1) i) i := by rw [b0 33 (by decide) (by decide) (by decide)]; funext x; rw [up_at]; rfl
                 have g31 : M187 31 = N 31 := by rw [b0 31 (by decide) (by decide) (by decide)]; exact e31
                 refine l_rp2 M n hn hsc hb ht C M187 ⟨fun j hj => by rw [b0 j (by omega) (by omega) (by omega), up_ne (by omega)]; exact hF.1 j hj, fun x hx => by rw [g31]; exact hF.2 x hx⟩ (by rw [g31]; exact hz) (by rw [m32]; exact hx) (by rw [m32]; exact hG) (by rw [m32]; exact hbt) (i + 1) (by omega) (fun d a b => ?_) (fun d a b => ?_) ?_
                 · rw [m32] at b ⊢
                   rw [g37, los, if_neg (by omega)]; exact hlo d a (by omega)
                 · rw [m32] at b ⊢
                   rw [g38, lss, if_neg (by omega)]; exact hls d a (by omega)
                 · rw [m32]
                   exact RA_close hG ⟨hi.1, c61⟩ c156 hR g33 b1 b2 b3 b4 b5)
              | (rw [if_neg (by omega), if_neg (by omega), show dep (N 32) i + 0 = dep (N 32) i by omega] at ds
                 rw [← ds]
                 refine l_rp2 M n hn hsc hb ht C N hF hz hx hG hbt (i + 1) (by omega) (fun d a b => ?_) (fun d a b => ?_) (RA_oth (by omega) hR)
                 · rw [los, if_neg (by omega)]; exact hlo d a (by omega)
                 · rw [lss, if_neg (by omega)]; exact hls d a (by omega))
              | (exfalso; omega)
        · refine k_iload_n C dX8_replaceBy_116 rfl rfl ?_
          refine k_if_le C (tgt := 147) dX8_replaceBy_117 rfl (by omega) (fun c117 => ?_) (fun c117 => ?_)
          · refine k_aload_n C dX8_replaceBy_147 rfl rfl ?_
            refine k_getR C (j := 0) okC8 rfl (by decide) (by decide) rfl flX8_9 dX8_replaceBy_148 ?_
            refine k_iload C dX8_replaceBy_151 rfl ?_
            refine k_iaload C rfl (by decide) (by decide) ⟨by omega, by omega⟩ dX8_replaceBy_153 (fun ld153 => ?_)
            refine k_bipush C dX8_replaceBy_154 (by decide) ?_
            refine k_icmp_ne C (tgt := 190) dX8_replaceBy_156 rfl (by omega) (by omega) (fun c156 => ?_) (fun c156 => ?_)
            · refine k_iinc C dX8_replaceBy_190 (by decide) rfl ?_
              refine k_goto C (tgt := 55) dX8_replaceBy_193 rfl ?_
              refine k_cut2 C (lv' := [(0, _), (1, _), (2, _), (3, _), (4, _)]) ⟨rfl, rfl, rfl, rfl, rfl, trivial⟩ ?_
              first
              | (have e40 : N 32 i = 40 := c73
                 rw [if_pos e40] at ds
                 rw [← ds]
                 have n32 : up (up N 37 (dep (N 32) i) i) 38 (dep (N 32) i) i 32 = N 32 := by rw [up_ne (by decide), up_ne (by decide)]
                 have key := l_rp2 M n hn hsc hb ht C (up (up N 37 (dep (N 32) i) i) 38 (dep (N 32) i) i) ⟨fun j hj => by rw [up_ne (by omega), up_ne (by omega)]; exact hF.1 j hj, fun x hx => by rw [up_ne (by decide), up_ne (by decide)]; exact hF.2 x hx⟩ (by rw [up_ne (by decide), up_ne (by decide)]; exact hz) (by rw [n32]; exact hx) (by rw [n32]; exact hG) (by rw [n32]; exact hbt) (i + 1) (by omega)
                 rw [n32] at key
                 refine key (fun d a b => ?_) (fun d a b => ?_) ?_
                 · rw [up_ne (by decide), up_at, los]
                   by_cases z : d = dep (N 32) i
                   · rw [if_pos z, if_pos ⟨e40, z.symm⟩]
                   · rw [if_neg z, if_neg (by omega)]; exact hlo d a (by omega)
                 · rw [up_at, lss, up_ne (by decide)]
                   by_cases z : d = dep (N 32) i
                   · rw [if_pos z, if_pos (Or.inl ⟨e40, z.symm⟩)]
                   · rw [if_neg z, if_neg (by omega)]; exact hls d a (by omega)
                 · rw [up_ne (by decide), up_ne (by decide), up_ne (by decide), up_ne (by decide), up_ne (by decide), up_ne (by decide), up_ne (by decide), up_ne (by decide)]
                   exact RA_oth (by omega) hR)
              | (have e124 : N 32 i = 124 := c113
                 rw [if_neg (by omega), if_neg (by omega), show dep (N 32) i + 0 = dep (N 32) i by omega] at ds
                 have n32 : up (up N 33 (ls (N 32) (dep (N 32) i - 1) i) i) 38 (dep (N 32) i - 1) i 32 = N 32 := by rw [up_ne (by decide), up_ne (by decide)]
                 have key := l_rp2 M n hn hsc hb ht C (up (up N 33 (ls (N 32) (dep (N 32) i - 1) i) i) 38 (dep (N 32) i - 1) i) ⟨fun j hj => by rw [up_ne (by omega), up_ne (by omega)]; exact hF.1 j hj, fun x hx => by rw [up_ne (by decide), up_ne (by decide)]; exact hF.2 x hx⟩ (by rw [up_ne (by decide), up_ne (by decide)]; exact hz) (by rw [n32]; exact hx) (by rw [n32]; exact hG) (by rw [n32]; exact hbt) (i + 1) (by omega)
                 rw [n32, ds] at key
                 refine key (fun d a b => ?_) (fun d a b => ?_) ?_
                 · rw [up_ne (by decide), up_ne (by decide), los, if_neg (by omega)]; exact hlo d a (by omega)
                 · rw [up_at, lss, up_ne (by decide)]
                   by_cases z : d = dep (N 32) i - 1
                   · rw [if_pos z, if_pos (Or.inr ⟨e124, by omega⟩)]
                   · rw [if_neg z, if_neg (by omega)]; exact hls d a (by omega)
                 · rw [up_ne (show (33 : Nat) ≠ 38 by decide), up_ne (show (34 : Nat) ≠ 38 by decide), up_ne (show (34 : Nat) ≠ 33 by decide), up_ne (show (35 : Nat) ≠ 38 by decide), up_ne (show (35 : Nat) ≠ 33 by decide), up_ne (show (36 : Nat) ≠ 38 by decide), up_ne (show (36 : Nat) ≠ 33 by decide)]
                   exact RA_bar hG ⟨hi.1, c61⟩ e124 hR (by funext x; rw [up_at]; rfl))
              | (rw [if_neg (by omega), if_pos c156] at ds
                 have d1 : dep (N 32) i - 1 = dep (N 32) (i + 1) := by omega
                 rw [d1, ← m32]
                 have g38 : M187 38 = N 38 := by rw [b0 38 (by decide) (by decide) (by decide), up_ne (by decide)]
                 have g37 : M187 37 = N 37 := by rw [b0 37 (by decide) (by decide) (by decide), up_ne (by decide)]
                 have g33 : M187 33 = updI (N 33) (ls (N 32) (dep (N 32) i - 1) i) i := by rw [b0 33 (by decide) (by decide) (by decide)]; funext x; rw [up_at]; rfl
                 have g31 : M187 31 = N 31 := by rw [b0 31 (by decide) (by decide) (by decide)]; exact e31
                 refine l_rp2 M n hn hsc hb ht C M187 ⟨fun j hj => by rw [b0 j (by omega) (by omega) (by omega), up_ne (by omega)]; exact hF.1 j hj, fun x hx => by rw [g31]; exact hF.2 x hx⟩ (by rw [g31]; exact hz) (by rw [m32]; exact hx) (by rw [m32]; exact hG) (by rw [m32]; exact hbt) (i + 1) (by omega) (fun d a b => ?_) (fun d a b => ?_) ?_
                 · rw [m32] at b ⊢
                   rw [g37, los, if_neg (by omega)]; exact hlo d a (by omega)
                 · rw [m32] at b ⊢
                   rw [g38, lss, if_neg (by omega)]; exact hls d a (by omega)
                 · rw [m32]
                   exact RA_close hG ⟨hi.1, c61⟩ c156 hR g33 b1 b2 b3 b4 b5)
              | (rw [if_neg (by omega), if_neg (by omega), show dep (N 32) i + 0 = dep (N 32) i by omega] at ds
                 rw [← ds]
                 refine l_rp2 M n hn hsc hb ht C N hF hz hx hG hbt (i + 1) (by omega) (fun d a b => ?_) (fun d a b => ?_) (RA_oth (by omega) hR)
                 · rw [los, if_neg (by omega)]; exact hlo d a (by omega)
                 · rw [lss, if_neg (by omega)]; exact hls d a (by omega))
              | (exfalso; omega)
            · refine k_iload_n C dX8_replaceBy_159 rfl rfl ?_
              refine k_if_le C (tgt := 190) dX8_replaceBy_160 rfl (by omega) (fun c160 => ?_) (fun c160 => ?_)
              · refine k_iinc C dX8_replaceBy_190 (by decide) rfl ?_
                refine k_goto C (tgt := 55) dX8_replaceBy_193 rfl ?_
                refine k_cut2 C (lv' := [(0, _), (1, _), (2, _), (3, _), (4, _)]) ⟨rfl, rfl, rfl, rfl, rfl, trivial⟩ ?_
                first
                | (have e40 : N 32 i = 40 := c73
                   rw [if_pos e40] at ds
                   rw [← ds]
                   have n32 : up (up N 37 (dep (N 32) i) i) 38 (dep (N 32) i) i 32 = N 32 := by rw [up_ne (by decide), up_ne (by decide)]
                   have key := l_rp2 M n hn hsc hb ht C (up (up N 37 (dep (N 32) i) i) 38 (dep (N 32) i) i) ⟨fun j hj => by rw [up_ne (by omega), up_ne (by omega)]; exact hF.1 j hj, fun x hx => by rw [up_ne (by decide), up_ne (by decide)]; exact hF.2 x hx⟩ (by rw [up_ne (by decide), up_ne (by decide)]; exact hz) (by rw [n32]; exact hx) (by rw [n32]; exact hG) (by rw [n32]; exact hbt) (i + 1) (by omega)
                   rw [n32] at key
                   refine key (fun d a b => ?_) (fun d a b => ?_) ?_
                   · rw [up_ne (by decide), up_at, los]
                     by_cases z : d = dep (N 32) i
                     · rw [if_pos z, if_pos ⟨e40, z.symm⟩]
                     · rw [if_neg z, if_neg (by omega)]; exact hlo d a (by omega)
                   · rw [up_at, lss, up_ne (by decide)]
                     by_cases z : d = dep (N 32) i
                     · rw [if_pos z, if_pos (Or.inl ⟨e40, z.symm⟩)]
                     · rw [if_neg z, if_neg (by omega)]; exact hls d a (by omega)
                   · rw [up_ne (by decide), up_ne (by decide), up_ne (by decide), up_ne (by decide), up_ne (by decide), up_ne (by decide), up_ne (by decide), up_ne (by decide)]
                     exact RA_oth (by omega) hR)
                | (have e124 : N 32 i = 124 := c113
                   rw [if_neg (by omega), if_neg (by omega), show dep (N 32) i + 0 = dep (N 32) i by omega] at ds
                   have n32 : up (up N 33 (ls (N 32) (dep (N 32) i - 1) i) i) 38 (dep (N 32) i - 1) i 32 = N 32 := by rw [up_ne (by decide), up_ne (by decide)]
                   have key := l_rp2 M n hn hsc hb ht C (up (up N 33 (ls (N 32) (dep (N 32) i - 1) i) i) 38 (dep (N 32) i - 1) i) ⟨fun j hj => by rw [up_ne (by omega), up_ne (by omega)]; exact hF.1 j hj, fun x hx => by rw [up_ne (by decide), up_ne (by decide)]; exact hF.2 x hx⟩ (by rw [up_ne (by decide), up_ne (by decide)]; exact hz) (by rw [n32]; exact hx) (by rw [n32]; exact hG) (by rw [n32]; exact hbt) (i + 1) (by omega)
                   rw [n32, ds] at key
                   refine key (fun d a b => ?_) (fun d a b => ?_) ?_
                   · rw [up_ne (by decide), up_ne (by decide), los, if_neg (by omega)]; exact hlo d a (by omega)
                   · rw [up_at, lss, up_ne (by decide)]
                     by_cases z : d = dep (N 32) i - 1
                     · rw [if_pos z, if_pos (Or.inr ⟨e124, by omega⟩)]
                     · rw [if_neg z, if_neg (by omega)]; exact hls d a (by omega)
                   · rw [up_ne (show (33 : Nat) ≠ 38 by decide), up_ne (show (34 : Nat) ≠ 38 by decide), up_ne (show (34 : Nat) ≠ 33 by decide), up_ne (show (35 : Nat) ≠ 38 by decide), up_ne (show (35 : Nat) ≠ 33 by decide), up_ne (show (36 : Nat) ≠ 38 by decide), up_ne (show (36 : Nat) ≠ 33 by decide)]
                     exact RA_bar hG ⟨hi.1, c61⟩ e124 hR (by funext x; rw [up_at]; rfl))
                | (rw [if_neg (by omega), if_pos c156] at ds
                   have d1 : dep (N 32) i - 1 = dep (N 32) (i + 1) := by omega
                   rw [d1, ← m32]
                   have g38 : M187 38 = N 38 := by rw [b0 38 (by decide) (by decide) (by decide), up_ne (by decide)]
                   have g37 : M187 37 = N 37 := by rw [b0 37 (by decide) (by decide) (by decide), up_ne (by decide)]
                   have g33 : M187 33 = updI (N 33) (ls (N 32) (dep (N 32) i - 1) i) i := by rw [b0 33 (by decide) (by decide) (by decide)]; funext x; rw [up_at]; rfl
                   have g31 : M187 31 = N 31 := by rw [b0 31 (by decide) (by decide) (by decide)]; exact e31
                   refine l_rp2 M n hn hsc hb ht C M187 ⟨fun j hj => by rw [b0 j (by omega) (by omega) (by omega), up_ne (by omega)]; exact hF.1 j hj, fun x hx => by rw [g31]; exact hF.2 x hx⟩ (by rw [g31]; exact hz) (by rw [m32]; exact hx) (by rw [m32]; exact hG) (by rw [m32]; exact hbt) (i + 1) (by omega) (fun d a b => ?_) (fun d a b => ?_) ?_
                   · rw [m32] at b ⊢
                     rw [g37, los, if_neg (by omega)]; exact hlo d a (by omega)
                   · rw [m32] at b ⊢
                     rw [g38, lss, if_neg (by omega)]; exact hls d a (by omega)
                   · rw [m32]
                     exact RA_close hG ⟨hi.1, c61⟩ c156 hR g33 b1 b2 b3 b4 b5)
                | (rw [if_neg (by omega), if_neg (by omega), show dep (N 32) i + 0 = dep (N 32) i by omega] at ds
                   rw [← ds]
                   refine l_rp2 M n hn hsc hb ht C N hF hz hx hG hbt (i + 1) (by omega) (fun d a b => ?_) (fun d a b => ?_) (RA_oth (by omega) hR)
                   · rw [los, if_neg (by omega)]; exact hlo d a (by omega)
                   · rw [lss, if_neg (by omega)]; exact hls d a (by omega))
                | (exfalso; omega)
              · refine k_iinc C dX8_replaceBy_163 (by decide) rfl ?_
                rw [show dep (N 32) i + -1 = dep (N 32) i - 1 by omega]
                refine k_aload_n C dX8_replaceBy_166 rfl rfl ?_
                refine k_aload_n C dX8_replaceBy_167 rfl rfl ?_
                refine k_getR C (j := 6) okC8 rfl (by decide) (by decide) rfl flX8_31 dX8_replaceBy_168 ?_
                refine k_iload_n C dX8_replaceBy_171 rfl rfl ?_
                refine k_iaload C rfl (by decide) (by decide) ⟨by omega, by omega⟩ dX8_replaceBy_172 (fun ld172 => ?_)
                have ld172b := ld172
                rw [hls (dep (N 32) i - 1) (by omega) (by omega)] at ld172b ⊢
                have lk := ls_ok (tx := N 32) (p := i) (d := dep (N 32) i - 1) hi.1 (by omega) (by omega)
                refine k_iload C dX8_replaceBy_173 rfl ?_
                refine k_callV C okX8_42 dX8_replaceBy_175 (c_endS N (ls (N 32) (dep (N 32) i - 1) i) i (by omega) (by omega)) rfl rfl (by decide) rfl (by decide) rfl (Nat.le_of_ble_eq_true rfl) (fun r175 M175 hr175 hp175 => ?_)
                subst hp175
                refine k_aload_n C dX8_replaceBy_178 rfl rfl ?_
                refine k_aload_n C dX8_replaceBy_179 rfl rfl ?_
                refine k_getR C (j := 5) okC8 rfl (by decide) (by decide) rfl flX8_28 dX8_replaceBy_180 ?_
                refine k_iload_n C dX8_replaceBy_183 rfl rfl ?_
                refine k_iaload C rfl (by decide) (by decide) ⟨by omega, by omega⟩ dX8_replaceBy_184 (fun ld184 => ?_)
                rw [up_ne (show (37 : Nat) ≠ 33 by decide), hlo (dep (N 32) i - 1) (by omega) (by omega)]
                have eop : lo (N 32) (dep (N 32) i - 1) i = opn (N 32) i := rfl
                rw [eop]
                have hE2 : ∀ y, 0 ≤ y → y ≤ i → (N 32 y = 124 ∨ N 32 y = 41) → up N 33 (ls (N 32) (dep (N 32) i - 1) i) i 33 (ls (N 32) (dep (N 32) y - 1) y) = y := fun y a b c => by
                  rw [up_at]
                  by_cases z : y = i
                  · rw [z, if_pos rfl]
                  · rw [if_neg (ls_inj hG ⟨a, by omega, c61⟩ c (Or.inr c156))]; exact hR.1 y a (by omega) c
                have e32 : up N 33 (ls (N 32) (dep (N 32) i - 1) i) i 32 = N 32 := up_ne (by decide)
                have e31 : up N 33 (ls (N 32) (dep (N 32) i - 1) i) i 31 = N 31 := up_ne (by decide)
                refine k_iload C dX8_replaceBy_185 rfl ?_
                refine k_callV C okX8_46 dX8_replaceBy_187 ((by have q := c_closeBracket (up N 33 (ls (N 32) (dep (N 32) i - 1) i) i) (by rw [e32, e31, hz]; exact hG) i (by rw [e31, hz]; omega) (by rw [e32]; exact c156) (by rw [e32]; exact hE2); rw [e32] at q; exact q)) rfl rfl (by decide) rfl (by decide) rfl (Nat.le_of_ble_eq_true rfl) (fun r187 M187 hr187 hp187 => ?_)
                obtain ⟨b0, b1, b2, b3, b4, b5⟩ := hp187
                rw [e32] at b1 b2 b3 b4
                rw [e31, hz] at b4
                rw [up_ne (show (34 : Nat) ≠ 33 by decide)] at b3
                rw [up_ne (show (35 : Nat) ≠ 33 by decide), up_ne (show (36 : Nat) ≠ 33 by decide)] at b5
                have m32 : M187 32 = N 32 := by rw [b0 32 (by decide) (by decide) (by decide)]; exact e32
                refine k_iinc C dX8_replaceBy_190 (by decide) rfl ?_
                refine k_goto C (tgt := 55) dX8_replaceBy_193 rfl ?_
                refine k_cut2 C (lv' := [(0, _), (1, _), (2, _), (3, _), (4, _)]) ⟨rfl, rfl, rfl, rfl, rfl, trivial⟩ ?_
                first
                | (have e40 : N 32 i = 40 := c73
                   rw [if_pos e40] at ds
                   rw [← ds]
                   have n32 : up (up N 37 (dep (N 32) i) i) 38 (dep (N 32) i) i 32 = N 32 := by rw [up_ne (by decide), up_ne (by decide)]
                   have key := l_rp2 M n hn hsc hb ht C (up (up N 37 (dep (N 32) i) i) 38 (dep (N 32) i) i) ⟨fun j hj => by rw [up_ne (by omega), up_ne (by omega)]; exact hF.1 j hj, fun x hx => by rw [up_ne (by decide), up_ne (by decide)]; exact hF.2 x hx⟩ (by rw [up_ne (by decide), up_ne (by decide)]; exact hz) (by rw [n32]; exact hx) (by rw [n32]; exact hG) (by rw [n32]; exact hbt) (i + 1) (by omega)
                   rw [n32] at key
                   refine key (fun d a b => ?_) (fun d a b => ?_) ?_
                   · rw [up_ne (by decide), up_at, los]
                     by_cases z : d = dep (N 32) i
                     · rw [if_pos z, if_pos ⟨e40, z.symm⟩]
                     · rw [if_neg z, if_neg (by omega)]; exact hlo d a (by omega)
                   · rw [up_at, lss, up_ne (by decide)]
                     by_cases z : d = dep (N 32) i
                     · rw [if_pos z, if_pos (Or.inl ⟨e40, z.symm⟩)]
                     · rw [if_neg z, if_neg (by omega)]; exact hls d a (by omega)
                   · rw [up_ne (by decide), up_ne (by decide), up_ne (by decide), up_ne (by decide), up_ne (by decide), up_ne (by decide), up_ne (by decide), up_ne (by decide)]
                     exact RA_oth (by omega) hR)
                | (have e124 : N 32 i = 124 := c113
                   rw [if_neg (by omega), if_neg (by omega), show dep (N 32) i + 0 = dep (N 32) i by omega] at ds
                   have n32 : up (up N 33 (ls (N 32) (dep (N 32) i - 1) i) i) 38 (dep (N 32) i - 1) i 32 = N 32 := by rw [up_ne (by decide), up_ne (by decide)]
                   have key := l_rp2 M n hn hsc hb ht C (up (up N 33 (ls (N 32) (dep (N 32) i - 1) i) i) 38 (dep (N 32) i - 1) i) ⟨fun j hj => by rw [up_ne (by omega), up_ne (by omega)]; exact hF.1 j hj, fun x hx => by rw [up_ne (by decide), up_ne (by decide)]; exact hF.2 x hx⟩ (by rw [up_ne (by decide), up_ne (by decide)]; exact hz) (by rw [n32]; exact hx) (by rw [n32]; exact hG) (by rw [n32]; exact hbt) (i + 1) (by omega)
                   rw [n32, ds] at key
                   refine key (fun d a b => ?_) (fun d a b => ?_) ?_
                   · rw [up_ne (by decide), up_ne (by decide), los, if_neg (by omega)]; exact hlo d a (by omega)
                   · rw [up_at, lss, up_ne (by decide)]
                     by_cases z : d = dep (N 32) i - 1
                     · rw [if_pos z, if_pos (Or.inr ⟨e124, by omega⟩)]
                     · rw [if_neg z, if_neg (by omega)]; exact hls d a (by omega)
                   · rw [up_ne (show (33 : Nat) ≠ 38 by decide), up_ne (show (34 : Nat) ≠ 38 by decide), up_ne (show (34 : Nat) ≠ 33 by decide), up_ne (show (35 : Nat) ≠ 38 by decide), up_ne (show (35 : Nat) ≠ 33 by decide), up_ne (show (36 : Nat) ≠ 38 by decide), up_ne (show (36 : Nat) ≠ 33 by decide)]
                     exact RA_bar hG ⟨hi.1, c61⟩ e124 hR (by funext x; rw [up_at]; rfl))
                | (rw [if_neg (by omega), if_pos c156] at ds
                   have d1 : dep (N 32) i - 1 = dep (N 32) (i + 1) := by omega
                   rw [d1, ← m32]
                   have g38 : M187 38 = N 38 := by rw [b0 38 (by decide) (by decide) (by decide), up_ne (by decide)]
                   have g37 : M187 37 = N 37 := by rw [b0 37 (by decide) (by decide) (by decide), up_ne (by decide)]
                   have g33 : M187 33 = updI (N 33) (ls (N 32) (dep (N 32) i - 1) i) i := by rw [b0 33 (by decide) (by decide) (by decide)]; funext x; rw [up_at]; rfl
                   have g31 : M187 31 = N 31 := by rw [b0 31 (by decide) (by decide) (by decide)]; exact e31
                   refine l_rp2 M n hn hsc hb ht C M187 ⟨fun j hj => by rw [b0 j (by omega) (by omega) (by omega), up_ne (by omega)]; exact hF.1 j hj, fun x hx => by rw [g31]; exact hF.2 x hx⟩ (by rw [g31]; exact hz) (by rw [m32]; exact hx) (by rw [m32]; exact hG) (by rw [m32]; exact hbt) (i + 1) (by omega) (fun d a b => ?_) (fun d a b => ?_) ?_
                   · rw [m32] at b ⊢
                     rw [g37, los, if_neg (by omega)]; exact hlo d a (by omega)
                   · rw [m32] at b ⊢
                     rw [g38, lss, if_neg (by omega)]; exact hls d a (by omega)
                   · rw [m32]
                     exact RA_close hG ⟨hi.1, c61⟩ c156 hR g33 b1 b2 b3 b4 b5)
                | (rw [if_neg (by omega), if_neg (by omega), show dep (N 32) i + 0 = dep (N 32) i by omega] at ds
                   rw [← ds]
                   refine l_rp2 M n hn hsc hb ht C N hF hz hx hG hbt (i + 1) (by omega) (fun d a b => ?_) (fun d a b => ?_) (RA_oth (by omega) hR)
                   · rw [los, if_neg (by omega)]; exact hlo d a (by omega)
                   · rw [lss, if_neg (by omega)]; exact hls d a (by omega))
                | (exfalso; omega)
          · refine k_aload_n C dX8_replaceBy_120 rfl rfl ?_
            refine k_aload_n C dX8_replaceBy_121 rfl rfl ?_
            refine k_getR C (j := 6) okC8 rfl (by decide) (by decide) rfl flX8_31 dX8_replaceBy_122 ?_
            refine k_iload_n C dX8_replaceBy_125 rfl rfl ?_
            refine k_iconst C dX8_replaceBy_126 ?_
            refine k_isub C dX8_replaceBy_127 ?_
            refine k_iaload C rfl (by decide) (by decide) ⟨by omega, by omega⟩ dX8_replaceBy_128 (fun ld128 => ?_)
            have ld128b := ld128
            rw [hls (dep (N 32) i - 1) (by omega) (by omega)] at ld128b ⊢
            have lk := ls_ok (tx := N 32) (p := i) (d := dep (N 32) i - 1) hi.1 (by omega) (by omega)
            refine k_iload C dX8_replaceBy_129 rfl ?_
            refine k_callV C okX8_42 dX8_replaceBy_131 (c_endS N (ls (N 32) (dep (N 32) i - 1) i) i (by omega) (by omega)) rfl rfl (by decide) rfl (by decide) rfl (Nat.le_of_ble_eq_true rfl) (fun r131 M131 hr131 hp131 => ?_)
            subst hp131
            refine k_aload_n C dX8_replaceBy_134 rfl rfl ?_
            refine k_getR C (j := 6) okC8 rfl (by decide) (by decide) rfl flX8_31 dX8_replaceBy_135 ?_
            refine k_iload_n C dX8_replaceBy_138 rfl rfl ?_
            refine k_iconst C dX8_replaceBy_139 ?_
            refine k_isub C dX8_replaceBy_140 ?_
            refine k_iload C dX8_replaceBy_141 rfl ?_
            refine k_iastore C rfl (by decide) (by decide) ⟨by omega, by omega⟩ (by omega) dX8_replaceBy_143 ?_
            refine k_goto C (tgt := 190) dX8_replaceBy_144 rfl ?_
            refine k_iinc C dX8_replaceBy_190 (by decide) rfl ?_
            refine k_goto C (tgt := 55) dX8_replaceBy_193 rfl ?_
            refine k_cut2 C (lv' := [(0, _), (1, _), (2, _), (3, _), (4, _)]) ⟨rfl, rfl, rfl, rfl, rfl, trivial⟩ ?_
            first
            | (have e40 : N 32 i = 40 := c73
               rw [if_pos e40] at ds
               rw [← ds]
               have n32 : up (up N 37 (dep (N 32) i) i) 38 (dep (N 32) i) i 32 = N 32 := by rw [up_ne (by decide), up_ne (by decide)]
               have key := l_rp2 M n hn hsc hb ht C (up (up N 37 (dep (N 32) i) i) 38 (dep (N 32) i) i) ⟨fun j hj => by rw [up_ne (by omega), up_ne (by omega)]; exact hF.1 j hj, fun x hx => by rw [up_ne (by decide), up_ne (by decide)]; exact hF.2 x hx⟩ (by rw [up_ne (by decide), up_ne (by decide)]; exact hz) (by rw [n32]; exact hx) (by rw [n32]; exact hG) (by rw [n32]; exact hbt) (i + 1) (by omega)
               rw [n32] at key
               refine key (fun d a b => ?_) (fun d a b => ?_) ?_
               · rw [up_ne (by decide), up_at, los]
                 by_cases z : d = dep (N 32) i
                 · rw [if_pos z, if_pos ⟨e40, z.symm⟩]
                 · rw [if_neg z, if_neg (by omega)]; exact hlo d a (by omega)
               · rw [up_at, lss, up_ne (by decide)]
                 by_cases z : d = dep (N 32) i
                 · rw [if_pos z, if_pos (Or.inl ⟨e40, z.symm⟩)]
                 · rw [if_neg z, if_neg (by omega)]; exact hls d a (by omega)
               · rw [up_ne (by decide), up_ne (by decide), up_ne (by decide), up_ne (by decide), up_ne (by decide), up_ne (by decide), up_ne (by decide), up_ne (by decide)]
                 exact RA_oth (by omega) hR)
            | (have e124 : N 32 i = 124 := c113
               rw [if_neg (by omega), if_neg (by omega), show dep (N 32) i + 0 = dep (N 32) i by omega] at ds
               have n32 : up (up N 33 (ls (N 32) (dep (N 32) i - 1) i) i) 38 (dep (N 32) i - 1) i 32 = N 32 := by rw [up_ne (by decide), up_ne (by decide)]
               have key := l_rp2 M n hn hsc hb ht C (up (up N 33 (ls (N 32) (dep (N 32) i - 1) i) i) 38 (dep (N 32) i - 1) i) ⟨fun j hj => by rw [up_ne (by omega), up_ne (by omega)]; exact hF.1 j hj, fun x hx => by rw [up_ne (by decide), up_ne (by decide)]; exact hF.2 x hx⟩ (by rw [up_ne (by decide), up_ne (by decide)]; exact hz) (by rw [n32]; exact hx) (by rw [n32]; exact hG) (by rw [n32]; exact hbt) (i + 1) (by omega)
               rw [n32, ds] at key
               refine key (fun d a b => ?_) (fun d a b => ?_) ?_
               · rw [up_ne (by decide), up_ne (by decide), los, if_neg (by omega)]; exact hlo d a (by omega)
               · rw [up_at, lss, up_ne (by decide)]
                 by_cases z : d = dep (N 32) i - 1
                 · rw [if_pos z, if_pos (Or.inr ⟨e124, by omega⟩)]
                 · rw [if_neg z, if_neg (by omega)]; exact hls d a (by omega)
               · rw [up_ne (show (33 : Nat) ≠ 38 by decide), up_ne (show (34 : Nat) ≠ 38 by decide), up_ne (show (34 : Nat) ≠ 33 by decide), up_ne (show (35 : Nat) ≠ 38 by decide), up_ne (show (35 : Nat) ≠ 33 by decide), up_ne (show (36 : Nat) ≠ 38 by decide), up_ne (show (36 : Nat) ≠ 33 by decide)]
                 exact RA_bar hG ⟨hi.1, c61⟩ e124 hR (by funext x; rw [up_at]; rfl))
            | (rw [if_neg (by omega), if_pos c156] at ds
               have d1 : dep (N 32) i - 1 = dep (N 32) (i + 1) := by omega
               rw [d1, ← m32]
               have g38 : M187 38 = N 38 := by rw [b0 38 (by decide) (by decide) (by decide), up_ne (by decide)]
               have g37 : M187 37 = N 37 := by rw [b0 37 (by decide) (by decide) (by decide), up_ne (by decide)]
               have g33 : M187 33 = updI (N 33) (ls (N 32) (dep (N 32) i - 1) i) i := by rw [b0 33 (by decide) (by decide) (by decide)]; funext x; rw [up_at]; rfl
               have g31 : M187 31 = N 31 := by rw [b0 31 (by decide) (by decide) (by decide)]; exact e31
               refine l_rp2 M n hn hsc hb ht C M187 ⟨fun j hj => by rw [b0 j (by omega) (by omega) (by omega), up_ne (by omega)]; exact hF.1 j hj, fun x hx => by rw [g31]; exact hF.2 x hx⟩ (by rw [g31]; exact hz) (by rw [m32]; exact hx) (by rw [m32]; exact hG) (by rw [m32]; exact hbt) (i + 1) (by omega) (fun d a b => ?_) (fun d a b => ?_) ?_
               · rw [m32] at b ⊢
                 rw [g37, los, if_neg (by omega)]; exact hlo d a (by omega)
               · rw [m32] at b ⊢
                 rw [g38, lss, if_neg (by omega)]; exact hls d a (by omega)
               · rw [m32]
                 exact RA_close hG ⟨hi.1, c61⟩ c156 hR g33 b1 b2 b3 b4 b5)
            | (rw [if_neg (by omega), if_neg (by omega), show dep (N 32) i + 0 = dep (N 32) i by omega] at ds
               rw [← ds]
               refine l_rp2 M n hn hsc hb ht C N hF hz hx hG hbt (i + 1) (by omega) (fun d a b => ?_) (fun d a b => ?_) (RA_oth (by omega) hR)
               · rw [los, if_neg (by omega)]; exact hlo d a (by omega)
               · rw [lss, if_neg (by omega)]; exact hls d a (by omega))
            | (exfalso; omega)
      · refine k_aload_n C dX8_replaceBy_82 rfl rfl ?_
        refine k_getR C (j := 5) okC8 rfl (by decide) (by decide) rfl flX8_28 dX8_replaceBy_83 ?_
        refine k_iload_n C dX8_replaceBy_86 rfl rfl ?_
        refine k_iload C dX8_replaceBy_87 rfl ?_
        refine k_iastore C rfl (by decide) (by decide) ⟨by omega, by omega⟩ (by omega) dX8_replaceBy_89 ?_
        refine k_aload_n C dX8_replaceBy_90 rfl rfl ?_
        refine k_getR C (j := 6) okC8 rfl (by decide) (by decide) rfl flX8_31 dX8_replaceBy_91 ?_
        refine k_iload_n C dX8_replaceBy_94 rfl rfl ?_
        refine k_iload C dX8_replaceBy_95 rfl ?_
        refine k_iastore C rfl (by decide) (by decide) ⟨by omega, by omega⟩ (by omega) dX8_replaceBy_97 ?_
        refine k_iinc C dX8_replaceBy_98 (by decide) rfl ?_
        refine k_goto C (tgt := 190) dX8_replaceBy_101 rfl ?_
        refine k_iinc C dX8_replaceBy_190 (by decide) rfl ?_
        refine k_goto C (tgt := 55) dX8_replaceBy_193 rfl ?_
        refine k_cut2 C (lv' := [(0, _), (1, _), (2, _), (3, _), (4, _)]) ⟨rfl, rfl, rfl, rfl, rfl, trivial⟩ ?_
        first
        | (have e40 : N 32 i = 40 := c73
           rw [if_pos e40] at ds
           rw [← ds]
           have n32 : up (up N 37 (dep (N 32) i) i) 38 (dep (N 32) i) i 32 = N 32 := by rw [up_ne (by decide), up_ne (by decide)]
           have key := l_rp2 M n hn hsc hb ht C (up (up N 37 (dep (N 32) i) i) 38 (dep (N 32) i) i) ⟨fun j hj => by rw [up_ne (by omega), up_ne (by omega)]; exact hF.1 j hj, fun x hx => by rw [up_ne (by decide), up_ne (by decide)]; exact hF.2 x hx⟩ (by rw [up_ne (by decide), up_ne (by decide)]; exact hz) (by rw [n32]; exact hx) (by rw [n32]; exact hG) (by rw [n32]; exact hbt) (i + 1) (by omega)
           rw [n32] at key
           refine key (fun d a b => ?_) (fun d a b => ?_) ?_
           · rw [up_ne (by decide), up_at, los]
             by_cases z : d = dep (N 32) i
             · rw [if_pos z, if_pos ⟨e40, z.symm⟩]
             · rw [if_neg z, if_neg (by omega)]; exact hlo d a (by omega)
           · rw [up_at, lss, up_ne (by decide)]
             by_cases z : d = dep (N 32) i
             · rw [if_pos z, if_pos (Or.inl ⟨e40, z.symm⟩)]
             · rw [if_neg z, if_neg (by omega)]; exact hls d a (by omega)
           · rw [up_ne (by decide), up_ne (by decide), up_ne (by decide), up_ne (by decide), up_ne (by decide), up_ne (by decide), up_ne (by decide), up_ne (by decide)]
             exact RA_oth (by omega) hR)
        | (have e124 : N 32 i = 124 := c113
           rw [if_neg (by omega), if_neg (by omega), show dep (N 32) i + 0 = dep (N 32) i by omega] at ds
           have n32 : up (up N 33 (ls (N 32) (dep (N 32) i - 1) i) i) 38 (dep (N 32) i - 1) i 32 = N 32 := by rw [up_ne (by decide), up_ne (by decide)]
           have key := l_rp2 M n hn hsc hb ht C (up (up N 33 (ls (N 32) (dep (N 32) i - 1) i) i) 38 (dep (N 32) i - 1) i) ⟨fun j hj => by rw [up_ne (by omega), up_ne (by omega)]; exact hF.1 j hj, fun x hx => by rw [up_ne (by decide), up_ne (by decide)]; exact hF.2 x hx⟩ (by rw [up_ne (by decide), up_ne (by decide)]; exact hz) (by rw [n32]; exact hx) (by rw [n32]; exact hG) (by rw [n32]; exact hbt) (i + 1) (by omega)
           rw [n32, ds] at key
           refine key (fun d a b => ?_) (fun d a b => ?_) ?_
           · rw [up_ne (by decide), up_ne (by decide), los, if_neg (by omega)]; exact hlo d a (by omega)
           · rw [up_at, lss, up_ne (by decide)]
             by_cases z : d = dep (N 32) i - 1
             · rw [if_pos z, if_pos (Or.inr ⟨e124, by omega⟩)]
             · rw [if_neg z, if_neg (by omega)]; exact hls d a (by omega)
           · rw [up_ne (show (33 : Nat) ≠ 38 by decide), up_ne (show (34 : Nat) ≠ 38 by decide), up_ne (show (34 : Nat) ≠ 33 by decide), up_ne (show (35 : Nat) ≠ 38 by decide), up_ne (show (35 : Nat) ≠ 33 by decide), up_ne (show (36 : Nat) ≠ 38 by decide), up_ne (show (36 : Nat) ≠ 33 by decide)]
             exact RA_bar hG ⟨hi.1, c61⟩ e124 hR (by funext x; rw [up_at]; rfl))
        | (rw [if_neg (by omega), if_pos c156] at ds
           have d1 : dep (N 32) i - 1 = dep (N 32) (i + 1) := by omega
           rw [d1, ← m32]
           have g38 : M187 38 = N 38 := by rw [b0 38 (by decide) (by decide) (by decide), up_ne (by decide)]
           have g37 : M187 37 = N 37 := by rw [b0 37 (by decide) (by decide) (by decide), up_ne (by decide)]
           have g33 : M187 33 = updI (N 33) (ls (N 32) (dep (N 32) i - 1) i) i := by rw [b0 33 (by decide) (by decide) (by decide)]; funext x; rw [up_at]; rfl
           have g31 : M187 31 = N 31 := by rw [b0 31 (by decide) (by decide) (by decide)]; exact e31
           refine l_rp2 M n hn hsc hb ht C M187 ⟨fun j hj => by rw [b0 j (by omega) (by omega) (by omega), up_ne (by omega)]; exact hF.1 j hj, fun x hx => by rw [g31]; exact hF.2 x hx⟩ (by rw [g31]; exact hz) (by rw [m32]; exact hx) (by rw [m32]; exact hG) (by rw [m32]; exact hbt) (i + 1) (by omega) (fun d a b => ?_) (fun d a b => ?_) ?_
           · rw [m32] at b ⊢
             rw [g37, los, if_neg (by omega)]; exact hlo d a (by omega)
           · rw [m32] at b ⊢
             rw [g38, lss, if_neg (by omega)]; exact hls d a (by omega)
           · rw [m32]
             exact RA_close hG ⟨hi.1, c61⟩ c156 hR g33 b1 b2 b3 b4 b5)
        | (rw [if_neg (by omega), if_neg (by omega), show dep (N 32) i + 0 = dep (N 32) i by omega] at ds
           rw [← ds]
           refine l_rp2 M n hn hsc hb ht C N hF hz hx hG hbt (i + 1) (by omega) (fun d a b => ?_) (fun d a b => ?_) (RA_oth (by omega) hR)
           · rw [los, if_neg (by omega)]; exact hlo d a (by omega)
           · rw [lss, if_neg (by omega)]; exact hls d a (by omega))
        | (exfalso; omega)
termination_by (n - i).toNat
decreasing_by all_goals omega
set_option maxHeartbeats 4000000 in
set_option maxRecDepth 100000 in
theorem l_rp1 {K : Kt} (M : Mem) (n : Int) (hn : 0 ≤ n ∧ n ≤ 200) (hsc : scf (M 30) n 201 0 0 0 = -1) (hb : ∀ i, 0 ≤ i → i < 200 → 0 ≤ M 30 i ∧ M 30 i < 256) (ht : ∀ i, 0 ≤ i → i < 200 → 0 ≤ M 32 i ∧ M 32 i < 256) (C : Ctx shC nC RX8 cX8_replaceBy 5 none (lvl 1) (fun _ M' => RpF M M' ∧ RtC M' ∧ M' 31 7 = n ∧ ∀ i, 0 ≤ i → i < n → M' 32 i = M 30 i) K) (N : Mem) (hF : RpF M N) (i : Int) (hi : 0 ≤ i ∧ i ≤ n) (hz : N 31 7 = i) (hx : ∀ j, 0 ≤ j → j < i → N 32 j = M 30 j) (hy : ∀ j, i ≤ j → N 32 j = M 32 j) : K 7 [(0, .inr 31), (1, .inr 30), (2, .inl n), (3, .inl i)] [] N := by
  have e30 := hF.1 30 (by decide)
  refine k_iload_n C dX8_replaceBy_7 rfl rfl ?_
  refine k_iload_n C dX8_replaceBy_8 rfl rfl ?_
  refine k_icmp_ge C (tgt := 50) dX8_replaceBy_9 rfl (by omega) (by omega) (fun c9 => ?_) (fun c9 => ?_)
  · refine k_iconst C dX8_replaceBy_50 ?_
    refine k_istore_n C dX8_replaceBy_51 rfl (by decide) ?_
    refine k_iconst C dX8_replaceBy_52 ?_
    refine k_istore C dX8_replaceBy_53 (by decide) ?_
    refine k_cut2 C (lv' := [(0, _), (1, _), (2, _), (3, _), (4, _)]) ⟨rfl, rfl, rfl, rfl, rfl, trivial⟩ ?_
    first
    | (exfalso; omega)
    | (have e : i = n := by omega
       subst e
       have g : scf (N 32) i 201 0 0 0 = -1 := by rw [scf_cg hx 201 0 0 0 (Int.le_refl 0)]; exact hsc
       exact l_rp2 M i hn hsc hb ht C N hF hz hx (GT_of hn g) (fun p a b => by by_cases z : p < i; (rw [hx p a z]; exact hb p a b); (rw [hy p (by omega)]; exact ht p a b)) 0 (by omega) (fun d a b => by have : dep (N 32) 0 = 0 := rfl; omega) (fun d a b => by have : dep (N 32) 0 = 0 := rfl; omega) ⟨fun y a b => by omega, fun r a b => by omega⟩)
  · refine k_iload_n C dX8_replaceBy_12 rfl rfl ?_
    refine k_aload_n C dX8_replaceBy_13 rfl rfl ?_
    refine k_len C rfl (by decide) (by decide) dX8_replaceBy_14 (fun n14 hn14 => ?_)
    refine k_icmp_ge C (tgt := 50) dX8_replaceBy_15 rfl (by omega) (by omega) (fun c15 => ?_) (fun c15 => ?_)
    · refine k_iconst C dX8_replaceBy_50 ?_
      refine k_istore_n C dX8_replaceBy_51 rfl (by decide) ?_
      refine k_iconst C dX8_replaceBy_52 ?_
      refine k_istore C dX8_replaceBy_53 (by decide) ?_
      refine k_cut2 C (lv' := [(0, _), (1, _), (2, _), (3, _), (4, _)]) ⟨rfl, rfl, rfl, rfl, rfl, trivial⟩ ?_
      first
      | (exfalso; omega)
      | (have e : i = n := by omega
         subst e
         have g : scf (N 32) i 201 0 0 0 = -1 := by rw [scf_cg hx 201 0 0 0 (Int.le_refl 0)]; exact hsc
         exact l_rp2 M i hn hsc hb ht C N hF hz hx (GT_of hn g) (fun p a b => by by_cases z : p < i; (rw [hx p a z]; exact hb p a b); (rw [hy p (by omega)]; exact ht p a b)) 0 (by omega) (fun d a b => by have : dep (N 32) 0 = 0 := rfl; omega) (fun d a b => by have : dep (N 32) 0 = 0 := rfl; omega) ⟨fun y a b => by omega, fun r a b => by omega⟩)
    · refine k_iload_n C dX8_replaceBy_18 rfl rfl ?_
      refine k_sipush C dX8_replaceBy_19 (by decide) ?_
      refine k_icmp_ge C (tgt := 50) dX8_replaceBy_22 rfl (by omega) (by omega) (fun c22 => ?_) (fun c22 => ?_)
      · refine k_iconst C dX8_replaceBy_50 ?_
        refine k_istore_n C dX8_replaceBy_51 rfl (by decide) ?_
        refine k_iconst C dX8_replaceBy_52 ?_
        refine k_istore C dX8_replaceBy_53 (by decide) ?_
        refine k_cut2 C (lv' := [(0, _), (1, _), (2, _), (3, _), (4, _)]) ⟨rfl, rfl, rfl, rfl, rfl, trivial⟩ ?_
        first
        | (exfalso; omega)
        | (have e : i = n := by omega
           subst e
           have g : scf (N 32) i 201 0 0 0 = -1 := by rw [scf_cg hx 201 0 0 0 (Int.le_refl 0)]; exact hsc
           exact l_rp2 M i hn hsc hb ht C N hF hz hx (GT_of hn g) (fun p a b => by by_cases z : p < i; (rw [hx p a z]; exact hb p a b); (rw [hy p (by omega)]; exact ht p a b)) 0 (by omega) (fun d a b => by have : dep (N 32) 0 = 0 := rfl; omega) (fun d a b => by have : dep (N 32) 0 = 0 := rfl; omega) ⟨fun y a b => by omega, fun r a b => by omega⟩)
      · refine k_aload_n C dX8_replaceBy_25 rfl rfl ?_
        refine k_getR C (j := 0) okC8 rfl (by decide) (by decide) rfl flX8_9 dX8_replaceBy_26 ?_
        refine k_iload_n C dX8_replaceBy_29 rfl rfl ?_
        refine k_aload_n C dX8_replaceBy_30 rfl rfl ?_
        refine k_iload_n C dX8_replaceBy_31 rfl rfl ?_
        refine k_iaload C rfl (by decide) (by decide) ⟨by omega, by omega⟩ dX8_replaceBy_32 (fun ld32 => ?_)
        rw [e30] at ld32 ⊢
        refine k_iastore C rfl (by decide) (by decide) ⟨by omega, by omega⟩ (by omega) dX8_replaceBy_33 ?_
        refine k_aload_n C dX8_replaceBy_34 rfl rfl ?_
        refine k_dup C dX8_replaceBy_35 ?_
        refine k_getJ C 7 7 rfl okC8 rfl (by decide) (by decide) rfl flX8_38 dX8_replaceBy_36 (fun ld36 => ?_)
        rw [up_ne (show (31 : Nat) ≠ 32 by decide), hz]
        refine k_iconst C dX8_replaceBy_39 ?_
        refine k_iadd C dX8_replaceBy_40 ?_
        refine k_putJ C 7 7 rfl okC8 rfl (by decide) (by decide) rfl rfl rfl (by omega) flX8_38 dX8_replaceBy_41 ?_
        refine k_iinc C dX8_replaceBy_44 (by decide) rfl ?_
        refine k_goto C (tgt := 7) dX8_replaceBy_47 rfl ?_
        refine k_cut2 C (lv' := [(0, _), (1, _), (2, _), (3, _)]) ⟨rfl, rfl, rfl, rfl, trivial⟩ ?_
        refine l_rp1 M n hn hsc hb ht C _ ⟨fun j hj => by rw [up_ne (by omega), up_ne (by omega)]; exact hF.1 j hj, fun x hx => by rw [up_at, if_neg hx, up_ne (by decide)]; exact hF.2 x hx⟩ (i + 1) (by omega) up_same (fun j a b => ?_) (fun j a => ?_)
        · rw [up_ne (show (32 : Nat) ≠ 31 by decide), up_at]
          by_cases z : j = i
          · rw [if_pos z, z]
          · rw [if_neg z]; exact hx j a (by omega)
        · rw [up_ne (show (32 : Nat) ≠ 31 by decide), up_at, if_neg (by omega)]; exact hy j (by omega)
termination_by (n - i).toNat
decreasing_by all_goals omega
set_option maxHeartbeats 4000000 in
set_option maxRecDepth 100000 in
theorem c_replaceBy (M : Mem) (n : Int) (hn : 0 ≤ n ∧ n ≤ 200) (hsc : scf (M 30) n 201 0 0 0 = -1) (hb : ∀ i, 0 ≤ i → i < 200 → 0 ≤ M 30 i ∧ M 30 i < 256) (ht : ∀ i, 0 ≤ i → i < 200 → 0 ≤ M 32 i ∧ M 32 i < 256) : Ct shC nC yX8_replaceBy cX8_replaceBy 5 none (lvl 1) [.inr 31, .inr 30, .inl n] M (fun _ M' => RpF M M' ∧ RtC M' ∧ M' 31 7 = n ∧ ∀ i, 0 ≤ i → i < n → M' 32 i = M 30 i) := by
  refine Ct_of (by decide +kernel) (Nat.le_of_ble_eq_true rfl) (fun K C => ?_)
  refine k_aload_n C dX8_replaceBy_0 rfl rfl ?_
  refine k_iconst C dX8_replaceBy_1 ?_
  refine k_putJ C 7 7 rfl okC8 rfl (by decide) (by decide) rfl rfl rfl (by omega) flX8_38 dX8_replaceBy_2 ?_
  refine k_iconst C dX8_replaceBy_5 ?_
  refine k_istore_n C dX8_replaceBy_6 rfl (by decide) ?_
  refine k_cut2 C (lv' := [(0, _), (1, _), (2, _), (3, _)]) ⟨rfl, rfl, rfl, rfl, trivial⟩ ?_
  exact l_rp1 M n hn hsc hb ht C _ ⟨fun j hj => by rw [up_ne (by omega)], fun x hx => by rw [up_at, if_neg hx]⟩ 0 (by omega) up_same (fun j a b => by omega) (fun j a => by rw [up_ne (by decide)])
