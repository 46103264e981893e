/-! THE REFERENCE: habits (with 37, holds 38), ranks -/
/-- among the first k calls of row r an x still waits for a y -/
def wtP (ca : Int → Int) (r x y k : Int) : Prop := ∃ j, 0 ≤ j ∧ j < k ∧ ca (12 * r + j) = x ∧ ∀ i, j < i → i < k → ¬ ca (12 * r + i) = y
theorem wtP_s {ca : Int → Int} {r x y k : Int} (hk : 0 ≤ k) : wtP ca r x y (k + 1) ↔ (wtP ca r x y k ∧ ¬ ca (12 * r + k) = y) ∨ ca (12 * r + k) = x := by
  constructor
  · rintro ⟨j, a, b, c, d⟩
    by_cases e : j = k
    · subst e; exact Or.inr c
    · exact Or.inl ⟨⟨j, a, by omega, c, fun i h1 h2 => d i h1 (by omega)⟩, d k (by omega) (by omega)⟩
  · rintro (⟨⟨j, a, b, c, d⟩, e⟩ | h)
    · refine ⟨j, a, by omega, c, fun i h1 h2 => ?_⟩
      by_cases z : i = k
      · rw [z]; exact e
      · exact d i h1 (by omega)
    · exact ⟨k, hk, by omega, h, fun i h1 h2 => by omega⟩
def hsP (ca : Int → Int) (r x k : Int) : Prop := ∃ j, 0 ≤ j ∧ j < k ∧ ca (12 * r + j) = x
theorem hsP_s {ca : Int → Int} {r x k : Int} (hk : 0 ≤ k) : hsP ca r x (k + 1) ↔ hsP ca r x k ∨ ca (12 * r + k) = x := by
  constructor
  · rintro ⟨j, a, b, c⟩
    by_cases e : j = k
    · subst e; exact Or.inr c
    · exact Or.inl ⟨j, a, by omega, c⟩
  · rintro (⟨j, a, b, c⟩ | h)
    · exact ⟨j, a, by omega, c⟩
    · exact ⟨k, hk, by omega, h⟩
def flg (b : Int) (Q : Prop) : Prop := (b = 1 ∧ Q) ∨ (b = 0 ∧ ¬ Q)
theorem flg01 {b : Int} {Q : Prop} (h : flg b Q) : b = 0 ∨ b = 1 := by rcases h with z | z; exact Or.inr z.1; exact Or.inl z.1
theorem flg_y {b : Int} {Q : Prop} (h : flg b Q) (e : ¬ b = 0) : Q := by rcases h with z | z; exact z.2; exact absurd z.1 e
theorem flg_n {b : Int} {Q : Prop} (h : flg b Q) (e : b = 0) : ¬ Q := by rcases h with z | z; omega; exact z.2
theorem flg_1 {Q : Prop} (h : Q) : flg 1 Q := Or.inl ⟨rfl, h⟩
theorem flg_0 {Q : Prop} (h : ¬ Q) : flg 0 Q := Or.inr ⟨rfl, h⟩
theorem hld_wt {sz ca : Int → Int} {r x y : Int} : hld sz ca r x y ↔ hsP ca r x (sz r) ∧ ¬ wtP ca r x y (sz r) := by
  constructor
  · rintro ⟨h1, h2⟩
    refine ⟨h1, fun ⟨j, a, b, c, d⟩ => ?_⟩
    obtain ⟨i, p, q, s⟩ := h2 j a b c
    exact d i p q s
  · rintro ⟨h1, h2⟩
    refine ⟨h1, fun i a b c => ?_⟩
    by_cases z : ∃ j, i < j ∧ j < sz r ∧ ca (12 * r + j) = y
    · exact z
    · exact absurd ⟨i, a, b, c, fun j p q s => z ⟨j, p, q, s⟩⟩ h2
set_option maxHeartbeats 4000000 in
set_option maxRecDepth 100000 in
theorem m_hab3 {K : Kt} (bl : Nat) (M : Mem) (hB : BkM M) (C : Ctx (shM bl) nM RX11 cX11_habits 7 none (lvl 0) (fun _ M' => (∀ k, k ≠ 37 → k ≠ 38 → M' k = M k) ∧ (∀ g, 0 ≤ g → g < 64 → M' 37 g = cnI (hvP (M 3) (M 4) (M 5) (M 2) (g / 8)) (M 0 7) ∧ M' 38 g = cnI (hoP (M 3) (M 4) (M 5) (M 2) (g / 8) (g % 8)) (M 0 7))) K) (h r : Int) (hh : 0 ≤ h ∧ h < 64) (hr : 0 ≤ r ∧ r < M 0 7) (N : Mem) (hN : (∀ k, k ≠ 37 → k ≠ 38 → N k = M k)) (kk : ∀ has wts : Int, flg has (hsP (M 2) r (h / 8) (M 3 r)) → flg wts (wtP (M 2) r (h / 8) (h % 8) (M 3 r)) → K 153 [(0, .inr 0), (1, .inl h), (2, .inl r), (3, .inl has), (4, .inl wts)] [] N) (has wts k : Int) (hk : 0 ≤ k ∧ k ≤ M 3 r) (g1 : flg has (hsP (M 2) r (h / 8) k)) (g2 : flg wts (wtP (M 2) r (h / 8) (h % 8) k)) : K 61 [(0, .inr 0), (1, .inl h), (2, .inl r), (3, .inl has), (4, .inl wts), (5, .inl k)] [] N := by
  have b1 := hB.1; have b2 := hB.2.1
  have n0 := hN 0 (by decide) (by decide); have n2 := hN 2 (by decide) (by decide); have n3 := hN 3 (by decide) (by decide); have n4 := hN 4 (by decide) (by decide); have n5 := hN 5 (by decide) (by decide)
  have hb0 := (hB.2.2 r hr.1 hr.2).1; have hb3 := (hB.2.2 r hr.1 hr.2).2.1
  have w01 := flg01 g2; have h01 := flg01 g1
  refine k_iload C dX11_habits_61 rfl ?_
  refine k_aload_n C dX11_habits_63 rfl rfl ?_
  refine k_getR C (j := 4) okC11 rfl (by decide) (by decide) rfl flX11_16 dX11_habits_64 ?_
  refine k_iload_n C dX11_habits_67 rfl rfl ?_
  refine k_iaload C rfl (by decide) (by decide) ⟨by omega, by omega⟩ dX11_habits_68 (fun ld68 => ?_)
  rw [n3] at ld68 ⊢
  refine k_icmp_ge C (tgt := 153) dX11_habits_69 rfl (by omega) (by omega) (fun c69 => ?_) (fun c69 => ?_)
  · refine k_cut2 C (lv' := [(0, _), (1, _), (2, _), (3, _), (4, _)]) ⟨rfl, rfl, rfl, rfl, rfl, trivial⟩ ?_
    exact kk has wts (by rw [show M 3 r = k by omega]; exact g1) (by rw [show M 3 r = k by omega]; exact g2)
  · refine k_aload_n C dX11_habits_72 rfl rfl ?_
    refine k_getR C (j := 3) okC11 rfl (by decide) (by decide) rfl flX11_13 dX11_habits_73 ?_
    refine k_bipush C dX11_habits_76 (by decide) ?_
    refine k_iload_n C dX11_habits_78 rfl rfl ?_
    refine k_imul C dX11_habits_79 ?_
    refine k_iload C dX11_habits_80 rfl ?_
    refine k_iadd C dX11_habits_82 ?_
    refine k_iaload C rfl (by decide) (by decide) ⟨by omega, by omega⟩ dX11_habits_83 (fun ld83 => ?_)
    rw [n2] at ld83 ⊢
    refine k_istore C dX11_habits_84 (by decide) ?_
    refine k_iload C dX11_habits_86 rfl ?_
    refine k_if_eq C (tgt := 104) dX11_habits_88 rfl (by omega) (fun c88 => ?_) (fun c88 => ?_)
    · refine k_iconst C dX11_habits_104 ?_
      refine k_istore C dX11_habits_105 (by decide) ?_
      refine k_iload_n C dX11_habits_107 rfl rfl ?_
      refine k_if_ne C (tgt := 120) dX11_habits_108 rfl (by omega) (fun c108 => ?_) (fun c108 => ?_)
      · refine k_iconst C dX11_habits_120 ?_
        refine k_goto C (tgt := 125) dX11_habits_121 rfl ?_
        refine k_istore_n C dX11_habits_125 rfl (by decide) ?_
        refine k_iload C dX11_habits_126 rfl ?_
        refine k_if_ne C (tgt := 140) dX11_habits_128 rfl (by omega) (fun c128 => ?_) (fun c128 => ?_)
        · refine k_iconst C dX11_habits_140 ?_
          refine k_goto C (tgt := 145) dX11_habits_141 rfl ?_
          refine k_istore C dX11_habits_145 (by decide) ?_
          refine k_iinc C dX11_habits_147 (by decide) rfl ?_
          refine k_goto C (tgt := 61) dX11_habits_150 rfl ?_
          refine k_cut2 C (lv' := [(0, _), (1, _), (2, _), (3, _), (4, _), (5, _)]) ⟨rfl, rfl, rfl, rfl, rfl, rfl, trivial⟩ ?_
          refine m_hab3 bl M hB C h r hh hr N hN kk _ _ (k + 1) (by omega) ?_ ?_
          · have s1 := hsP_s (ca := M 2) (r := r) (x := h / 8) hk.1
            first | exact flg_1 (s1.mpr (Or.inl (flg_y g1 c108))) | exact flg_1 (s1.mpr (Or.inr c117)) | exact flg_0 (fun q => (s1.mp q).elim (flg_n g1 c108) c117)
          · have s2 := wtP_s (ca := M 2) (r := r) (x := h / 8) (y := h % 8) hk.1
            first | exact flg_1 (s2.mpr (Or.inl ⟨flg_y g2 c88, c97⟩)) | exact flg_1 (s2.mpr (Or.inr c137)) | exact flg_0 (fun q => (s2.mp q).elim (fun y => flg_n g2 c88 y.1) c137) | exact flg_0 (fun q => (s2.mp q).elim (fun y => y.2 c97) c137) | (exfalso; omega)
        · refine k_iload C dX11_habits_131 rfl ?_
          refine k_iload_n C dX11_habits_133 rfl rfl ?_
          refine k_bipush C dX11_habits_134 (by decide) ?_
          refine k_idiv C dX11_habits_136 ⟨by omega, by omega⟩ (by decide) ?_
          refine k_icmp_ne C (tgt := 144) dX11_habits_137 rfl (by omega) (by omega) (fun c137 => ?_) (fun c137 => ?_)
          · refine k_iconst C dX11_habits_144 ?_
            refine k_istore C dX11_habits_145 (by decide) ?_
            refine k_iinc C dX11_habits_147 (by decide) rfl ?_
            refine k_goto C (tgt := 61) dX11_habits_150 rfl ?_
            refine k_cut2 C (lv' := [(0, _), (1, _), (2, _), (3, _), (4, _), (5, _)]) ⟨rfl, rfl, rfl, rfl, rfl, rfl, trivial⟩ ?_
            refine m_hab3 bl M hB C h r hh hr N hN kk _ _ (k + 1) (by omega) ?_ ?_
            · have s1 := hsP_s (ca := M 2) (r := r) (x := h / 8) hk.1
              first | exact flg_1 (s1.mpr (Or.inl (flg_y g1 c108))) | exact flg_1 (s1.mpr (Or.inr c117)) | exact flg_0 (fun q => (s1.mp q).elim (flg_n g1 c108) c117)
            · have s2 := wtP_s (ca := M 2) (r := r) (x := h / 8) (y := h % 8) hk.1
              first | exact flg_1 (s2.mpr (Or.inl ⟨flg_y g2 c88, c97⟩)) | exact flg_1 (s2.mpr (Or.inr c137)) | exact flg_0 (fun q => (s2.mp q).elim (fun y => flg_n g2 c88 y.1) c137) | exact flg_0 (fun q => (s2.mp q).elim (fun y => y.2 c97) c137) | (exfalso; omega)
          · refine k_iconst C dX11_habits_140 ?_
            refine k_goto C (tgt := 145) dX11_habits_141 rfl ?_
            refine k_istore C dX11_habits_145 (by decide) ?_
            refine k_iinc C dX11_habits_147 (by decide) rfl ?_
            refine k_goto C (tgt := 61) dX11_habits_150 rfl ?_
            refine k_cut2 C (lv' := [(0, _), (1, _), (2, _), (3, _), (4, _), (5, _)]) ⟨rfl, rfl, rfl, rfl, rfl, rfl, trivial⟩ ?_
            refine m_hab3 bl M hB C h r hh hr N hN kk _ _ (k + 1) (by omega) ?_ ?_
            · have s1 := hsP_s (ca := M 2) (r := r) (x := h / 8) hk.1
              first | exact flg_1 (s1.mpr (Or.inl (flg_y g1 c108))) | exact flg_1 (s1.mpr (Or.inr c117)) | exact flg_0 (fun q => (s1.mp q).elim (flg_n g1 c108) c117)
            · have s2 := wtP_s (ca := M 2) (r := r) (x := h / 8) (y := h % 8) hk.1
              first | exact flg_1 (s2.mpr (Or.inl ⟨flg_y g2 c88, c97⟩)) | exact flg_1 (s2.mpr (Or.inr c137)) | exact flg_0 (fun q => (s2.mp q).elim (fun y => flg_n g2 c88 y.1) c137) | exact flg_0 (fun q => (s2.mp q).elim (fun y => y.2 c97) c137) | (exfalso; omega)
      · refine k_iload C dX11_habits_111 rfl ?_
        refine k_iload_n C dX11_habits_113 rfl rfl ?_
        refine k_bipush C dX11_habits_114 (by decide) ?_
        refine k_idiv C dX11_habits_116 ⟨by omega, by omega⟩ (by decide) ?_
        refine k_icmp_ne C (tgt := 124) dX11_habits_117 rfl (by omega) (by omega) (fun c117 => ?_) (fun c117 => ?_)
        · refine k_iconst C dX11_habits_124 ?_
          refine k_istore_n C dX11_habits_125 rfl (by decide) ?_
          refine k_iload C dX11_habits_126 rfl ?_
          refine k_if_ne C (tgt := 140) dX11_habits_128 rfl (by omega) (fun c128 => ?_) (fun c128 => ?_)
          · refine k_iconst C dX11_habits_140 ?_
            refine k_goto C (tgt := 145) dX11_habits_141 rfl ?_
            refine k_istore C dX11_habits_145 (by decide) ?_
            refine k_iinc C dX11_habits_147 (by decide) rfl ?_
            refine k_goto C (tgt := 61) dX11_habits_150 rfl ?_
            refine k_cut2 C (lv' := [(0, _), (1, _), (2, _), (3, _), (4, _), (5, _)]) ⟨rfl, rfl, rfl, rfl, rfl, rfl, trivial⟩ ?_
            refine m_hab3 bl M hB C h r hh hr N hN kk _ _ (k + 1) (by omega) ?_ ?_
            · have s1 := hsP_s (ca := M 2) (r := r) (x := h / 8) hk.1
              first | exact flg_1 (s1.mpr (Or.inl (flg_y g1 c108))) | exact flg_1 (s1.mpr (Or.inr c117)) | exact flg_0 (fun q => (s1.mp q).elim (flg_n g1 c108) c117)
            · have s2 := wtP_s (ca := M 2) (r := r) (x := h / 8) (y := h % 8) hk.1
              first | exact flg_1 (s2.mpr (Or.inl ⟨flg_y g2 c88, c97⟩)) | exact flg_1 (s2.mpr (Or.inr c137)) | exact flg_0 (fun q => (s2.mp q).elim (fun y => flg_n g2 c88 y.1) c137) | exact flg_0 (fun q => (s2.mp q).elim (fun y => y.2 c97) c137) | (exfalso; omega)
          · refine k_iload C dX11_habits_131 rfl ?_
            refine k_iload_n C dX11_habits_133 rfl rfl ?_
            refine k_bipush C dX11_habits_134 (by decide) ?_
            refine k_idiv C dX11_habits_136 ⟨by omega, by omega⟩ (by decide) ?_
            refine k_icmp_ne C (tgt := 144) dX11_habits_137 rfl (by omega) (by omega) (fun c137 => ?_) (fun c137 => ?_)
            · refine k_iconst C dX11_habits_144 ?_
              refine k_istore C dX11_habits_145 (by decide) ?_
              refine k_iinc C dX11_habits_147 (by decide) rfl ?_
              refine k_goto C (tgt := 61) dX11_habits_150 rfl ?_
              refine k_cut2 C (lv' := [(0, _), (1, _), (2, _), (3, _), (4, _), (5, _)]) ⟨rfl, rfl, rfl, rfl, rfl, rfl, trivial⟩ ?_
              refine m_hab3 bl M hB C h r hh hr N hN kk _ _ (k + 1) (by omega) ?_ ?_
              · have s1 := hsP_s (ca := M 2) (r := r) (x := h / 8) hk.1
                first | exact flg_1 (s1.mpr (Or.inl (flg_y g1 c108))) | exact flg_1 (s1.mpr (Or.inr c117)) | exact flg_0 (fun q => (s1.mp q).elim (flg_n g1 c108) c117)
              · have s2 := wtP_s (ca := M 2) (r := r) (x := h / 8) (y := h % 8) hk.1
                first | exact flg_1 (s2.mpr (Or.inl ⟨flg_y g2 c88, c97⟩)) | exact flg_1 (s2.mpr (Or.inr c137)) | exact flg_0 (fun q => (s2.mp q).elim (fun y => flg_n g2 c88 y.1) c137) | exact flg_0 (fun q => (s2.mp q).elim (fun y => y.2 c97) c137) | (exfalso; omega)
            · refine k_iconst C dX11_habits_140 ?_
              refine k_goto C (tgt := 145) dX11_habits_141 rfl ?_
              refine k_istore C dX11_habits_145 (by decide) ?_
              refine k_iinc C dX11_habits_147 (by decide) rfl ?_
              refine k_goto C (tgt := 61) dX11_habits_150 rfl ?_
              refine k_cut2 C (lv' := [(0, _), (1, _), (2, _), (3, _), (4, _), (5, _)]) ⟨rfl, rfl, rfl, rfl, rfl, rfl, trivial⟩ ?_
              refine m_hab3 bl M hB C h r hh hr N hN kk _ _ (k + 1) (by omega) ?_ ?_
              · have s1 := hsP_s (ca := M 2) (r := r) (x := h / 8) hk.1
                first | exact flg_1 (s1.mpr (Or.inl (flg_y g1 c108))) | exact flg_1 (s1.mpr (Or.inr c117)) | exact flg_0 (fun q => (s1.mp q).elim (flg_n g1 c108) c117)
              · have s2 := wtP_s (ca := M 2) (r := r) (x := h / 8) (y := h % 8) hk.1
                first | exact flg_1 (s2.mpr (Or.inl ⟨flg_y g2 c88, c97⟩)) | exact flg_1 (s2.mpr (Or.inr c137)) | exact flg_0 (fun q => (s2.mp q).elim (fun y => flg_n g2 c88 y.1) c137) | exact flg_0 (fun q => (s2.mp q).elim (fun y => y.2 c97) c137) | (exfalso; omega)
        · refine k_iconst C dX11_habits_120 ?_
          refine k_goto C (tgt := 125) dX11_habits_121 rfl ?_
          refine k_istore_n C dX11_habits_125 rfl (by decide) ?_
          refine k_iload C dX11_habits_126 rfl ?_
          refine k_if_ne C (tgt := 140) dX11_habits_128 rfl (by omega) (fun c128 => ?_) (fun c128 => ?_)
          · refine k_iconst C dX11_habits_140 ?_
            refine k_goto C (tgt := 145) dX11_habits_141 rfl ?_
            refine k_istore C dX11_habits_145 (by decide) ?_
            refine k_iinc C dX11_habits_147 (by decide) rfl ?_
            refine k_goto C (tgt := 61) dX11_habits_150 rfl ?_
            refine k_cut2 C (lv' := [(0, _), (1, _), (2, _), (3, _), (4, _), (5, _)]) ⟨rfl, rfl, rfl, rfl, rfl, rfl, trivial⟩ ?_
            refine m_hab3 bl M hB C h r hh hr N hN kk _ _ (k + 1) (by omega) ?_ ?_
            · have s1 := hsP_s (ca := M 2) (r := r) (x := h / 8) hk.1
              first | exact flg_1 (s1.mpr (Or.inl (flg_y g1 c108))) | exact flg_1 (s1.mpr (Or.inr c117)) | exact flg_0 (fun q => (s1.mp q).elim (flg_n g1 c108) c117)
            · have s2 := wtP_s (ca := M 2) (r := r) (x := h / 8) (y := h % 8) hk.1
              first | exact flg_1 (s2.mpr (Or.inl ⟨flg_y g2 c88, c97⟩)) | exact flg_1 (s2.mpr (Or.inr c137)) | exact flg_0 (fun q => (s2.mp q).elim (fun y => flg_n g2 c88 y.1) c137) | exact flg_0 (fun q => (s2.mp q).elim (fun y => y.2 c97) c137) | (exfalso; omega)
          · refine k_iload C dX11_habits_131 rfl ?_
            refine k_iload_n C dX11_habits_133 rfl rfl ?_
            refine k_bipush C dX11_habits_134 (by decide) ?_
            refine k_idiv C dX11_habits_136 ⟨by omega, by omega⟩ (by decide) ?_
            refine k_icmp_ne C (tgt := 144) dX11_habits_137 rfl (by omega) (by omega) (fun c137 => ?_) (fun c137 => ?_)
            · refine k_iconst C dX11_habits_144 ?_
              refine k_istore C dX11_habits_145 (by decide) ?_
              refine k_iinc C dX11_habits_147 (by decide) rfl ?_
              refine k_goto C (tgt := 61) dX11_habits_150 rfl ?_
              refine k_cut2 C (lv' := [(0, _), (1, _), (2, _), (3, _), (4, _), (5, _)]) ⟨rfl, rfl, rfl, rfl, rfl, rfl, trivial⟩ ?_
              refine m_hab3 bl M hB C h r hh hr N hN kk _ _ (k + 1) (by omega) ?_ ?_
              · have s1 := hsP_s (ca := M 2) (r := r) (x := h / 8) hk.1
                first | exact flg_1 (s1.mpr (Or.inl (flg_y g1 c108))) | exact flg_1 (s1.mpr (Or.inr c117)) | exact flg_0 (fun q => (s1.mp q).elim (flg_n g1 c108) c117)
              · have s2 := wtP_s (ca := M 2) (r := r) (x := h / 8) (y := h % 8) hk.1
                first | exact flg_1 (s2.mpr (Or.inl ⟨flg_y g2 c88, c97⟩)) | exact flg_1 (s2.mpr (Or.inr c137)) | exact flg_0 (fun q => (s2.mp q).elim (fun y => flg_n g2 c88 y.1) c137) | exact flg_0 (fun q => (s2.mp q).elim (fun y => y.2 c97) c137) | (exfalso; omega)
            · refine k_iconst C dX11_habits_140 ?_
              refine k_goto C (tgt := 145) dX11_habits_141 rfl ?_
              refine k_istore C dX11_habits_145 (by decide) ?_
              refine k_iinc C dX11_habits_147 (by decide) rfl ?_
              refine k_goto C (tgt := 61) dX11_habits_150 rfl ?_
              refine k_cut2 C (lv' := [(0, _), (1, _), (2, _), (3, _), (4, _), (5, _)]) ⟨rfl, rfl, rfl, rfl, rfl, rfl, trivial⟩ ?_
              refine m_hab3 bl M hB C h r hh hr N hN kk _ _ (k + 1) (by omega) ?_ ?_
              · have s1 := hsP_s (ca := M 2) (r := r) (x := h / 8) hk.1
                first | exact flg_1 (s1.mpr (Or.inl (flg_y g1 c108))) | exact flg_1 (s1.mpr (Or.inr c117)) | exact flg_0 (fun q => (s1.mp q).elim (flg_n g1 c108) c117)
              · have s2 := wtP_s (ca := M 2) (r := r) (x := h / 8) (y := h % 8) hk.1
                first | exact flg_1 (s2.mpr (Or.inl ⟨flg_y g2 c88, c97⟩)) | exact flg_1 (s2.mpr (Or.inr c137)) | exact flg_0 (fun q => (s2.mp q).elim (fun y => flg_n g2 c88 y.1) c137) | exact flg_0 (fun q => (s2.mp q).elim (fun y => y.2 c97) c137) | (exfalso; omega)
    · refine k_iload C dX11_habits_91 rfl ?_
      refine k_iload_n C dX11_habits_93 rfl rfl ?_
      refine k_bipush C dX11_habits_94 (by decide) ?_
      refine k_irem C dX11_habits_96 ⟨by omega, by omega⟩ (by decide) ?_
      refine k_icmp_eq C (tgt := 104) dX11_habits_97 rfl (by omega) (by omega) (fun c97 => ?_) (fun c97 => ?_)
      · refine k_iconst C dX11_habits_104 ?_
        refine k_istore C dX11_habits_105 (by decide) ?_
        refine k_iload_n C dX11_habits_107 rfl rfl ?_
        refine k_if_ne C (tgt := 120) dX11_habits_108 rfl (by omega) (fun c108 => ?_) (fun c108 => ?_)
        · refine k_iconst C dX11_habits_120 ?_
          refine k_goto C (tgt := 125) dX11_habits_121 rfl ?_
          refine k_istore_n C dX11_habits_125 rfl (by decide) ?_
          refine k_iload C dX11_habits_126 rfl ?_
          refine k_if_ne C (tgt := 140) dX11_habits_128 rfl (by omega) (fun c128 => ?_) (fun c128 => ?_)
          · refine k_iconst C dX11_habits_140 ?_
            refine k_goto C (tgt := 145) dX11_habits_141 rfl ?_
            refine k_istore C dX11_habits_145 (by decide) ?_
            refine k_iinc C dX11_habits_147 (by decide) rfl ?_
            refine k_goto C (tgt := 61) dX11_habits_150 rfl ?_
            refine k_cut2 C (lv' := [(0, _), (1, _), (2, _), (3, _), (4, _), (5, _)]) ⟨rfl, rfl, rfl, rfl, rfl, rfl, trivial⟩ ?_
            refine m_hab3 bl M hB C h r hh hr N hN kk _ _ (k + 1) (by omega) ?_ ?_
            · have s1 := hsP_s (ca := M 2) (r := r) (x := h / 8) hk.1
              first | exact flg_1 (s1.mpr (Or.inl (flg_y g1 c108))) | exact flg_1 (s1.mpr (Or.inr c117)) | exact flg_0 (fun q => (s1.mp q).elim (flg_n g1 c108) c117)
            · have s2 := wtP_s (ca := M 2) (r := r) (x := h / 8) (y := h % 8) hk.1
              first | exact flg_1 (s2.mpr (Or.inl ⟨flg_y g2 c88, c97⟩)) | exact flg_1 (s2.mpr (Or.inr c137)) | exact flg_0 (fun q => (s2.mp q).elim (fun y => flg_n g2 c88 y.1) c137) | exact flg_0 (fun q => (s2.mp q).elim (fun y => y.2 c97) c137) | (exfalso; omega)
          · refine k_iload C dX11_habits_131 rfl ?_
            refine k_iload_n C dX11_habits_133 rfl rfl ?_
            refine k_bipush C dX11_habits_134 (by decide) ?_
            refine k_idiv C dX11_habits_136 ⟨by omega, by omega⟩ (by decide) ?_
            refine k_icmp_ne C (tgt := 144) dX11_habits_137 rfl (by omega) (by omega) (fun c137 => ?_) (fun c137 => ?_)
            · refine k_iconst C dX11_habits_144 ?_
              refine k_istore C dX11_habits_145 (by decide) ?_
              refine k_iinc C dX11_habits_147 (by decide) rfl ?_
              refine k_goto C (tgt := 61) dX11_habits_150 rfl ?_
              refine k_cut2 C (lv' := [(0, _), (1, _), (2, _), (3, _), (4, _), (5, _)]) ⟨rfl, rfl, rfl, rfl, rfl, rfl, trivial⟩ ?_
              refine m_hab3 bl M hB C h r hh hr N hN kk _ _ (k + 1) (by omega) ?_ ?_
              · have s1 := hsP_s (ca := M 2) (r := r) (x := h / 8) hk.1
                first | exact flg_1 (s1.mpr (Or.inl (flg_y g1 c108))) | exact flg_1 (s1.mpr (Or.inr c117)) | exact flg_0 (fun q => (s1.mp q).elim (flg_n g1 c108) c117)
              · have s2 := wtP_s (ca := M 2) (r := r) (x := h / 8) (y := h % 8) hk.1
                first | exact flg_1 (s2.mpr (Or.inl ⟨flg_y g2 c88, c97⟩)) | exact flg_1 (s2.mpr (Or.inr c137)) | exact flg_0 (fun q => (s2.mp q).elim (fun y => flg_n g2 c88 y.1) c137) | exact flg_0 (fun q => (s2.mp q).elim (fun y => y.2 c97) c137) | (exfalso; omega)
            · refine k_iconst C dX11_habits_140 ?_
              refine k_goto C (tgt := 145) dX11_habits_141 rfl ?_
              refine k_istore C dX11_habits_145 (by decide) ?_
              refine k_iinc C dX11_habits_147 (by decide) rfl ?_
              refine k_goto C (tgt := 61) dX11_habits_150 rfl ?_
              refine k_cut2 C (lv' := [(0, _), (1, _), (2, _), (3, _), (4, _), (5, _)]) ⟨rfl, rfl, rfl, rfl, rfl, rfl, trivial⟩ ?_
              refine m_hab3 bl M hB C h r hh hr N hN kk _ _ (k + 1) (by omega) ?_ ?_
              · have s1 := hsP_s (ca := M 2) (r := r) (x := h / 8) hk.1
                first | exact flg_1 (s1.mpr (Or.inl (flg_y g1 c108))) | exact flg_1 (s1.mpr (Or.inr c117)) | exact flg_0 (fun q => (s1.mp q).elim (flg_n g1 c108) c117)
              · have s2 := wtP_s (ca := M 2) (r := r) (x := h / 8) (y := h % 8) hk.1
                first | exact flg_1 (s2.mpr (Or.inl ⟨flg_y g2 c88, c97⟩)) | exact flg_1 (s2.mpr (Or.inr c137)) | exact flg_0 (fun q => (s2.mp q).elim (fun y => flg_n g2 c88 y.1) c137) | exact flg_0 (fun q => (s2.mp q).elim (fun y => y.2 c97) c137) | (exfalso; omega)
        · refine k_iload C dX11_habits_111 rfl ?_
          refine k_iload_n C dX11_habits_113 rfl rfl ?_
          refine k_bipush C dX11_habits_114 (by decide) ?_
          refine k_idiv C dX11_habits_116 ⟨by omega, by omega⟩ (by decide) ?_
          refine k_icmp_ne C (tgt := 124) dX11_habits_117 rfl (by omega) (by omega) (fun c117 => ?_) (fun c117 => ?_)
          · refine k_iconst C dX11_habits_124 ?_
            refine k_istore_n C dX11_habits_125 rfl (by decide) ?_
            refine k_iload C dX11_habits_126 rfl ?_
            refine k_if_ne C (tgt := 140) dX11_habits_128 rfl (by omega) (fun c128 => ?_) (fun c128 => ?_)
            · refine k_iconst C dX11_habits_140 ?_
              refine k_goto C (tgt := 145) dX11_habits_141 rfl ?_
              refine k_istore C dX11_habits_145 (by decide) ?_
              refine k_iinc C dX11_habits_147 (by decide) rfl ?_
              refine k_goto C (tgt := 61) dX11_habits_150 rfl ?_
              refine k_cut2 C (lv' := [(0, _), (1, _), (2, _), (3, _), (4, _), (5, _)]) ⟨rfl, rfl, rfl, rfl, rfl, rfl, trivial⟩ ?_
              refine m_hab3 bl M hB C h r hh hr N hN kk _ _ (k + 1) (by omega) ?_ ?_
              · have s1 := hsP_s (ca := M 2) (r := r) (x := h / 8) hk.1
                first | exact flg_1 (s1.mpr (Or.inl (flg_y g1 c108))) | exact flg_1 (s1.mpr (Or.inr c117)) | exact flg_0 (fun q => (s1.mp q).elim (flg_n g1 c108) c117)
              · have s2 := wtP_s (ca := M 2) (r := r) (x := h / 8) (y := h % 8) hk.1
                first | exact flg_1 (s2.mpr (Or.inl ⟨flg_y g2 c88, c97⟩)) | exact flg_1 (s2.mpr (Or.inr c137)) | exact flg_0 (fun q => (s2.mp q).elim (fun y => flg_n g2 c88 y.1) c137) | exact flg_0 (fun q => (s2.mp q).elim (fun y => y.2 c97) c137) | (exfalso; omega)
            · refine k_iload C dX11_habits_131 rfl ?_
              refine k_iload_n C dX11_habits_133 rfl rfl ?_
              refine k_bipush C dX11_habits_134 (by decide) ?_
              refine k_idiv C dX11_habits_136 ⟨by omega, by omega⟩ (by decide) ?_
              refine k_icmp_ne C (tgt := 144) dX11_habits_137 rfl (by omega) (by omega) (fun c137 => ?_) (fun c137 => ?_)
              · refine k_iconst C dX11_habits_144 ?_
                refine k_istore C dX11_habits_145 (by decide) ?_
                refine k_iinc C dX11_habits_147 (by decide) rfl ?_
                refine k_goto C (tgt := 61) dX11_habits_150 rfl ?_
                refine k_cut2 C (lv' := [(0, _), (1, _), (2, _), (3, _), (4, _), (5, _)]) ⟨rfl, rfl, rfl, rfl, rfl, rfl, trivial⟩ ?_
                refine m_hab3 bl M hB C h r hh hr N hN kk _ _ (k + 1) (by omega) ?_ ?_
                · have s1 := hsP_s (ca := M 2) (r := r) (x := h / 8) hk.1
                  first | exact flg_1 (s1.mpr (Or.inl (flg_y g1 c108))) | exact flg_1 (s1.mpr (Or.inr c117)) | exact flg_0 (fun q => (s1.mp q).elim (flg_n g1 c108) c117)
                · have s2 := wtP_s (ca := M 2) (r := r) (x := h / 8) (y := h % 8) hk.1
                  first | exact flg_1 (s2.mpr (Or.inl ⟨flg_y g2 c88, c97⟩)) | exact flg_1 (s2.mpr (Or.inr c137)) | exact flg_0 (fun q => (s2.mp q).elim (fun y => flg_n g2 c88 y.1) c137) | exact flg_0 (fun q => (s2.mp q).elim (fun y => y.2 c97) c137) | (exfalso; omega)
              · refine k_iconst C dX11_habits_140 ?_
                refine k_goto C (tgt := 145) dX11_habits_141 rfl ?_
                refine k_istore C dX11_habits_145 (by decide) ?_
                refine k_iinc C dX11_habits_147 (by decide) rfl ?_
                refine k_goto C (tgt := 61) dX11_habits_150 rfl ?_
                refine k_cut2 C (lv' := [(0, _), (1, _), (2, _), (3, _), (4, _), (5, _)]) ⟨rfl, rfl, rfl, rfl, rfl, rfl, trivial⟩ ?_
                refine m_hab3 bl M hB C h r hh hr N hN kk _ _ (k + 1) (by omega) ?_ ?_
                · have s1 := hsP_s (ca := M 2) (r := r) (x := h / 8) hk.1
                  first | exact flg_1 (s1.mpr (Or.inl (flg_y g1 c108))) | exact flg_1 (s1.mpr (Or.inr c117)) | exact flg_0 (fun q => (s1.mp q).elim (flg_n g1 c108) c117)
                · have s2 := wtP_s (ca := M 2) (r := r) (x := h / 8) (y := h % 8) hk.1
                  first | exact flg_1 (s2.mpr (Or.inl ⟨flg_y g2 c88, c97⟩)) | exact flg_1 (s2.mpr (Or.inr c137)) | exact flg_0 (fun q => (s2.mp q).elim (fun y => flg_n g2 c88 y.1) c137) | exact flg_0 (fun q => (s2.mp q).elim (fun y => y.2 c97) c137) | (exfalso; omega)
          · refine k_iconst C dX11_habits_120 ?_
            refine k_goto C (tgt := 125) dX11_habits_121 rfl ?_
            refine k_istore_n C dX11_habits_125 rfl (by decide) ?_
            refine k_iload C dX11_habits_126 rfl ?_
            refine k_if_ne C (tgt := 140) dX11_habits_128 rfl (by omega) (fun c128 => ?_) (fun c128 => ?_)
            · refine k_iconst C dX11_habits_140 ?_
              refine k_goto C (tgt := 145) dX11_habits_141 rfl ?_
              refine k_istore C dX11_habits_145 (by decide) ?_
              refine k_iinc C dX11_habits_147 (by decide) rfl ?_
              refine k_goto C (tgt := 61) dX11_habits_150 rfl ?_
              refine k_cut2 C (lv' := [(0, _), (1, _), (2, _), (3, _), (4, _), (5, _)]) ⟨rfl, rfl, rfl, rfl, rfl, rfl, trivial⟩ ?_
              refine m_hab3 bl M hB C h r hh hr N hN kk _ _ (k + 1) (by omega) ?_ ?_
              · have s1 := hsP_s (ca := M 2) (r := r) (x := h / 8) hk.1
                first | exact flg_1 (s1.mpr (Or.inl (flg_y g1 c108))) | exact flg_1 (s1.mpr (Or.inr c117)) | exact flg_0 (fun q => (s1.mp q).elim (flg_n g1 c108) c117)
              · have s2 := wtP_s (ca := M 2) (r := r) (x := h / 8) (y := h % 8) hk.1
                first | exact flg_1 (s2.mpr (Or.inl ⟨flg_y g2 c88, c97⟩)) | exact flg_1 (s2.mpr (Or.inr c137)) | exact flg_0 (fun q => (s2.mp q).elim (fun y => flg_n g2 c88 y.1) c137) | exact flg_0 (fun q => (s2.mp q).elim (fun y => y.2 c97) c137) | (exfalso; omega)
            · refine k_iload C dX11_habits_131 rfl ?_
              refine k_iload_n C dX11_habits_133 rfl rfl ?_
              refine k_bipush C dX11_habits_134 (by decide) ?_
              refine k_idiv C dX11_habits_136 ⟨by omega, by omega⟩ (by decide) ?_
              refine k_icmp_ne C (tgt := 144) dX11_habits_137 rfl (by omega) (by omega) (fun c137 => ?_) (fun c137 => ?_)
              · refine k_iconst C dX11_habits_144 ?_
                refine k_istore C dX11_habits_145 (by decide) ?_
                refine k_iinc C dX11_habits_147 (by decide) rfl ?_
                refine k_goto C (tgt := 61) dX11_habits_150 rfl ?_
                refine k_cut2 C (lv' := [(0, _), (1, _), (2, _), (3, _), (4, _), (5, _)]) ⟨rfl, rfl, rfl, rfl, rfl, rfl, trivial⟩ ?_
                refine m_hab3 bl M hB C h r hh hr N hN kk _ _ (k + 1) (by omega) ?_ ?_
                · have s1 := hsP_s (ca := M 2) (r := r) (x := h / 8) hk.1
                  first | exact flg_1 (s1.mpr (Or.inl (flg_y g1 c108))) | exact flg_1 (s1.mpr (Or.inr c117)) | exact flg_0 (fun q => (s1.mp q).elim (flg_n g1 c108) c117)
                · have s2 := wtP_s (ca := M 2) (r := r) (x := h / 8) (y := h % 8) hk.1
                  first | exact flg_1 (s2.mpr (Or.inl ⟨flg_y g2 c88, c97⟩)) | exact flg_1 (s2.mpr (Or.inr c137)) | exact flg_0 (fun q => (s2.mp q).elim (fun y => flg_n g2 c88 y.1) c137) | exact flg_0 (fun q => (s2.mp q).elim (fun y => y.2 c97) c137) | (exfalso; omega)
              · refine k_iconst C dX11_habits_140 ?_
                refine k_goto C (tgt := 145) dX11_habits_141 rfl ?_
                refine k_istore C dX11_habits_145 (by decide) ?_
                refine k_iinc C dX11_habits_147 (by decide) rfl ?_
                refine k_goto C (tgt := 61) dX11_habits_150 rfl ?_
                refine k_cut2 C (lv' := [(0, _), (1, _), (2, _), (3, _), (4, _), (5, _)]) ⟨rfl, rfl, rfl, rfl, rfl, rfl, trivial⟩ ?_
                refine m_hab3 bl M hB C h r hh hr N hN kk _ _ (k + 1) (by omega) ?_ ?_
                · have s1 := hsP_s (ca := M 2) (r := r) (x := h / 8) hk.1
                  first | exact flg_1 (s1.mpr (Or.inl (flg_y g1 c108))) | exact flg_1 (s1.mpr (Or.inr c117)) | exact flg_0 (fun q => (s1.mp q).elim (flg_n g1 c108) c117)
                · have s2 := wtP_s (ca := M 2) (r := r) (x := h / 8) (y := h % 8) hk.1
                  first | exact flg_1 (s2.mpr (Or.inl ⟨flg_y g2 c88, c97⟩)) | exact flg_1 (s2.mpr (Or.inr c137)) | exact flg_0 (fun q => (s2.mp q).elim (fun y => flg_n g2 c88 y.1) c137) | exact flg_0 (fun q => (s2.mp q).elim (fun y => y.2 c97) c137) | (exfalso; omega)
      · refine k_iconst C dX11_habits_100 ?_
        refine k_goto C (tgt := 105) dX11_habits_101 rfl ?_
        refine k_istore C dX11_habits_105 (by decide) ?_
        refine k_iload_n C dX11_habits_107 rfl rfl ?_
        refine k_if_ne C (tgt := 120) dX11_habits_108 rfl (by omega) (fun c108 => ?_) (fun c108 => ?_)
        · refine k_iconst C dX11_habits_120 ?_
          refine k_goto C (tgt := 125) dX11_habits_121 rfl ?_
          refine k_istore_n C dX11_habits_125 rfl (by decide) ?_
          refine k_iload C dX11_habits_126 rfl ?_
          refine k_if_ne C (tgt := 140) dX11_habits_128 rfl (by omega) (fun c128 => ?_) (fun c128 => ?_)
          · refine k_iconst C dX11_habits_140 ?_
            refine k_goto C (tgt := 145) dX11_habits_141 rfl ?_
            refine k_istore C dX11_habits_145 (by decide) ?_
            refine k_iinc C dX11_habits_147 (by decide) rfl ?_
            refine k_goto C (tgt := 61) dX11_habits_150 rfl ?_
            refine k_cut2 C (lv' := [(0, _), (1, _), (2, _), (3, _), (4, _), (5, _)]) ⟨rfl, rfl, rfl, rfl, rfl, rfl, trivial⟩ ?_
            refine m_hab3 bl M hB C h r hh hr N hN kk _ _ (k + 1) (by omega) ?_ ?_
            · have s1 := hsP_s (ca := M 2) (r := r) (x := h / 8) hk.1
              first | exact flg_1 (s1.mpr (Or.inl (flg_y g1 c108))) | exact flg_1 (s1.mpr (Or.inr c117)) | exact flg_0 (fun q => (s1.mp q).elim (flg_n g1 c108) c117)
            · have s2 := wtP_s (ca := M 2) (r := r) (x := h / 8) (y := h % 8) hk.1
              first | exact flg_1 (s2.mpr (Or.inl ⟨flg_y g2 c88, c97⟩)) | exact flg_1 (s2.mpr (Or.inr c137)) | exact flg_0 (fun q => (s2.mp q).elim (fun y => flg_n g2 c88 y.1) c137) | exact flg_0 (fun q => (s2.mp q).elim (fun y => y.2 c97) c137) | (exfalso; omega)
          · refine k_iload C dX11_habits_131 rfl ?_
            refine k_iload_n C dX11_habits_133 rfl rfl ?_
            refine k_bipush C dX11_habits_134 (by decide) ?_
            refine k_idiv C dX11_habits_136 ⟨by omega, by omega⟩ (by decide) ?_
            refine k_icmp_ne C (tgt := 144) dX11_habits_137 rfl (by omega) (by omega) (fun c137 => ?_) (fun c137 => ?_)
            · refine k_iconst C dX11_habits_144 ?_
              refine k_istore C dX11_habits_145 (by decide) ?_
              refine k_iinc C dX11_habits_147 (by decide) rfl ?_
              refine k_goto C (tgt := 61) dX11_habits_150 rfl ?_
              refine k_cut2 C (lv' := [(0, _), (1, _), (2, _), (3, _), (4, _), (5, _)]) ⟨rfl, rfl, rfl, rfl, rfl, rfl, trivial⟩ ?_
              refine m_hab3 bl M hB C h r hh hr N hN kk _ _ (k + 1) (by omega) ?_ ?_
              · have s1 := hsP_s (ca := M 2) (r := r) (x := h / 8) hk.1
                first | exact flg_1 (s1.mpr (Or.inl (flg_y g1 c108))) | exact flg_1 (s1.mpr (Or.inr c117)) | exact flg_0 (fun q => (s1.mp q).elim (flg_n g1 c108) c117)
              · have s2 := wtP_s (ca := M 2) (r := r) (x := h / 8) (y := h % 8) hk.1
                first | exact flg_1 (s2.mpr (Or.inl ⟨flg_y g2 c88, c97⟩)) | exact flg_1 (s2.mpr (Or.inr c137)) | exact flg_0 (fun q => (s2.mp q).elim (fun y => flg_n g2 c88 y.1) c137) | exact flg_0 (fun q => (s2.mp q).elim (fun y => y.2 c97) c137) | (exfalso; omega)
            · refine k_iconst C dX11_habits_140 ?_
              refine k_goto C (tgt := 145) dX11_habits_141 rfl ?_
              refine k_istore C dX11_habits_145 (by decide) ?_
              refine k_iinc C dX11_habits_147 (by decide) rfl ?_
              refine k_goto C (tgt := 61) dX11_habits_150 rfl ?_
              refine k_cut2 C (lv' := [(0, _), (1, _), (2, _), (3, _), (4, _), (5, _)]) ⟨rfl, rfl, rfl, rfl, rfl, rfl, trivial⟩ ?_
              refine m_hab3 bl M hB C h r hh hr N hN kk _ _ (k + 1) (by omega) ?_ ?_
              · have s1 := hsP_s (ca := M 2) (r := r) (x := h / 8) hk.1
                first | exact flg_1 (s1.mpr (Or.inl (flg_y g1 c108))) | exact flg_1 (s1.mpr (Or.inr c117)) | exact flg_0 (fun q => (s1.mp q).elim (flg_n g1 c108) c117)
              · have s2 := wtP_s (ca := M 2) (r := r) (x := h / 8) (y := h % 8) hk.1
                first | exact flg_1 (s2.mpr (Or.inl ⟨flg_y g2 c88, c97⟩)) | exact flg_1 (s2.mpr (Or.inr c137)) | exact flg_0 (fun q => (s2.mp q).elim (fun y => flg_n g2 c88 y.1) c137) | exact flg_0 (fun q => (s2.mp q).elim (fun y => y.2 c97) c137) | (exfalso; omega)
        · refine k_iload C dX11_habits_111 rfl ?_
          refine k_iload_n C dX11_habits_113 rfl rfl ?_
          refine k_bipush C dX11_habits_114 (by decide) ?_
          refine k_idiv C dX11_habits_116 ⟨by omega, by omega⟩ (by decide) ?_
          refine k_icmp_ne C (tgt := 124) dX11_habits_117 rfl (by omega) (by omega) (fun c117 => ?_) (fun c117 => ?_)
          · refine k_iconst C dX11_habits_124 ?_
            refine k_istore_n C dX11_habits_125 rfl (by decide) ?_
            refine k_iload C dX11_habits_126 rfl ?_
            refine k_if_ne C (tgt := 140) dX11_habits_128 rfl (by omega) (fun c128 => ?_) (fun c128 => ?_)
            · refine k_iconst C dX11_habits_140 ?_
              refine k_goto C (tgt := 145) dX11_habits_141 rfl ?_
              refine k_istore C dX11_habits_145 (by decide) ?_
              refine k_iinc C dX11_habits_147 (by decide) rfl ?_
              refine k_goto C (tgt := 61) dX11_habits_150 rfl ?_
              refine k_cut2 C (lv' := [(0, _), (1, _), (2, _), (3, _), (4, _), (5, _)]) ⟨rfl, rfl, rfl, rfl, rfl, rfl, trivial⟩ ?_
              refine m_hab3 bl M hB C h r hh hr N hN kk _ _ (k + 1) (by omega) ?_ ?_
              · have s1 := hsP_s (ca := M 2) (r := r) (x := h / 8) hk.1
                first | exact flg_1 (s1.mpr (Or.inl (flg_y g1 c108))) | exact flg_1 (s1.mpr (Or.inr c117)) | exact flg_0 (fun q => (s1.mp q).elim (flg_n g1 c108) c117)
              · have s2 := wtP_s (ca := M 2) (r := r) (x := h / 8) (y := h % 8) hk.1
                first | exact flg_1 (s2.mpr (Or.inl ⟨flg_y g2 c88, c97⟩)) | exact flg_1 (s2.mpr (Or.inr c137)) | exact flg_0 (fun q => (s2.mp q).elim (fun y => flg_n g2 c88 y.1) c137) | exact flg_0 (fun q => (s2.mp q).elim (fun y => y.2 c97) c137) | (exfalso; omega)
            · refine k_iload C dX11_habits_131 rfl ?_
              refine k_iload_n C dX11_habits_133 rfl rfl ?_
              refine k_bipush C dX11_habits_134 (by decide) ?_
              refine k_idiv C dX11_habits_136 ⟨by omega, by omega⟩ (by decide) ?_
              refine k_icmp_ne C (tgt := 144) dX11_habits_137 rfl (by omega) (by omega) (fun c137 => ?_) (fun c137 => ?_)
              · refine k_iconst C dX11_habits_144 ?_
                refine k_istore C dX11_habits_145 (by decide) ?_
                refine k_iinc C dX11_habits_147 (by decide) rfl ?_
                refine k_goto C (tgt := 61) dX11_habits_150 rfl ?_
                refine k_cut2 C (lv' := [(0, _), (1, _), (2, _), (3, _), (4, _), (5, _)]) ⟨rfl, rfl, rfl, rfl, rfl, rfl, trivial⟩ ?_
                refine m_hab3 bl M hB C h r hh hr N hN kk _ _ (k + 1) (by omega) ?_ ?_
                · have s1 := hsP_s (ca := M 2) (r := r) (x := h / 8) hk.1
                  first | exact flg_1 (s1.mpr (Or.inl (flg_y g1 c108))) | exact flg_1 (s1.mpr (Or.inr c117)) | exact flg_0 (fun q => (s1.mp q).elim (flg_n g1 c108) c117)
                · have s2 := wtP_s (ca := M 2) (r := r) (x := h / 8) (y := h % 8) hk.1
                  first | exact flg_1 (s2.mpr (Or.inl ⟨flg_y g2 c88, c97⟩)) | exact flg_1 (s2.mpr (Or.inr c137)) | exact flg_0 (fun q => (s2.mp q).elim (fun y => flg_n g2 c88 y.1) c137) | exact flg_0 (fun q => (s2.mp q).elim (fun y => y.2 c97) c137) | (exfalso; omega)
              · refine k_iconst C dX11_habits_140 ?_
                refine k_goto C (tgt := 145) dX11_habits_141 rfl ?_
                refine k_istore C dX11_habits_145 (by decide) ?_
                refine k_iinc C dX11_habits_147 (by decide) rfl ?_
                refine k_goto C (tgt := 61) dX11_habits_150 rfl ?_
                refine k_cut2 C (lv' := [(0, _), (1, _), (2, _), (3, _), (4, _), (5, _)]) ⟨rfl, rfl, rfl, rfl, rfl, rfl, trivial⟩ ?_
                refine m_hab3 bl M hB C h r hh hr N hN kk _ _ (k + 1) (by omega) ?_ ?_
                · have s1 := hsP_s (ca := M 2) (r := r) (x := h / 8) hk.1
                  first | exact flg_1 (s1.mpr (Or.inl (flg_y g1 c108))) | exact flg_1 (s1.mpr (Or.inr c117)) | exact flg_0 (fun q => (s1.mp q).elim (flg_n g1 c108) c117)
                · have s2 := wtP_s (ca := M 2) (r := r) (x := h / 8) (y := h % 8) hk.1
                  first | exact flg_1 (s2.mpr (Or.inl ⟨flg_y g2 c88, c97⟩)) | exact flg_1 (s2.mpr (Or.inr c137)) | exact flg_0 (fun q => (s2.mp q).elim (fun y => flg_n g2 c88 y.1) c137) | exact flg_0 (fun q => (s2.mp q).elim (fun y => y.2 c97) c137) | (exfalso; omega)
          · refine k_iconst C dX11_habits_120 ?_
            refine k_goto C (tgt := 125) dX11_habits_121 rfl ?_
            refine k_istore_n C dX11_habits_125 rfl (by decide) ?_
            refine k_iload C dX11_habits_126 rfl ?_
            refine k_if_ne C (tgt := 140) dX11_habits_128 rfl (by omega) (fun c128 => ?_) (fun c128 => ?_)
            · refine k_iconst C dX11_habits_140 ?_
              refine k_goto C (tgt := 145) dX11_habits_141 rfl ?_
              refine k_istore C dX11_habits_145 (by decide) ?_
              refine k_iinc C dX11_habits_147 (by decide) rfl ?_
              refine k_goto C (tgt := 61) dX11_habits_150 rfl ?_
              refine k_cut2 C (lv' := [(0, _), (1, _), (2, _), (3, _), (4, _), (5, _)]) ⟨rfl, rfl, rfl, rfl, rfl, rfl, trivial⟩ ?_
              refine m_hab3 bl M hB C h r hh hr N hN kk _ _ (k + 1) (by omega) ?_ ?_
              · have s1 := hsP_s (ca := M 2) (r := r) (x := h / 8) hk.1
                first | exact flg_1 (s1.mpr (Or.inl (flg_y g1 c108))) | exact flg_1 (s1.mpr (Or.inr c117)) | exact flg_0 (fun q => (s1.mp q).elim (flg_n g1 c108) c117)
              · have s2 := wtP_s (ca := M 2) (r := r) (x := h / 8) (y := h % 8) hk.1
                first | exact flg_1 (s2.mpr (Or.inl ⟨flg_y g2 c88, c97⟩)) | exact flg_1 (s2.mpr (Or.inr c137)) | exact flg_0 (fun q => (s2.mp q).elim (fun y => flg_n g2 c88 y.1) c137) | exact flg_0 (fun q => (s2.mp q).elim (fun y => y.2 c97) c137) | (exfalso; omega)
            · refine k_iload C dX11_habits_131 rfl ?_
              refine k_iload_n C dX11_habits_133 rfl rfl ?_
              refine k_bipush C dX11_habits_134 (by decide) ?_
              refine k_idiv C dX11_habits_136 ⟨by omega, by omega⟩ (by decide) ?_
              refine k_icmp_ne C (tgt := 144) dX11_habits_137 rfl (by omega) (by omega) (fun c137 => ?_) (fun c137 => ?_)
              · refine k_iconst C dX11_habits_144 ?_
                refine k_istore C dX11_habits_145 (by decide) ?_
                refine k_iinc C dX11_habits_147 (by decide) rfl ?_
                refine k_goto C (tgt := 61) dX11_habits_150 rfl ?_
                refine k_cut2 C (lv' := [(0, _), (1, _), (2, _), (3, _), (4, _), (5, _)]) ⟨rfl, rfl, rfl, rfl, rfl, rfl, trivial⟩ ?_
                refine m_hab3 bl M hB C h r hh hr N hN kk _ _ (k + 1) (by omega) ?_ ?_
                · have s1 := hsP_s (ca := M 2) (r := r) (x := h / 8) hk.1
                  first | exact flg_1 (s1.mpr (Or.inl (flg_y g1 c108))) | exact flg_1 (s1.mpr (Or.inr c117)) | exact flg_0 (fun q => (s1.mp q).elim (flg_n g1 c108) c117)
                · have s2 := wtP_s (ca := M 2) (r := r) (x := h / 8) (y := h % 8) hk.1
                  first | exact flg_1 (s2.mpr (Or.inl ⟨flg_y g2 c88, c97⟩)) | exact flg_1 (s2.mpr (Or.inr c137)) | exact flg_0 (fun q => (s2.mp q).elim (fun y => flg_n g2 c88 y.1) c137) | exact flg_0 (fun q => (s2.mp q).elim (fun y => y.2 c97) c137) | (exfalso; omega)
              · refine k_iconst C dX11_habits_140 ?_
                refine k_goto C (tgt := 145) dX11_habits_141 rfl ?_
                refine k_istore C dX11_habits_145 (by decide) ?_
                refine k_iinc C dX11_habits_147 (by decide) rfl ?_
                refine k_goto C (tgt := 61) dX11_habits_150 rfl ?_
                refine k_cut2 C (lv' := [(0, _), (1, _), (2, _), (3, _), (4, _), (5, _)]) ⟨rfl, rfl, rfl, rfl, rfl, rfl, trivial⟩ ?_
                refine m_hab3 bl M hB C h r hh hr N hN kk _ _ (k + 1) (by omega) ?_ ?_
                · have s1 := hsP_s (ca := M 2) (r := r) (x := h / 8) hk.1
                  first | exact flg_1 (s1.mpr (Or.inl (flg_y g1 c108))) | exact flg_1 (s1.mpr (Or.inr c117)) | exact flg_0 (fun q => (s1.mp q).elim (flg_n g1 c108) c117)
                · have s2 := wtP_s (ca := M 2) (r := r) (x := h / 8) (y := h % 8) hk.1
                  first | exact flg_1 (s2.mpr (Or.inl ⟨flg_y g2 c88, c97⟩)) | exact flg_1 (s2.mpr (Or.inr c137)) | exact flg_0 (fun q => (s2.mp q).elim (fun y => flg_n g2 c88 y.1) c137) | exact flg_0 (fun q => (s2.mp q).elim (fun y => y.2 c97) c137) | (exfalso; omega)
termination_by (M 3 r - k).toNat
decreasing_by all_goals omega
set_option maxHeartbeats 4000000 in
set_option maxRecDepth 100000 in
theorem m_hab2 {K : Kt} (bl : Nat) (M : Mem) (hB : BkM M) (C : Ctx (shM bl) nM RX11 cX11_habits 7 none (lvl 0) (fun _ M' => (∀ k, k ≠ 37 → k ≠ 38 → M' k = M k) ∧ (∀ g, 0 ≤ g → g < 64 → M' 37 g = cnI (hvP (M 3) (M 4) (M 5) (M 2) (g / 8)) (M 0 7) ∧ M' 38 g = cnI (hoP (M 3) (M 4) (M 5) (M 2) (g / 8) (g % 8)) (M 0 7))) K) (h : Int) (hh : 0 ≤ h ∧ h < 64) (kk : ∀ N : Mem, (∀ k, k ≠ 37 → k ≠ 38 → N k = M k) → (∀ g, 0 ≤ g → g < (h + 1) → N 37 g = cnI (hvP (M 3) (M 4) (M 5) (M 2) (g / 8)) (M 0 7) ∧ N 38 g = cnI (hoP (M 3) (M 4) (M 5) (M 2) (g / 8) (g % 8)) (M 0 7)) → K 200 [(0, .inr 0), (1, .inl h)] [] N) (N : Mem) (hN : (∀ k, k ≠ 37 → k ≠ 38 → N k = M k)) (hS : (∀ g, 0 ≤ g → g < h → N 37 g = cnI (hvP (M 3) (M 4) (M 5) (M 2) (g / 8)) (M 0 7) ∧ N 38 g = cnI (hoP (M 3) (M 4) (M 5) (M 2) (g / 8) (g % 8)) (M 0 7))) (r : Int) (hr : 0 ≤ r ∧ r ≤ M 0 7) (hT : (N 37 h = cnI (hvP (M 3) (M 4) (M 5) (M 2) (h / 8)) r ∧ N 38 h = cnI (hoP (M 3) (M 4) (M 5) (M 2) (h / 8) (h % 8)) r)) : K 24 [(0, .inr 0), (1, .inl h), (2, .inl r)] [] N := by
  have b1 := hB.1; have b2 := hB.2.1
  have n0 := hN 0 (by decide) (by decide); have n2 := hN 2 (by decide) (by decide); have n3 := hN 3 (by decide) (by decide); have n4 := hN 4 (by decide) (by decide); have n5 := hN 5 (by decide) (by decide)
  have hbr := hB.2.2 r hr.1
  have c1 := cnI_rg (hvP (M 3) (M 4) (M 5) (M 2) (h / 8)) hr.1; have c2 := cnI_rg (hoP (M 3) (M 4) (M 5) (M 2) (h / 8) (h % 8)) hr.1
  have s1 := cnI_s (hvP (M 3) (M 4) (M 5) (M 2) (h / 8)) hr.1; have s2 := cnI_s (hoP (M 3) (M 4) (M 5) (M 2) (h / 8) (h % 8)) hr.1
  have t1 := hT.1; have t2 := hT.2
  refine k_iload_n C dX11_habits_24 rfl rfl ?_
  refine k_aload_n C dX11_habits_25 rfl rfl ?_
  refine k_getJ C 7 7 rfl okC11 rfl (by decide) (by decide) rfl flX11_147 dX11_habits_26 (fun ld26 => ?_)
  rw [n0] at ld26 ⊢
  refine k_icmp_ge C (tgt := 200) dX11_habits_29 rfl (by omega) (by omega) (fun c29 => ?_) (fun c29 => ?_)
  · refine k_cut2 C (lv' := [(0, _), (1, _)]) ⟨rfl, rfl, trivial⟩ ?_
    refine kk N hN (fun g z1 z2 => ?_)
    by_cases e : g = h
    · subst e; rw [show M 0 7 = r by omega]; exact hT
    · exact hS g z1 (by omega)
  · have hbr := hbr c29
    refine k_aload_n C dX11_habits_32 rfl rfl ?_
    refine k_getR C (j := 6) okC11 rfl (by decide) (by decide) rfl flX11_23 dX11_habits_33 ?_
    refine k_iload_n C dX11_habits_36 rfl rfl ?_
    refine k_zaload C rfl (by decide) (by decide) ⟨by omega, by omega⟩ dX11_habits_37 (fun ld37 => ?_)
    rw [n5] at ld37 ⊢
    refine k_if_eq C (tgt := 194) dX11_habits_38 rfl (by omega) (fun c38 => ?_) (fun c38 => ?_)
    · refine k_iinc C dX11_habits_194 (by decide) rfl ?_
      refine k_goto C (tgt := 24) dX11_habits_197 rfl ?_
      refine k_cut2 C (lv' := [(0, _), (1, _), (2, _)]) ⟨rfl, rfl, rfl, trivial⟩ ?_
      refine m_hab2 bl M hB C h hh kk N hN hS (r + 1) (by omega) ⟨?_, ?_⟩
      · rw [s1, iteP_neg (fun q => by have q1 := q.1; have q2 := q.2.1; omega), t1]; omega
      · rw [s2, iteP_neg (fun q => by have q1 := q.1; have q2 := q.2.1; omega), t2]; omega
    · refine k_aload_n C dX11_habits_41 rfl rfl ?_
      refine k_getR C (j := 5) okC11 rfl (by decide) (by decide) rfl flX11_19 dX11_habits_42 ?_
      refine k_iload_n C dX11_habits_45 rfl rfl ?_
      refine k_zaload C rfl (by decide) (by decide) ⟨by omega, by omega⟩ dX11_habits_46 (fun ld46 => ?_)
      rw [n4] at ld46 ⊢
      refine k_if_ne C (tgt := 53) dX11_habits_47 rfl (by omega) (fun c47 => ?_) (fun c47 => ?_)
      · refine k_iconst C dX11_habits_53 ?_
        refine k_istore_n C dX11_habits_54 rfl (by decide) ?_
        refine k_iconst C dX11_habits_55 ?_
        refine k_istore C dX11_habits_56 (by decide) ?_
        refine k_iconst C dX11_habits_58 ?_
        refine k_istore C dX11_habits_59 (by decide) ?_
        refine k_cut2 C (lv' := [(0, _), (1, _), (2, _), (3, _), (4, _), (5, _)]) ⟨rfl, rfl, rfl, rfl, rfl, rfl, trivial⟩ ?_
        refine m_hab3 bl M hB C h r hh (by omega) N hN (fun has wts g1 g2 => ?_) 0 0 0 (by omega) (flg_0 (fun ⟨j, z1, z2, _⟩ => by omega)) (flg_0 (fun ⟨j, z1, z2, _⟩ => by omega))
        have h01 := flg01 g1; have w01 := flg01 g2
        have hw := hld_wt (sz := M 3) (ca := M 2) (r := r) (x := h / 8) (y := h % 8)
        refine k_aload_n C dX11_habits_153 rfl rfl ?_
        refine k_getR C (j := 53) okC11 rfl (by decide) (by decide) rfl flX11_120 dX11_habits_154 ?_
        refine k_iload_n C dX11_habits_157 rfl rfl ?_
        refine k_dup2 C dX11_habits_158 ?_
        refine k_iaload C rfl (by decide) (by decide) ⟨by omega, by omega⟩ dX11_habits_159 (fun ld159 => ?_)
        rw [t1] at ld159 ⊢
        refine k_iload_n C dX11_habits_160 rfl rfl ?_
        refine k_if_eq C (tgt := 168) dX11_habits_161 rfl (by omega) (fun c161 => ?_) (fun c161 => ?_)
        · refine k_iconst C dX11_habits_168 ?_
          refine k_iadd C dX11_habits_169 ?_
          refine k_iastore C rfl (by decide) (by decide) ⟨by omega, by omega⟩ (by omega) dX11_habits_170 ?_
          refine k_aload_n C dX11_habits_171 rfl rfl ?_
          refine k_getR C (j := 54) okC11 rfl (by decide) (by decide) rfl flX11_123 dX11_habits_172 ?_
          refine k_iload_n C dX11_habits_175 rfl rfl ?_
          refine k_dup2 C dX11_habits_176 ?_
          refine k_iaload C rfl (by decide) (by decide) ⟨by omega, by omega⟩ dX11_habits_177 (fun ld177 => ?_)
          rw [up_ne (show (38 : Nat) ≠ 37 by decide), t2] at ld177 ⊢
          refine k_iload_n C dX11_habits_178 rfl rfl ?_
          refine k_if_eq C (tgt := 191) dX11_habits_179 rfl (by omega) (fun c179 => ?_) (fun c179 => ?_)
          · refine k_iconst C dX11_habits_191 ?_
            refine k_iadd C dX11_habits_192 ?_
            refine k_iastore C rfl (by decide) (by decide) ⟨by omega, by omega⟩ (by omega) dX11_habits_193 ?_
            refine k_iinc C dX11_habits_194 (by decide) rfl ?_
            refine k_goto C (tgt := 24) dX11_habits_197 rfl ?_
            refine k_cut2 C (lv' := [(0, _), (1, _), (2, _)]) ⟨rfl, rfl, rfl, trivial⟩ ?_
            refine m_hab2 bl M hB C h hh kk _ (fun k z z' => by rw [up_ne z', up_ne z, hN k z z']) (fun g z1 z2 => ?_) (r + 1) (by omega) ⟨?_, ?_⟩
            · rw [up_ne (show (37 : Nat) ≠ 38 by decide), up_at, up_at, if_neg (by omega), if_neg (by omega), up_ne (show (38 : Nat) ≠ 37 by decide)]; exact hS g z1 z2
            · rw [up_ne (show (37 : Nat) ≠ 38 by decide), up_same, s1]
              first | (rw [iteP_pos ⟨by omega, by omega, flg_y g1 c161⟩]; done) | (rw [iteP_neg (fun q => flg_n g1 c161 q.2.2)]; done) | (exfalso; omega)
            · rw [up_same, s2]
              first | (rw [iteP_pos ⟨by omega, by omega, hw.mpr ⟨flg_y g1 c179, flg_n g2 c184⟩⟩]; done) | (rw [iteP_neg (fun q => (hw.mp q.2.2).2 (flg_y g2 c184))]; done) | (rw [iteP_neg (fun q => flg_n g1 c179 (hw.mp q.2.2).1)]; done) | (exfalso; omega)
          · refine k_iload C dX11_habits_182 rfl ?_
            refine k_if_ne C (tgt := 191) dX11_habits_184 rfl (by omega) (fun c184 => ?_) (fun c184 => ?_)
            · refine k_iconst C dX11_habits_191 ?_
              refine k_iadd C dX11_habits_192 ?_
              refine k_iastore C rfl (by decide) (by decide) ⟨by omega, by omega⟩ (by omega) dX11_habits_193 ?_
              refine k_iinc C dX11_habits_194 (by decide) rfl ?_
              refine k_goto C (tgt := 24) dX11_habits_197 rfl ?_
              refine k_cut2 C (lv' := [(0, _), (1, _), (2, _)]) ⟨rfl, rfl, rfl, trivial⟩ ?_
              refine m_hab2 bl M hB C h hh kk _ (fun k z z' => by rw [up_ne z', up_ne z, hN k z z']) (fun g z1 z2 => ?_) (r + 1) (by omega) ⟨?_, ?_⟩
              · rw [up_ne (show (37 : Nat) ≠ 38 by decide), up_at, up_at, if_neg (by omega), if_neg (by omega), up_ne (show (38 : Nat) ≠ 37 by decide)]; exact hS g z1 z2
              · rw [up_ne (show (37 : Nat) ≠ 38 by decide), up_same, s1]
                first | (rw [iteP_pos ⟨by omega, by omega, flg_y g1 c161⟩]; done) | (rw [iteP_neg (fun q => flg_n g1 c161 q.2.2)]; done) | (exfalso; omega)
              · rw [up_same, s2]
                first | (rw [iteP_pos ⟨by omega, by omega, hw.mpr ⟨flg_y g1 c179, flg_n g2 c184⟩⟩]; done) | (rw [iteP_neg (fun q => (hw.mp q.2.2).2 (flg_y g2 c184))]; done) | (rw [iteP_neg (fun q => flg_n g1 c179 (hw.mp q.2.2).1)]; done) | (exfalso; omega)
            · refine k_iconst C dX11_habits_187 ?_
              refine k_goto C (tgt := 192) dX11_habits_188 rfl ?_
              refine k_iadd C dX11_habits_192 ?_
              refine k_iastore C rfl (by decide) (by decide) ⟨by omega, by omega⟩ (by omega) dX11_habits_193 ?_
              refine k_iinc C dX11_habits_194 (by decide) rfl ?_
              refine k_goto C (tgt := 24) dX11_habits_197 rfl ?_
              refine k_cut2 C (lv' := [(0, _), (1, _), (2, _)]) ⟨rfl, rfl, rfl, trivial⟩ ?_
              refine m_hab2 bl M hB C h hh kk _ (fun k z z' => by rw [up_ne z', up_ne z, hN k z z']) (fun g z1 z2 => ?_) (r + 1) (by omega) ⟨?_, ?_⟩
              · rw [up_ne (show (37 : Nat) ≠ 38 by decide), up_at, up_at, if_neg (by omega), if_neg (by omega), up_ne (show (38 : Nat) ≠ 37 by decide)]; exact hS g z1 z2
              · rw [up_ne (show (37 : Nat) ≠ 38 by decide), up_same, s1]
                first | (rw [iteP_pos ⟨by omega, by omega, flg_y g1 c161⟩]; done) | (rw [iteP_neg (fun q => flg_n g1 c161 q.2.2)]; done) | (exfalso; omega)
              · rw [up_same, s2]
                first | (rw [iteP_pos ⟨by omega, by omega, hw.mpr ⟨flg_y g1 c179, flg_n g2 c184⟩⟩]; done) | (rw [iteP_neg (fun q => (hw.mp q.2.2).2 (flg_y g2 c184))]; done) | (rw [iteP_neg (fun q => flg_n g1 c179 (hw.mp q.2.2).1)]; done) | (exfalso; omega)
        · refine k_iconst C dX11_habits_164 ?_
          refine k_goto C (tgt := 169) dX11_habits_165 rfl ?_
          refine k_iadd C dX11_habits_169 ?_
          refine k_iastore C rfl (by decide) (by decide) ⟨by omega, by omega⟩ (by omega) dX11_habits_170 ?_
          refine k_aload_n C dX11_habits_171 rfl rfl ?_
          refine k_getR C (j := 54) okC11 rfl (by decide) (by decide) rfl flX11_123 dX11_habits_172 ?_
          refine k_iload_n C dX11_habits_175 rfl rfl ?_
          refine k_dup2 C dX11_habits_176 ?_
          refine k_iaload C rfl (by decide) (by decide) ⟨by omega, by omega⟩ dX11_habits_177 (fun ld177 => ?_)
          rw [up_ne (show (38 : Nat) ≠ 37 by decide), t2] at ld177 ⊢
          refine k_iload_n C dX11_habits_178 rfl rfl ?_
          refine k_if_eq C (tgt := 191) dX11_habits_179 rfl (by omega) (fun c179 => ?_) (fun c179 => ?_)
          · refine k_iconst C dX11_habits_191 ?_
            refine k_iadd C dX11_habits_192 ?_
            refine k_iastore C rfl (by decide) (by decide) ⟨by omega, by omega⟩ (by omega) dX11_habits_193 ?_
            refine k_iinc C dX11_habits_194 (by decide) rfl ?_
            refine k_goto C (tgt := 24) dX11_habits_197 rfl ?_
            refine k_cut2 C (lv' := [(0, _), (1, _), (2, _)]) ⟨rfl, rfl, rfl, trivial⟩ ?_
            refine m_hab2 bl M hB C h hh kk _ (fun k z z' => by rw [up_ne z', up_ne z, hN k z z']) (fun g z1 z2 => ?_) (r + 1) (by omega) ⟨?_, ?_⟩
            · rw [up_ne (show (37 : Nat) ≠ 38 by decide), up_at, up_at, if_neg (by omega), if_neg (by omega), up_ne (show (38 : Nat) ≠ 37 by decide)]; exact hS g z1 z2
            · rw [up_ne (show (37 : Nat) ≠ 38 by decide), up_same, s1]
              first | (rw [iteP_pos ⟨by omega, by omega, flg_y g1 c161⟩]; done) | (rw [iteP_neg (fun q => flg_n g1 c161 q.2.2)]; done) | (exfalso; omega)
            · rw [up_same, s2]
              first | (rw [iteP_pos ⟨by omega, by omega, hw.mpr ⟨flg_y g1 c179, flg_n g2 c184⟩⟩]; done) | (rw [iteP_neg (fun q => (hw.mp q.2.2).2 (flg_y g2 c184))]; done) | (rw [iteP_neg (fun q => flg_n g1 c179 (hw.mp q.2.2).1)]; done) | (exfalso; omega)
          · refine k_iload C dX11_habits_182 rfl ?_
            refine k_if_ne C (tgt := 191) dX11_habits_184 rfl (by omega) (fun c184 => ?_) (fun c184 => ?_)
            · refine k_iconst C dX11_habits_191 ?_
              refine k_iadd C dX11_habits_192 ?_
              refine k_iastore C rfl (by decide) (by decide) ⟨by omega, by omega⟩ (by omega) dX11_habits_193 ?_
              refine k_iinc C dX11_habits_194 (by decide) rfl ?_
              refine k_goto C (tgt := 24) dX11_habits_197 rfl ?_
              refine k_cut2 C (lv' := [(0, _), (1, _), (2, _)]) ⟨rfl, rfl, rfl, trivial⟩ ?_
              refine m_hab2 bl M hB C h hh kk _ (fun k z z' => by rw [up_ne z', up_ne z, hN k z z']) (fun g z1 z2 => ?_) (r + 1) (by omega) ⟨?_, ?_⟩
              · rw [up_ne (show (37 : Nat) ≠ 38 by decide), up_at, up_at, if_neg (by omega), if_neg (by omega), up_ne (show (38 : Nat) ≠ 37 by decide)]; exact hS g z1 z2
              · rw [up_ne (show (37 : Nat) ≠ 38 by decide), up_same, s1]
                first | (rw [iteP_pos ⟨by omega, by omega, flg_y g1 c161⟩]; done) | (rw [iteP_neg (fun q => flg_n g1 c161 q.2.2)]; done) | (exfalso; omega)
              · rw [up_same, s2]
                first | (rw [iteP_pos ⟨by omega, by omega, hw.mpr ⟨flg_y g1 c179, flg_n g2 c184⟩⟩]; done) | (rw [iteP_neg (fun q => (hw.mp q.2.2).2 (flg_y g2 c184))]; done) | (rw [iteP_neg (fun q => flg_n g1 c179 (hw.mp q.2.2).1)]; done) | (exfalso; omega)
            · refine k_iconst C dX11_habits_187 ?_
              refine k_goto C (tgt := 192) dX11_habits_188 rfl ?_
              refine k_iadd C dX11_habits_192 ?_
              refine k_iastore C rfl (by decide) (by decide) ⟨by omega, by omega⟩ (by omega) dX11_habits_193 ?_
              refine k_iinc C dX11_habits_194 (by decide) rfl ?_
              refine k_goto C (tgt := 24) dX11_habits_197 rfl ?_
              refine k_cut2 C (lv' := [(0, _), (1, _), (2, _)]) ⟨rfl, rfl, rfl, trivial⟩ ?_
              refine m_hab2 bl M hB C h hh kk _ (fun k z z' => by rw [up_ne z', up_ne z, hN k z z']) (fun g z1 z2 => ?_) (r + 1) (by omega) ⟨?_, ?_⟩
              · rw [up_ne (show (37 : Nat) ≠ 38 by decide), up_at, up_at, if_neg (by omega), if_neg (by omega), up_ne (show (38 : Nat) ≠ 37 by decide)]; exact hS g z1 z2
              · rw [up_ne (show (37 : Nat) ≠ 38 by decide), up_same, s1]
                first | (rw [iteP_pos ⟨by omega, by omega, flg_y g1 c161⟩]; done) | (rw [iteP_neg (fun q => flg_n g1 c161 q.2.2)]; done) | (exfalso; omega)
              · rw [up_same, s2]
                first | (rw [iteP_pos ⟨by omega, by omega, hw.mpr ⟨flg_y g1 c179, flg_n g2 c184⟩⟩]; done) | (rw [iteP_neg (fun q => (hw.mp q.2.2).2 (flg_y g2 c184))]; done) | (rw [iteP_neg (fun q => flg_n g1 c179 (hw.mp q.2.2).1)]; done) | (exfalso; omega)
      · refine k_goto C (tgt := 194) dX11_habits_50 rfl ?_
        refine k_iinc C dX11_habits_194 (by decide) rfl ?_
        refine k_goto C (tgt := 24) dX11_habits_197 rfl ?_
        refine k_cut2 C (lv' := [(0, _), (1, _), (2, _)]) ⟨rfl, rfl, rfl, trivial⟩ ?_
        refine m_hab2 bl M hB C h hh kk N hN hS (r + 1) (by omega) ⟨?_, ?_⟩
        · rw [s1, iteP_neg (fun q => by have q1 := q.1; have q2 := q.2.1; omega), t1]; omega
        · rw [s2, iteP_neg (fun q => by have q1 := q.1; have q2 := q.2.1; omega), t2]; omega
termination_by (M 0 7 - r).toNat
decreasing_by all_goals omega
set_option maxHeartbeats 4000000 in
set_option maxRecDepth 100000 in
theorem m_hab1 {K : Kt} (bl : Nat) (M : Mem) (hB : BkM M) (C : Ctx (shM bl) nM RX11 cX11_habits 7 none (lvl 0) (fun _ M' => (∀ k, k ≠ 37 → k ≠ 38 → M' k = M k) ∧ (∀ g, 0 ≤ g → g < 64 → M' 37 g = cnI (hvP (M 3) (M 4) (M 5) (M 2) (g / 8)) (M 0 7) ∧ M' 38 g = cnI (hoP (M 3) (M 4) (M 5) (M 2) (g / 8) (g % 8)) (M 0 7))) K) (N : Mem) (hN : (∀ k, k ≠ 37 → k ≠ 38 → N k = M k)) (h : Int) (hh : 0 ≤ h ∧ h ≤ 64) (hS : (∀ g, 0 ≤ g → g < h → N 37 g = cnI (hvP (M 3) (M 4) (M 5) (M 2) (g / 8)) (M 0 7) ∧ N 38 g = cnI (hoP (M 3) (M 4) (M 5) (M 2) (g / 8) (g % 8)) (M 0 7))) : K 2 [(0, .inr 0), (1, .inl h)] [] N := by
  have b1 := hB.1; have b2 := hB.2.1
  refine k_iload_n C dX11_habits_2 rfl rfl ?_
  refine k_bipush C dX11_habits_3 (by decide) ?_
  refine k_icmp_ge C (tgt := 206) dX11_habits_5 rfl (by omega) (by omega) (fun c5 => ?_) (fun c5 => ?_)
  · exact k_vret C dX11_habits_206 (fun _ => ⟨hN, by rw [show (64 : Int) = h by omega]; exact hS⟩)
  · refine k_aload_n C dX11_habits_8 rfl rfl ?_
    refine k_getR C (j := 53) okC11 rfl (by decide) (by decide) rfl flX11_120 dX11_habits_9 ?_
    refine k_iload_n C dX11_habits_12 rfl rfl ?_
    refine k_iconst C dX11_habits_13 ?_
    refine k_iastore C rfl (by decide) (by decide) ⟨by omega, by omega⟩ (by omega) dX11_habits_14 ?_
    refine k_aload_n C dX11_habits_15 rfl rfl ?_
    refine k_getR C (j := 54) okC11 rfl (by decide) (by decide) rfl flX11_123 dX11_habits_16 ?_
    refine k_iload_n C dX11_habits_19 rfl rfl ?_
    refine k_iconst C dX11_habits_20 ?_
    refine k_iastore C rfl (by decide) (by decide) ⟨by omega, by omega⟩ (by omega) dX11_habits_21 ?_
    refine k_iconst C dX11_habits_22 ?_
    refine k_istore_n C dX11_habits_23 rfl (by decide) ?_
    refine k_cut2 C (lv' := [(0, _), (1, _), (2, _)]) ⟨rfl, rfl, rfl, trivial⟩ ?_
    refine m_hab2 bl M hB C h (by omega) (fun N2 z1 z2 => ?_) _ (fun k z z' => by rw [up_ne z', up_ne z, hN k z z']) (fun g z1 z2 => ?_) 0 (by omega) ⟨?_, ?_⟩
    · refine k_iinc C dX11_habits_200 (by decide) rfl ?_
      refine k_goto C (tgt := 2) dX11_habits_203 rfl ?_
      refine k_cut2 C (lv' := [(0, _), (1, _)]) ⟨rfl, rfl, trivial⟩ ?_
      exact m_hab1 bl M hB C N2 z1 (h + 1) (by omega) z2
    · rw [up_ne (show (37 : Nat) ≠ 38 by decide), up_at, up_at, if_neg (by omega), if_neg (by omega), up_ne (show (38 : Nat) ≠ 37 by decide)]; exact hS g z1 z2
    · rw [up_ne (show (37 : Nat) ≠ 38 by decide), up_same]; rfl
    · rw [up_same]; rfl
termination_by (64 - h).toNat
decreasing_by all_goals omega
set_option maxHeartbeats 4000000 in
set_option maxRecDepth 100000 in
theorem c_M_habits (bl : Nat) (M : Mem) (hB : BkM M) : Ct (shM bl) nM yX11_habits cX11_habits 7 none (lvl 0) [.inr 0] M (fun _ M' => (∀ k, k ≠ 37 → k ≠ 38 → M' k = M k) ∧ (∀ g, 0 ≤ g → g < 64 → M' 37 g = cnI (hvP (M 3) (M 4) (M 5) (M 2) (g / 8)) (M 0 7) ∧ M' 38 g = cnI (hoP (M 3) (M 4) (M 5) (M 2) (g / 8) (g % 8)) (M 0 7))) := by
  refine Ct_of (by decide +kernel) (Nat.le_of_ble_eq_true rfl) (fun K C => ?_)
  refine k_iconst C dX11_habits_0 ?_
  refine k_istore_n C dX11_habits_1 rfl (by decide) ?_
  refine k_cut2 C (lv' := [(0, _), (1, _)]) ⟨rfl, rfl, trivial⟩ ?_
  exact m_hab1 bl M hB C M (fun _ _ _ => rfl) 0 (by omega) (fun g z1 z2 => by omega)
