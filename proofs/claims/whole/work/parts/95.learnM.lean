/-! THE REFERENCE: learn -/
abbrev TWm (M : Mem) : (Int → Int) → (Int → Int) → Prop := TW (M 0 7) (M 3) (M 4) (M 5) (M 2)
def LnG (M N : Mem) : Prop := (∀ j, 0 < j → j < 6 ∨ 21 < j → N j = M j) ∧ ∀ i, i ≠ 13 → i ≠ 20 → i ≠ 25 → N 0 i = M 0 i
def LnM (M N : Mem) (r : Int) : Prop := LnG M N ∧ ∃ m ch pr lc, TrOk (M 0 7) (cuM M) (M 2) m ch pr lc ∧ m ≤ 721 ∧ LnP (M 0 7) (M 3) (M 4) (M 5) (M 2) (cuM M) m ch r (M 0 25) (N 0 25) (M 19) (M 20) (N 19) (N 20) ∧ (r = -1 ∨ (1 ≤ r ∧ r ≤ 30))
/-- the frame while it melts -/
def LF (M N : Mem) : Prop := (∀ j, j ≠ 0 → j ≠ 13 → j ≠ 14 → j ≠ 15 → j ≠ 16 → j ≠ 17 → j ≠ 18 → j ≠ 21 → N j = M j) ∧ ∀ i, i ≠ 20 → N 0 i = M 0 i
theorem LF.m {M N L : Mem} (h : LF M N) (h2 : MF N L) : LF M L := ⟨fun j a b c d e f g k => by rw [h2.1 j a b c d e f g]; exact h.1 j a b c d e f g k, fun i hi => by rw [h2.2 i hi]; exact h.2 i hi⟩
theorem LF.u {M N : Mem} (h : LF M N) {k : Nat} {i v : Int} (hk : k = 13 ∨ k = 14 ∨ k = 21) : LF M (up N k i v) :=
  ⟨fun j a b c d e f g w => by rw [up_ne (by rcases hk with z | z | z <;> rw [z] <;> assumption)]; exact h.1 j a b c d e f g w, fun x hx => by rw [up_ne (by rcases hk with z | z | z <;> rw [z] <;> decide)]; exact h.2 x hx⟩
theorem LF.e {M N : Mem} (h : LF M N) : N 0 7 = M 0 7 ∧ N 0 13 = M 0 13 ∧ N 2 = M 2 ∧ N 3 = M 3 ∧ N 4 = M 4 ∧ N 5 = M 5 ∧ N 6 = M 6 ∧ N 7 = M 7 ∧ N 8 = M 8 ∧ N 19 = M 19 ∧ N 20 = M 20 ∧ N 0 25 = M 0 25 := by
  have e (j : Nat) (a : j ≠ 0 ∧ j ≠ 13 ∧ j ≠ 14 ∧ j ≠ 15 ∧ j ≠ 16 ∧ j ≠ 17 ∧ j ≠ 18 ∧ j ≠ 21) := h.1 j a.1 a.2.1 a.2.2.1 a.2.2.2.1 a.2.2.2.2.1 a.2.2.2.2.2.1 a.2.2.2.2.2.2.1 a.2.2.2.2.2.2.2
  exact ⟨h.2 7 (by decide), h.2 13 (by decide), e 2 (by decide), e 3 (by decide), e 4 (by decide), e 5 (by decide), e 6 (by decide), e 7 (by decide), e 8 (by decide), e 19 (by decide), e 20 (by decide), h.2 25 (by decide)⟩
theorem LF.bk {M N : Mem} (h : LF M N) (hB : BkM M) : BkM N := by
  obtain ⟨a, -, b, c, d, e, -⟩ := h.e
  unfold BkM; rw [a, b, c, d, e]; exact hB
theorem LF.tw {M N : Mem} (h : LF M N) : TWm N = TWm M := by
  obtain ⟨a, -, b, c, d, e, -⟩ := h.e
  unfold TWm; rw [a, b, c, d, e]
theorem LF.ask {M N : Mem} (h : LF M N) : askM N = askM M := by
  obtain ⟨a, -, b, c, d, e, -⟩ := h.e
  unfold askM; rw [a, b, c, d, e]
set_option maxHeartbeats 4000000 in
set_option maxRecDepth 100000 in
theorem m_placeOf {K : Kt} (bl : Nat) (M : Mem) (x many : Int) (hx : inR x) (hm : 0 ≤ many ∧ many ≤ 30) (C : Ctx (shM bl) nM RX11 cX11_placeOf 4 (some .int) (lvl 0) (fun r M' => M = M' ∧ (0 ≤ r ∧ r ≤ many) ∧ (∀ j, 0 ≤ j → j < r → ¬ M 21 j = x) ∧ (r < many → M 21 r = x)) K) (i : Int) (hi : 0 ≤ i ∧ i ≤ many) (hI : ∀ j, 0 ≤ j → j < i → ¬ M 21 j = x) : K 2 [(0, .inr 0), (1, .inl x), (2, .inl many), (3, .inl i)] [] M := by
  refine k_iload_n C dX11_placeOf_2 rfl rfl ?_
  refine k_iload_n C dX11_placeOf_3 rfl rfl ?_
  refine k_icmp_ge C (tgt := 23) dX11_placeOf_4 rfl (by omega) (by omega) (fun c4 => ?_) (fun c4 => ?_)
  · refine k_iload_n C dX11_placeOf_23 rfl rfl ?_
    exact k_iret C dX11_placeOf_24 (by omega) (fun _ => ⟨rfl, hi, hI, fun q => by omega⟩)
  · refine k_aload_n C dX11_placeOf_7 rfl rfl ?_
    refine k_getR C (j := 26) okC11 rfl (by decide) (by decide) rfl flX11_71 dX11_placeOf_8 ?_
    refine k_iload_n C dX11_placeOf_11 rfl rfl ?_
    refine k_iaload C rfl (by decide) (by decide) ⟨by omega, by omega⟩ dX11_placeOf_12 (fun ld12 => ?_)
    refine k_iload_n C dX11_placeOf_13 rfl rfl ?_
    refine k_icmp_eq C (tgt := 23) dX11_placeOf_14 rfl (by omega) (by omega) (fun c14 => ?_) (fun c14 => ?_)
    · refine k_iload_n C dX11_placeOf_23 rfl rfl ?_
      exact k_iret C dX11_placeOf_24 (by omega) (fun _ => ⟨rfl, hi, hI, fun q => by omega⟩)
    · refine k_iinc C dX11_placeOf_17 (by decide) rfl ?_
      refine k_goto C (tgt := 2) dX11_placeOf_20 rfl ?_
      refine k_cut2 C (lv' := [(0, _), (1, _), (2, _), (3, _)]) ⟨rfl, rfl, rfl, rfl, trivial⟩ ?_
      refine m_placeOf bl M x many hx hm C (i + 1) (by omega) (fun j a b => ?_)
      by_cases e : j = i
      · rw [e]; omega
      · exact hI j a (by omega)
termination_by (many - i).toNat
decreasing_by all_goals omega
set_option maxHeartbeats 4000000 in
set_option maxRecDepth 100000 in
theorem c_M_placeOf (bl : Nat) (M : Mem) (x many : Int) (hx : inR x) (hm : 0 ≤ many ∧ many ≤ 30) : Ct (shM bl) nM yX11_placeOf cX11_placeOf 4 (some .int) (lvl 0) [.inr 0, .inl x, .inl many] M (fun r M' => M = M' ∧ (0 ≤ r ∧ r ≤ many) ∧ (∀ j, 0 ≤ j → j < r → ¬ M 21 j = x) ∧ (r < many → M 21 r = x)) := by
  refine Ct_of (by decide +kernel) (Nat.le_of_ble_eq_true rfl) (fun K C => ?_)
  refine k_iconst C dX11_placeOf_0 ?_
  refine k_istore_n C dX11_placeOf_1 rfl (by decide) ?_
  refine k_cut2 C (lv' := [(0, _), (1, _), (2, _), (3, _)]) ⟨rfl, rfl, rfl, rfl, trivial⟩ ?_
  exact m_placeOf bl M x many hx hm C 0 (by omega) (fun j a b => by omega)
set_option maxHeartbeats 4000000 in
set_option maxRecDepth 100000 in
theorem m_ln9 {K : Kt} (bl : Nat) (B : Mem) (hB : BkM B) (C : Ctx (shM bl) nM RX11 cX11_learn 6 (some .int) (lvl 3) (fun r M' => LnM B M' r) K) (Q : Mem) (hQ : TrP B Q) (m : Int) (hm : Q 0 13 = m) (c0 : Int → Int) (hc0 : c0 = clp m (Q 8)) (R : ((Int → Int) × (Int → Int)) × (Int → Int) × Int) (hR : lrn (TWm B) (m - 1).toNat 1 (fun x => x) c0 (fun _ => 0) 1 = some R) (hL : LI m c0 R.1.1 R.1.2 R.2.1 R.2.2 m) (Q9 : Mem) (g9 : (∀ j, 0 < j → j < 6 ∨ 21 < j → Q9 j = B j) ∧ (∀ i, i ≠ 13 → i ≠ 20 → i ≠ 25 → Q9 0 i = B 0 i) ∧ Q9 0 25 = R.2.2 ∧ (∀ r, 0 ≤ r → r < B 0 7 → Q9 6 r = cuM B r)) (h19 : LwP R.1.1 R.1.2 R.2.1 R.2.2 (Q9 19)) (h20 : ∀ i, 0 ≤ i → i < 8 * R.2.2 → Q9 20 i = 0) (N : Mem) (hF : ∀ j, j ≠ 20 → N j = Q9 j) (r l s : Int) (tm : Int → Int) (hr : 0 ≤ r ∧ r < B 0 7) (hl : 0 ≤ l ∧ (l ≤ cuM B r ∨ l = 0)) (hs : s = (crw (Q9 19) tm (B 2) r l.toNat).2) (h25 : N 20 = (crw (Q9 19) tm (B 2) r l.toNat).1) (htm : ∀ i, 0 ≤ i → i < 8 * R.2.2 → 0 ≤ tm i ∧ tm i ≤ 12 * r) (kk : ∀ N2, (∀ j, j ≠ 20 → N2 j = Q9 j) → N2 20 = (crw (Q9 19) tm (B 2) r (cuM B r).toNat).1 → K 280 [(0, .inr 0), (1, .inl R.2.2), (2, .inl (r + 1))] [] N2) : K 293 [(0, .inr 0), (1, .inl R.2.2), (2, .inl r), (3, .inl s), (4, .inl l)] [] N := by
  have tf := hQ.1.e
  have hT := hQ.2.2.1
  have hCu : CuOk (B 0 7) (cuM B) (B 2) := cutN_ok hB
  have m721 : m ≤ 721 := by rw [← hm]; exact hQ.2.2.2
  have b1 := hB.1; have b2 := hB.2.1
  have hT2 : TrOk (B 0 7) (cuM B) (B 2) m c0 (Q 9) (Q 10) := by
    rw [hc0]; rw [hm] at hT; exact TrOk_cg hCu hT (fun i a b => clp_at a b)
  have hmany := hL.2.2.2.2.1
  have e2 : N 2 = B 2 := by rw [hF 2 (by decide)]; exact g9.1 2 (by decide) (by decide)
  have e07 : N 0 7 = B 0 7 := by rw [hF 0 (by decide)]; exact g9.2.1 7 (by decide) (by decide) (by decide)
  have e025 : N 0 25 = R.2.2 := by rw [hF 0 (by decide)]; exact g9.2.2.1
  have e6 : N 6 = Q9 6 := hF 6 (by decide)
  have e19 : N 19 = Q9 19 := hF 19 (by decide)
  have hcr : -1 ≤ cuM B r ∧ cuM B r ≤ B 3 r ∧ cuM B r ≤ 12 := cutN_rg hB hr.1 hr.2
  have s1 := crw_st hCu hT2 hL h19 hr tm l.toNat (by omega)
  rw [← hs] at s1
  refine k_iload C dX11_learn_293 rfl ?_
  refine k_aload_n C dX11_learn_295 rfl rfl ?_
  refine k_getR C (j := 8) okC11 rfl (by decide) (by decide) rfl flX11_26 dX11_learn_296 ?_
  refine k_iload_n C dX11_learn_299 rfl rfl ?_
  refine k_iaload C rfl (by decide) (by decide) ⟨by omega, by omega⟩ dX11_learn_300 (fun ld300 => ?_)
  rw [e6, g9.2.2.2 r hr.1 hr.2]
  refine k_icmp_ge C (tgt := 348) dX11_learn_301 rfl (by omega) (by omega) (fun c301 => ?_) (fun c301 => ?_)
  · refine k_iinc C dX11_learn_348 (by decide) rfl ?_
    refine k_goto C (tgt := 280) dX11_learn_351 rfl ?_
    refine k_cut2 C (lv' := [(0, _), (1, _), (2, _)]) ⟨rfl, rfl, rfl, trivial⟩ ?_
    have el : l.toNat = (cuM B r).toNat := by omega
    rw [el] at h25
    exact kk N hF h25
  · have q := hCu r hr.1 hr.2 l.toNat (by omega)
    rw [show ((l.toNat : Nat) : Int) = l by omega] at q
    have nx : (crw (Q9 19) tm (B 2) r (l + 1).toNat).2 = Q9 19 (8 * s + B 2 (12 * r + l)) := by rw [show (l + 1).toNat = l.toNat + 1 by omega, crw, ← hs, show ((l.toNat : Nat) : Int) = l by omega]
    have tr := crw_rg (nx := Q9 19) (ca := B 2) (r := r) htm l.toNat (8 * s + B 2 (12 * r + l)) (by omega) (by omega)
    rw [← h25] at tr
    have n25 : (crw (Q9 19) tm (B 2) r (l + 1).toNat).1 = updI (N 20) (8 * s + B 2 (12 * r + l)) (N 20 (8 * s + B 2 (12 * r + l)) + 1) := by rw [show (l + 1).toNat = l.toNat + 1 by omega, crw, ← hs, ← h25, show ((l.toNat : Nat) : Int) = l by omega]
    refine k_bipush C dX11_learn_304 (by decide) ?_
    refine k_iload_n C dX11_learn_306 rfl rfl ?_
    refine k_imul C dX11_learn_307 ?_
    refine k_aload_n C dX11_learn_308 rfl rfl ?_
    refine k_getR C (j := 3) okC11 rfl (by decide) (by decide) rfl flX11_13 dX11_learn_309 ?_
    refine k_bipush C dX11_learn_312 (by decide) ?_
    refine k_iload_n C dX11_learn_314 rfl rfl ?_
    refine k_imul C dX11_learn_315 ?_
    refine k_iload C dX11_learn_316 rfl ?_
    refine k_iadd C dX11_learn_318 ?_
    refine k_iaload C rfl (by decide) (by decide) ⟨by omega, by omega⟩ dX11_learn_319 (fun ld319 => ?_)
    rw [e2]
    refine k_iadd C dX11_learn_320 ?_
    refine k_istore C dX11_learn_321 (by decide) ?_
    refine k_aload_n C dX11_learn_323 rfl rfl ?_
    refine k_getR C (j := 24) okC11 rfl (by decide) (by decide) rfl flX11_68 dX11_learn_324 ?_
    refine k_iload C dX11_learn_327 rfl ?_
    refine k_dup2 C dX11_learn_329 ?_
    refine k_iaload C rfl (by decide) (by decide) ⟨by omega, by omega⟩ dX11_learn_330 (fun ld330 => ?_)
    refine k_iconst C dX11_learn_331 ?_
    refine k_iadd C dX11_learn_332 ?_
    refine k_iastore C rfl (by decide) (by decide) ⟨by omega, by omega⟩ (by omega) dX11_learn_333 ?_
    refine k_aload_n C dX11_learn_334 rfl rfl ?_
    refine k_getR C (j := 23) okC11 rfl (by decide) (by decide) rfl flX11_65 dX11_learn_335 ?_
    refine k_iload C dX11_learn_338 rfl ?_
    refine k_iaload C rfl (by decide) (by decide) ⟨by omega, by omega⟩ dX11_learn_340 (fun ld340 => ?_)
    rw [up_ne (show (19 : Nat) ≠ 20 by decide), e19]
    refine k_istore_n C dX11_learn_341 rfl (by decide) ?_
    refine k_iinc C dX11_learn_342 (by decide) rfl ?_
    refine k_goto C (tgt := 293) dX11_learn_345 rfl ?_
    refine k_cut2 C (lv' := [(0, _), (1, _), (2, _), (3, _), (4, _)]) ⟨rfl, rfl, rfl, rfl, rfl, trivial⟩ ?_
    exact m_ln9 bl B hB C Q hQ m hm c0 hc0 R hR hL Q9 g9 h19 h20 _ (fun j a => by rw [up_ne a]; exact hF j a) r (l + 1) _ tm hr (by omega) nx.symm (by rw [n25]; funext j; rw [up_at]; rfl) htm kk
termination_by (12 - l).toNat
decreasing_by all_goals omega
set_option maxHeartbeats 4000000 in
set_option maxRecDepth 100000 in
theorem m_ln8 {K : Kt} (bl : Nat) (B : Mem) (hB : BkM B) (C : Ctx (shM bl) nM RX11 cX11_learn 6 (some .int) (lvl 3) (fun r M' => LnM B M' r) K) (Q : Mem) (hQ : TrP B Q) (m : Int) (hm : Q 0 13 = m) (c0 : Int → Int) (hc0 : c0 = clp m (Q 8)) (R : ((Int → Int) × (Int → Int)) × (Int → Int) × Int) (hR : lrn (TWm B) (m - 1).toNat 1 (fun x => x) c0 (fun _ => 0) 1 = some R) (hL : LI m c0 R.1.1 R.1.2 R.2.1 R.2.2 m) (Q9 : Mem) (g9 : (∀ j, 0 < j → j < 6 ∨ 21 < j → Q9 j = B j) ∧ (∀ i, i ≠ 13 → i ≠ 20 → i ≠ 25 → Q9 0 i = B 0 i) ∧ Q9 0 25 = R.2.2 ∧ (∀ r, 0 ≤ r → r < B 0 7 → Q9 6 r = cuM B r)) (h19 : LwP R.1.1 R.1.2 R.2.1 R.2.2 (Q9 19)) (h20 : ∀ i, 0 ≤ i → i < 8 * R.2.2 → Q9 20 i = 0) (N : Mem) (hF : ∀ j, j ≠ 20 → N j = Q9 j) (r : Int) (hr : 0 ≤ r ∧ r ≤ B 0 7) (h25 : N 20 = cfo (Q9 19) (B 2) (cuM B) (Q9 20) r.toNat) (htm : ∀ i, 0 ≤ i → i < 8 * R.2.2 → 0 ≤ N 20 i ∧ N 20 i ≤ 12 * r) : K 280 [(0, .inr 0), (1, .inl R.2.2), (2, .inl r)] [] N := by
  have tf := hQ.1.e
  have hT := hQ.2.2.1
  have hCu : CuOk (B 0 7) (cuM B) (B 2) := cutN_ok hB
  have m721 : m ≤ 721 := by rw [← hm]; exact hQ.2.2.2
  have b1 := hB.1; have b2 := hB.2.1
  have hT2 : TrOk (B 0 7) (cuM B) (B 2) m c0 (Q 9) (Q 10) := by
    rw [hc0]; rw [hm] at hT; exact TrOk_cg hCu hT (fun i a b => clp_at a b)
  have hmany := hL.2.2.2.2.1
  have e2 : N 2 = B 2 := by rw [hF 2 (by decide)]; exact g9.1 2 (by decide) (by decide)
  have e07 : N 0 7 = B 0 7 := by rw [hF 0 (by decide)]; exact g9.2.1 7 (by decide) (by decide) (by decide)
  have e025 : N 0 25 = R.2.2 := by rw [hF 0 (by decide)]; exact g9.2.2.1
  have e6 : N 6 = Q9 6 := hF 6 (by decide)
  have e19 : N 19 = Q9 19 := hF 19 (by decide)
  have hcr := fun h => cutN_rg (r := r) hB hr.1 h
  refine k_iload_n C dX11_learn_280 rfl rfl ?_
  refine k_aload_n C dX11_learn_281 rfl rfl ?_
  refine k_getJ C 7 7 rfl okC11 rfl (by decide) (by decide) rfl flX11_147 dX11_learn_282 (fun ld282 => ?_)
  rw [e07]
  refine k_icmp_ge C (tgt := 354) dX11_learn_285 rfl (by omega) (by omega) (fun c285 => ?_) (fun c285 => ?_)
  · refine k_aload_n C dX11_learn_354 rfl rfl ?_
    refine k_getJ C 25 25 rfl okC11 rfl (by decide) (by decide) rfl flX11_126 dX11_learn_355 (fun ld355 => ?_)
    rw [e025] at ld355 ⊢
    exact k_iret C dX11_learn_358 (by omega) (fun _ => by
      have er : r = B 0 7 := by omega
      subst er
      refine ⟨⟨fun j a b => by rw [hF j (by omega)]; exact g9.1 j a b, fun i a b c => by rw [hF 0 (by decide)]; exact g9.2.1 i a b c⟩, m, Q 8, Q 9, Q 10, by rw [← hm]; exact hT, m721, Or.inr ⟨R, by rw [← hc0]; exact hR, rfl, e025, by rw [e19]; exact h19, fun i a b => ?_⟩, Or.inr hmany⟩
      rw [h25, e19]
      exact cfo_cg hCu hT2 hL h19 (fun _ _ _ => rfl) (fun _ _ _ => rfl) (fun j p q => h20 j p q) _ (by omega) i a b)
  · refine k_iconst C dX11_learn_288 ?_
    refine k_istore_n C dX11_learn_289 rfl (by decide) ?_
    refine k_iconst C dX11_learn_290 ?_
    refine k_istore C dX11_learn_291 (by decide) ?_
    refine k_cut2 C (lv' := [(0, _), (1, _), (2, _), (3, _), (4, _)]) ⟨rfl, rfl, rfl, rfl, rfl, trivial⟩ ?_
    have hcr : -1 ≤ cuM B r ∧ cuM B r ≤ B 3 r ∧ cuM B r ≤ 12 := hcr c285
    refine m_ln9 bl B hB C Q hQ m hm c0 hc0 R hR hL Q9 g9 h19 h20 N hF r 0 0 (N 20) ⟨hr.1, c285⟩ (by omega) rfl rfl htm (fun N2 z1 z2 => m_ln8 bl B hB C Q hQ m hm c0 hc0 R hR hL Q9 g9 h19 h20 N2 z1 (r + 1) (by omega) ?_ (fun i a b => ?_))
    · rw [z2, h25, show (r + 1).toNat = r.toNat + 1 by omega, cfo, show ((r.toNat : Nat) : Int) = r by omega]
    · rw [z2]; have := crw_rg (nx := Q9 19) (ca := B 2) (r := r) htm (cuM B r).toNat i a b; omega
termination_by (B 0 7 - r).toNat
decreasing_by all_goals omega
set_option maxHeartbeats 4000000 in
set_option maxRecDepth 100000 in
theorem m_ln7 {K : Kt} (bl : Nat) (B : Mem) (hB : BkM B) (C : Ctx (shM bl) nM RX11 cX11_learn 6 (some .int) (lvl 3) (fun r M' => LnM B M' r) K) (Q : Mem) (hQ : TrP B Q) (m : Int) (hm : Q 0 13 = m) (c0 : Int → Int) (hc0 : c0 = clp m (Q 8)) (R : ((Int → Int) × (Int → Int)) × (Int → Int) × Int) (hR : lrn (TWm B) (m - 1).toNat 1 (fun x => x) c0 (fun _ => 0) 1 = some R) (hL : LI m c0 R.1.1 R.1.2 R.2.1 R.2.2 m) (Q5 : Mem) (hF5 : LF Q Q5) (hA5 : AG m R.1.1 R.1.2 (Q5 13) (Q5 14)) (hk5 : ∀ i, 0 ≤ i → i < R.2.2 → Q5 21 i = R.2.1 i) (N : Mem) (hF : (∀ j, j ≠ 0 → j ≠ 19 → j ≠ 20 → N j = Q5 j) ∧ (∀ i, i ≠ 25 → N 0 i = Q5 0 i) ∧ N 0 25 = R.2.2) (s c : Int) (hs : 0 ≤ s ∧ s < R.2.2) (hc : 0 ≤ c ∧ c ≤ 8) (hI : ∀ s2 c2, 0 ≤ s2 → 0 ≤ c2 → c2 < 8 → (s2 < s ∨ (s2 = s ∧ c2 < c)) → LwS R.1.1 R.1.2 R.2.1 R.2.2 (N 19) s2 c2) (hO : ∀ i, 0 ≤ i → i < 8 * s + c → N 20 i = 0) (kk : ∀ N2, ((∀ j, j ≠ 0 → j ≠ 19 → j ≠ 20 → N2 j = Q5 j) ∧ (∀ i, i ≠ 25 → N2 0 i = Q5 0 i) ∧ N2 0 25 = R.2.2) → (∀ s2 c2, 0 ≤ s2 → 0 ≤ c2 → c2 < 8 → s2 < s + 1 → LwS R.1.1 R.1.2 R.2.1 R.2.2 (N2 19) s2 c2) → (∀ i, 0 ≤ i → i < 8 * (s + 1) → N2 20 i = 0) → K 192 [(0, .inr 0), (1, .inl R.2.2), (2, .inl (s + 1))] [] N2) : K 199 [(0, .inr 0), (1, .inl R.2.2), (2, .inl s), (3, .inl c)] [] N := by
  have tf := hQ.1.e
  have hT := hQ.2.2.1
  have hCu : CuOk (B 0 7) (cuM B) (B 2) := cutN_ok hB
  have m721 : m ≤ 721 := by rw [← hm]; exact hQ.2.2.2
  have b1 := hB.1; have b2 := hB.2.1
  have hmany := hL.2.2.2.2.1
  have f13 := hF.1 13 (by decide) (by decide) (by decide)
  have f14 := hF.1 14 (by decide) (by decide) (by decide)
  have f21 := hF.1 21 (by decide) (by decide) (by decide)
  have F13 : Fo m (N 13) := fun x a b => by rw [f13, hA5.1 x a b]; exact hL.1 x a b
  have ks := hL.2.2.2.2.2.1 s hs.1 hs.2
  refine k_iload_n C dX11_learn_199 rfl rfl ?_
  refine k_bipush C dX11_learn_200 (by decide) ?_
  refine k_icmp_ge C (tgt := 272) dX11_learn_202 rfl (by omega) (by omega) (fun c202 => ?_) (fun c202 => ?_)
  · refine k_iinc C dX11_learn_272 (by decide) rfl ?_
    refine k_goto C (tgt := 192) dX11_learn_275 rfl ?_
    refine k_cut2 C (lv' := [(0, _), (1, _), (2, _)]) ⟨rfl, rfl, rfl, trivial⟩ ?_
    have e8 : c = 8 := by omega
    subst e8
    exact kk N hF (fun s2 c2 a b d e => hI s2 c2 a b d (by omega)) (fun i a b => hO i a (by omega))
  · have oc := hL.2.1 (8 * R.2.1 s + c) (by omega) (by omega)
    have ec : N 14 (8 * R.2.1 s + c) = R.1.2 (8 * R.2.1 s + c) := by rw [f14]; exact hA5.2 _ (by omega) (by omega)
    refine k_aload_n C dX11_learn_205 rfl rfl ?_
    refine k_getR C (j := 24) okC11 rfl (by decide) (by decide) rfl flX11_68 dX11_learn_206 ?_
    refine k_bipush C dX11_learn_209 (by decide) ?_
    refine k_iload_n C dX11_learn_211 rfl rfl ?_
    refine k_imul C dX11_learn_212 ?_
    refine k_iload_n C dX11_learn_213 rfl rfl ?_
    refine k_iadd C dX11_learn_214 ?_
    refine k_iconst C dX11_learn_215 ?_
    refine k_iastore C rfl (by decide) (by decide) ⟨by omega, by omega⟩ (by omega) dX11_learn_216 ?_
    refine k_aload_n C dX11_learn_217 rfl rfl ?_
    refine k_getR C (j := 17) okC11 rfl (by decide) (by decide) rfl flX11_50 dX11_learn_218 ?_
    refine k_bipush C dX11_learn_221 (by decide) ?_
    refine k_aload_n C dX11_learn_223 rfl rfl ?_
    refine k_getR C (j := 26) okC11 rfl (by decide) (by decide) rfl flX11_71 dX11_learn_224 ?_
    refine k_iload_n C dX11_learn_227 rfl rfl ?_
    refine k_iaload C rfl (by decide) (by decide) ⟨by omega, by omega⟩ dX11_learn_228 (fun ld228 => ?_)
    rw [up_ne (show (21 : Nat) ≠ 20 by decide), f21, hk5 s hs.1 hs.2] at ld228 ⊢
    refine k_imul C dX11_learn_229 ?_
    refine k_iload_n C dX11_learn_230 rfl rfl ?_
    refine k_iadd C dX11_learn_231 ?_
    refine k_iaload C rfl (by decide) (by decide) ⟨by omega, by omega⟩ dX11_learn_232 (fun ld232 => ?_)
    rw [up_ne (show (14 : Nat) ≠ 20 by decide), ec] at ld232 ⊢
    refine k_istore C dX11_learn_233 (by decide) ?_
    refine k_aload_n C dX11_learn_235 rfl rfl ?_
    refine k_getR C (j := 23) okC11 rfl (by decide) (by decide) rfl flX11_65 dX11_learn_236 ?_
    refine k_bipush C dX11_learn_239 (by decide) ?_
    refine k_iload_n C dX11_learn_241 rfl rfl ?_
    refine k_imul C dX11_learn_242 ?_
    refine k_iload_n C dX11_learn_243 rfl rfl ?_
    refine k_iadd C dX11_learn_244 ?_
    refine k_iload C dX11_learn_245 rfl ?_
    refine k_if_ge C (tgt := 254) dX11_learn_247 rfl (by omega) (fun c247 => ?_) (fun c247 => ?_)
    · refine k_aload_n C dX11_learn_254 rfl rfl ?_
      refine k_aload_n C dX11_learn_255 rfl rfl ?_
      refine k_iload C dX11_learn_256 rfl ?_
      refine k_callV C okX11_170 dX11_learn_258 (c_M_leastOf bl (up N 20 (8 * s + c) 0) m (by omega) (by rw [up_ne (show (13 : Nat) ≠ 20 by decide)]; exact F13) (R.1.2 (8 * R.2.1 s + c)) (by omega)) rfl rfl (by decide) rfl (by decide) rfl (Nat.le_of_ble_eq_true rfl) (fun r258 M258 hr258 hp258 => ?_)
      obtain ⟨rfl, hp258⟩ := hp258
      rw [up_ne (show (13 : Nat) ≠ 20 by decide), f13] at hp258
      have e258 : r258 = rt R.1.1 (R.1.2 (8 * R.2.1 s + c)) := by rw [hp258]; exact hA5.rt hL.1 (by omega) (by omega)
      subst e258
      have rr := rt_ok hL.1 (x := R.1.2 (8 * R.2.1 s + c)) (by omega) (by omega)
      obtain ⟨i0, i1, i2, i3⟩ := hL.2.2.2.2.2.2.2.1 (rt R.1.1 (R.1.2 (8 * R.2.1 s + c))) rr.1 (by omega) rr.2.2
      refine k_iload_n C dX11_learn_261 rfl rfl ?_
      refine k_callV C okX11_190 dX11_learn_262 (c_M_placeOf bl (up N 20 (8 * s + c) 0) (rt R.1.1 (R.1.2 (8 * R.2.1 s + c))) R.2.2 (by omega) (by omega)) rfl rfl (by decide) rfl (by decide) rfl (Nat.le_of_ble_eq_true rfl) (fun r262 M262 hr262 hp262 => ?_)
      obtain ⟨rfl, p1, p2, p3⟩ := hp262
      rw [up_ne (show (21 : Nat) ≠ 20 by decide), f21] at p2 p3
      have lt262 : r262 < R.2.2 := by by_cases z : r262 < R.2.2; exact z; exact absurd (by rw [hk5 i0 i1 i2]; exact i3) (p2 i0 i1 (by omega))
      have k262 := p3 lt262
      rw [hk5 _ p1.1 lt262] at k262
      refine k_iastore C rfl (by decide) (by decide) ⟨by omega, by omega⟩ (by omega) dX11_learn_265 ?_
      refine k_iinc C dX11_learn_266 (by decide) rfl ?_
      refine k_goto C (tgt := 199) dX11_learn_269 rfl ?_
      refine k_cut2 C (lv' := [(0, _), (1, _), (2, _), (3, _)]) ⟨rfl, rfl, rfl, rfl, trivial⟩ ?_
      refine m_ln7 bl B hB C Q hQ m hm c0 hc0 R hR hL Q5 hF5 hA5 hk5 _ ⟨fun j a b d => by rw [up_ne b, up_ne d]; exact hF.1 j a b d, fun i hi => by rw [up_ne (by decide), up_ne (by decide)]; exact hF.2.1 i hi, by rw [up_ne (by decide), up_ne (by decide)]; exact hF.2.2⟩ s (c + 1) hs (by omega) (fun s2 c2 a b d e => ?_) (fun i a b => ?_) kk
      · by_cases z : s2 = s ∧ c2 = c
        · obtain ⟨rfl, rfl⟩ := z
          first
          | (left; exact ⟨by omega, up_same⟩)
          | (right; rw [up_same]; exact ⟨by omega, p1.1, lt262, k262⟩)
        · unfold LwS; rw [up_at, if_neg (by omega), up_ne (show (19 : Nat) ≠ 20 by decide)]; exact hI s2 c2 a b d (by omega)
      · rw [up_ne (show (20 : Nat) ≠ 19 by decide), up_at]; by_cases z : i = 8 * s + c
        · rw [if_pos z]
        · rw [if_neg z]; exact hO i a (by omega)
    · refine k_iconst C dX11_learn_250 ?_
      refine k_goto C (tgt := 265) dX11_learn_251 rfl ?_
      refine k_iastore C rfl (by decide) (by decide) ⟨by omega, by omega⟩ (by omega) dX11_learn_265 ?_
      refine k_iinc C dX11_learn_266 (by decide) rfl ?_
      refine k_goto C (tgt := 199) dX11_learn_269 rfl ?_
      refine k_cut2 C (lv' := [(0, _), (1, _), (2, _), (3, _)]) ⟨rfl, rfl, rfl, rfl, trivial⟩ ?_
      refine m_ln7 bl B hB C Q hQ m hm c0 hc0 R hR hL Q5 hF5 hA5 hk5 _ ⟨fun j a b d => by rw [up_ne b, up_ne d]; exact hF.1 j a b d, fun i hi => by rw [up_ne (by decide), up_ne (by decide)]; exact hF.2.1 i hi, by rw [up_ne (by decide), up_ne (by decide)]; exact hF.2.2⟩ s (c + 1) hs (by omega) (fun s2 c2 a b d e => ?_) (fun i a b => ?_) kk
      · by_cases z : s2 = s ∧ c2 = c
        · obtain ⟨rfl, rfl⟩ := z
          first
          | (left; exact ⟨by omega, up_same⟩)
          | (right; rw [up_same]; exact ⟨by omega, p1.1, lt262, k262⟩)
        · unfold LwS; rw [up_at, if_neg (by omega), up_ne (show (19 : Nat) ≠ 20 by decide)]; exact hI s2 c2 a b d (by omega)
      · rw [up_ne (show (20 : Nat) ≠ 19 by decide), up_at]; by_cases z : i = 8 * s + c
        · rw [if_pos z]
        · rw [if_neg z]; exact hO i a (by omega)
termination_by (8 - c).toNat
decreasing_by all_goals omega
set_option maxHeartbeats 4000000 in
set_option maxRecDepth 100000 in
theorem m_ln6 {K : Kt} (bl : Nat) (B : Mem) (hB : BkM B) (C : Ctx (shM bl) nM RX11 cX11_learn 6 (some .int) (lvl 3) (fun r M' => LnM B M' r) K) (Q : Mem) (hQ : TrP B Q) (m : Int) (hm : Q 0 13 = m) (c0 : Int → Int) (hc0 : c0 = clp m (Q 8)) (R : ((Int → Int) × (Int → Int)) × (Int → Int) × Int) (hR : lrn (TWm B) (m - 1).toNat 1 (fun x => x) c0 (fun _ => 0) 1 = some R) (hL : LI m c0 R.1.1 R.1.2 R.2.1 R.2.2 m) (Q5 : Mem) (hF5 : LF Q Q5) (hA5 : AG m R.1.1 R.1.2 (Q5 13) (Q5 14)) (hk5 : ∀ i, 0 ≤ i → i < R.2.2 → Q5 21 i = R.2.1 i) (N : Mem) (hF : (∀ j, j ≠ 0 → j ≠ 19 → j ≠ 20 → N j = Q5 j) ∧ (∀ i, i ≠ 25 → N 0 i = Q5 0 i) ∧ N 0 25 = R.2.2) (s : Int) (hs : 0 ≤ s ∧ s ≤ R.2.2) (hI : ∀ s2 c2, 0 ≤ s2 → 0 ≤ c2 → c2 < 8 → s2 < s → LwS R.1.1 R.1.2 R.2.1 R.2.2 (N 19) s2 c2) (hO : ∀ i, 0 ≤ i → i < 8 * s → N 20 i = 0) : K 192 [(0, .inr 0), (1, .inl R.2.2), (2, .inl s)] [] N := by
  have tf := hQ.1.e
  have hT := hQ.2.2.1
  have hCu : CuOk (B 0 7) (cuM B) (B 2) := cutN_ok hB
  have m721 : m ≤ 721 := by rw [← hm]; exact hQ.2.2.2
  have b1 := hB.1; have b2 := hB.2.1
  have hmany := hL.2.2.2.2.1
  have f13 := hF.1 13 (by decide) (by decide) (by decide)
  have f14 := hF.1 14 (by decide) (by decide) (by decide)
  have f21 := hF.1 21 (by decide) (by decide) (by decide)
  have F13 : Fo m (N 13) := fun x a b => by rw [f13, hA5.1 x a b]; exact hL.1 x a b
  refine k_iload_n C dX11_learn_192 rfl rfl ?_
  refine k_iload_n C dX11_learn_193 rfl rfl ?_
  refine k_icmp_ge C (tgt := 278) dX11_learn_194 rfl (by omega) (by omega) (fun c194 => ?_) (fun c194 => ?_)
  · refine k_iconst C dX11_learn_278 ?_
    refine k_istore_n C dX11_learn_279 rfl (by decide) ?_
    refine k_cut2 C (lv' := [(0, _), (1, _), (2, _)]) ⟨rfl, rfl, rfl, trivial⟩ ?_
    have es : s = R.2.2 := by omega
    obtain ⟨q1, q2, q3, q4, q5, q6, q7, q8⟩ := hF5.e
    have g9 : (∀ j, 0 < j → j < 6 ∨ 21 < j → N j = B j) ∧ (∀ i, i ≠ 13 → i ≠ 20 → i ≠ 25 → N 0 i = B 0 i) ∧ N 0 25 = R.2.2 ∧ (∀ r, 0 ≤ r → r < B 0 7 → N 6 r = cuM B r) := by
      refine ⟨fun j a b => ?_, fun i a b c => ?_, hF.2.2, fun r a b => ?_⟩
      · rw [hF.1 j (by omega) (by omega) (by omega), hF5.1 j (by omega) (by omega) (by omega) (by omega) (by omega) (by omega) (by omega) (by omega)]; exact hQ.1.1 j (by omega) (by omega) (by omega) (by omega) (by omega) (by omega) (by omega) (by omega)
      · rw [hF.2.1 i c, hF5.2 i b]; exact hQ.1.2 i a
      · rw [hF.1 6 (by decide) (by decide) (by decide), q7]; exact (hQ.2.1 r a b).1
    exact m_ln8 bl B hB C Q hQ m hm c0 hc0 R hR hL N g9 (fun s2 c2 a b d e => hI s2 c2 a d e (by omega)) (fun i a b => hO i a (by omega)) N (fun _ _ => rfl) 0 (by omega) rfl (fun i a b => by rw [hO i a (by omega)]; omega)
  · refine k_iconst C dX11_learn_197 ?_
    refine k_istore_n C dX11_learn_198 rfl (by decide) ?_
    refine k_cut2 C (lv' := [(0, _), (1, _), (2, _), (3, _)]) ⟨rfl, rfl, rfl, rfl, trivial⟩ ?_
    exact m_ln7 bl B hB C Q hQ m hm c0 hc0 R hR hL Q5 hF5 hA5 hk5 N hF s 0 (by omega) (by omega) (fun s2 c2 a b d e => hI s2 c2 a b d (by omega)) (fun i a b => hO i a (by omega)) (fun N2 z1 z2 z3 => m_ln6 bl B hB C Q hQ m hm c0 hc0 R hR hL Q5 hF5 hA5 hk5 N2 z1 (s + 1) (by omega) z2 z3)
termination_by (R.2.2 - s).toNat
decreasing_by all_goals omega
set_option maxHeartbeats 4000000 in
set_option maxRecDepth 100000 in
theorem m_ln4 {K : Kt} (bl : Nat) (B : Mem) (hB : BkM B) (C : Ctx (shM bl) nM RX11 cX11_learn 6 (some .int) (lvl 3) (fun r M' => LnM B M' r) K) (Q : Mem) (hQ : TrP B Q) (m : Int) (hm : Q 0 13 = m) (c0 : Int → Int) (hc0 : c0 = clp m (Q 8)) (it ch kept : Int → Int) (many k : Int) (hL : LI m c0 it ch kept many k) (N : Mem) (hF : LF Q N) (hkp : ∀ i, 0 ≤ i → i < many → N 21 i = kept i) (hk : 0 ≤ k ∧ k < m ∧ it k = k) (hA : AG m it ch (N 13) (N 14)) (i : Int) (hi : 0 ≤ i ∧ i ≤ many) (ht : tryK (TWm B) kept k it ch (many - i).toNat i = tryK (TWm B) kept k it ch many.toNat 0) (kk0 : ∀ N2, LF Q N2 → N2 21 = N 21 → AG m it ch (N2 13) (N2 14) → tryK (TWm B) kept k it ch many.toNat 0 = none → K 154 [(0, .inr 0), (1, .inl many), (2, .inl k), (3, .inl 0)] [] N2) (kk1 : ∀ N2 R, LF Q N2 → N2 21 = N 21 → tryK (TWm B) kept k it ch many.toNat 0 = some R → AG m R.1 R.2 (N2 13) (N2 14) → K 154 [(0, .inr 0), (1, .inl many), (2, .inl k), (3, .inl 1)] [] N2) : K 105 [(0, .inr 0), (1, .inl many), (2, .inl k), (3, .inl 0), (4, .inl i)] [] N := by
  have tf := hQ.1.e
  have hT := hQ.2.2.1
  have hCu : CuOk (B 0 7) (cuM B) (B 2) := cutN_ok hB
  have m721 : m ≤ 721 := by rw [← hm]; exact hQ.2.2.2
  have b1 := hB.1; have b2 := hB.2.1
  have hmany := hL.2.2.2.2.1
  have F13 : Fo m (N 13) := fun x a b => by rw [hA.1 x a b]; exact hL.1 x a b
  have tw : TWm N = TWm B := by rw [hF.tw]; unfold TWm; rw [tf.1, tf.2.1, tf.2.2.1, tf.2.2.2.1, tf.2.2.2.2]
  refine k_iload C dX11_learn_105 rfl ?_
  refine k_iload_n C dX11_learn_107 rfl rfl ?_
  refine k_icmp_ge C (tgt := 154) dX11_learn_108 rfl (by omega) (by omega) (fun c108 => ?_) (fun c108 => ?_)
  · refine k_cut2 C (lv' := [(0, _), (1, _), (2, _), (3, _)]) ⟨rfl, rfl, rfl, rfl, trivial⟩ ?_
    exact kk0 N hF rfl hA (by rw [← ht, show (many - i).toNat = 0 by omega]; rfl)
  · refine k_iload_n C dX11_learn_111 rfl rfl ?_
    refine k_if_ne C (tgt := 154) dX11_learn_112 rfl (by omega) (fun c112 => ?_) (fun c112 => ?_)
    · refine k_cut2 C (lv' := [(0, _), (1, _), (2, _), (3, _)]) ⟨rfl, rfl, rfl, rfl, trivial⟩ ?_
      exact kk0 N hF rfl hA (by rw [← ht, show (many - i).toNat = 0 by omega]; rfl)
    · obtain ⟨I1, I2⟩ := LI_mi hL hk.2.1 (i := i) ⟨hi.1, c108⟩
      obtain ⟨R1, R2, R3, R4, R5, R6⟩ := mst_one I1 hL.2.2.2.1 I2 hk.2.2
      have I3 : MI m (N 13) (N 14) [(kept i, k)] 0 := by
        refine ⟨F13, fun j a b => by rw [hA.2 j a b]; exact hL.2.1 j a b, I1.2.2.1, ?_⟩
        have e : Eg m (N 13) (N 14) ≤ Eg m it ch := by
          have := cn_le (P := fun i => N 13 (i / 8) = i / 8 ∧ ¬ N 14 i = -1) (Q := fun i => it (i / 8) = i / 8 ∧ ¬ ch i = -1) (8 * m).toNat (fun j a b ⟨p, q⟩ => ⟨by rw [← hA.1 _ (by omega) (by omega)]; exact p, by rw [← hA.2 j a (by omega)]; exact q⟩)
          rw [show ((8 * m).toNat : Int) = 8 * m by omega] at this
          exact this
        have := I1.2.2.2
        omega
      refine k_aload_n C dX11_learn_115 rfl rfl ?_
      refine k_aload_n C dX11_learn_116 rfl rfl ?_
      refine k_getR C (j := 26) okC11 rfl (by decide) (by decide) rfl flX11_71 dX11_learn_117 ?_
      refine k_iload C dX11_learn_120 rfl ?_
      refine k_iaload C rfl (by decide) (by decide) ⟨by omega, by omega⟩ dX11_learn_122 (fun ld122 => ?_)
      rw [hkp i hi.1 c108]
      refine k_iload_n C dX11_learn_123 rfl rfl ?_
      refine k_callV C okX11_180 dX11_learn_124 (c_M_melts bl N m m721 (kept i) k I3) rfl rfl (by decide) rfl (by decide) rfl (Nat.le_of_ble_eq_true rfl) (fun r124 M124 hr124 hp124 => ?_)
      have F124 := hF.m hp124.1
      have A124 : AG m (mst 721 it ch [(kept i, k)]).1 (mst 721 it ch [(kept i, k)]).2 (M124 13) (M124 14) := by
        rw [hp124.2.2.1, hp124.2.2.2.1]
        exact mst_cg 721 it ch _ _ _ hL.1 hL.2.1 I1.2.2.1 hA
      have Fo124 : Fo m (M124 13) := fun x a b => by rw [A124.1 x a b]; exact R1 x a b
      have Ch124 : ChOk m (M124 14) := fun j a b => by rw [A124.2 j a b]; exact R2 j a b
      have ak124 : ∀ x, 0 ≤ x → x < M124 0 7 → ((M124 7 x = 1 ∧ askM M124 x) ∨ (M124 7 x = 0 ∧ ¬ askM M124 x)) := by
        intro x a b
        have q := F124.e
        rw [q.1, tf.1] at b
        have akq : askM M124 = askM B := by rw [F124.ask]; unfold askM; rw [tf.1, tf.2.1, tf.2.2.1, tf.2.2.2.1, tf.2.2.2.2]
        rw [q.2.2.2.2.2.2.2.1, akq]
        exact (hQ.2.1 x a b).2
      have tq : TWm M124 (M124 13) (M124 14) ↔ TWm B (mst 721 it ch [(kept i, k)]).1 (mst 721 it ch [(kept i, k)]).2 := by
        have tw4 : TWm M124 = TWm B := by rw [F124.tw]; unfold TWm; rw [tf.1, tf.2.1, tf.2.2.1, tf.2.2.2.1, tf.2.2.2.2]
        rw [tw4]
        exact TW_cg hB R1 R2 (by omega) (fun x a b => A124.rt R1 a b) A124.2
      have k124 : M124 21 = N 21 := hp124.1.1 21 (by decide) (by decide) (by decide) (by decide) (by decide) (by decide) (by decide)
      refine k_aload_n C dX11_learn_127 rfl rfl ?_
      refine k_callV C okX11_183 dX11_learn_128 (c_M_takesWrong bl M124 m ⟨by omega, m721⟩ (F124.bk (hQ.1.bk hB)) Fo124 Ch124 ak124) rfl rfl (by decide) rfl (by decide) rfl (Nat.le_of_ble_eq_true rfl) (fun r128 M128 hr128 hp128 => ?_)
      obtain ⟨rfl, hp128⟩ := hp128
      refine k_if_ne C (tgt := 138) dX11_learn_131 rfl (by omega) (fun c131 => ?_) (fun c131 => ?_)
      · refine k_iconst C dX11_learn_138 ?_
        refine k_istore_n C dX11_learn_139 rfl (by decide) ?_
        refine k_iload_n C dX11_learn_140 rfl rfl ?_
        refine k_if_ne C (tgt := 148) dX11_learn_141 rfl (by omega) (fun c141 => ?_) (fun c141 => ?_)
        · refine k_iinc C dX11_learn_148 (by decide) rfl ?_
          refine k_goto C (tgt := 105) dX11_learn_151 rfl ?_
          refine k_cut2 C (lv' := [(0, _), (1, _), (2, _), (3, _), (4, _)]) ⟨rfl, rfl, rfl, rfl, rfl, trivial⟩ ?_
          first
          | (exfalso; omega)
          | (have tt : TWm B (mst 721 it ch [(kept i, k)]).1 (mst 721 it ch [(kept i, k)]).2 := tq.1 (by rcases hp128 with z | z; exact z.2; omega)
             exact m_ln4 bl B hB C Q hQ m hm c0 hc0 it ch kept many k hL M145 F145 (by rw [k145]; exact hkp) hk (by rw [hp145.1, hp145.2.1]; exact hA) (i + 1) (by omega) (by rw [← ht, show (many - i).toNat = (many - (i + 1)).toNat + 1 by omega, tryK_no tt]) (fun N2 z1 z2 z3 z4 => kk0 N2 z1 (by rw [z2, k145]) z3 z4) (fun N2 R z1 z2 z3 z4 => kk1 N2 R z1 (by rw [z2, k145]) z3 z4))
          | (have tt : ¬ TWm B (mst 721 it ch [(kept i, k)]).1 (mst 721 it ch [(kept i, k)]).2 := fun q => by rcases hp128 with z | z; omega; exact z.2 (tq.2 q)
             have rs : tryK (TWm B) kept k it ch many.toNat 0 = some (mst 721 it ch [(kept i, k)]) := by rw [← ht, show (many - i).toNat = (many - (i + 1)).toNat + 1 by omega, tryK_yes tt]
             have go : K 154 [(0, .inr 0), (1, .inl many), (2, .inl k), (3, .inl 1)] [] M124 := kk1 M124 _ F124 k124 rs A124
             refine k_iload C dX11_learn_105 rfl ?_
             refine k_iload_n C dX11_learn_107 rfl rfl ?_
             refine k_icmp_ge C (tgt := 154) dX11_learn_108 rfl (by omega) (by omega) (fun c108 => ?_) (fun c108 => ?_)
             · refine k_cut2 C (lv' := [(0, _), (1, _), (2, _), (3, _)]) ⟨rfl, rfl, rfl, rfl, trivial⟩ ?_
               exact go
             · refine k_iload_n C dX11_learn_111 rfl rfl ?_
               refine k_if_ne C (tgt := 154) dX11_learn_112 rfl (by omega) (fun c112 => ?_) (fun c112 => ?_)
               · refine k_cut2 C (lv' := [(0, _), (1, _), (2, _), (3, _)]) ⟨rfl, rfl, rfl, rfl, trivial⟩ ?_
                 exact go
               · exfalso; omega)
        · refine k_aload_n C dX11_learn_144 rfl rfl ?_
          refine k_callV C okX11_187 dX11_learn_145 (c_M_back bl N M124 hp124.2.1 (by have := hp124.2.2.2.2; omega)) rfl rfl (by decide) rfl (by decide) rfl (Nat.le_of_ble_eq_true rfl) (fun r145 M145 hr145 hp145 => ?_)
          have F145 : LF Q M145 := ⟨fun j a b c d e f g w => by rw [hp145.2.2.2.1 j a b c]; exact F124.1 j a b c d e f g w, fun z hz => by rw [hp145.2.2.2.2 z hz]; exact F124.2 z hz⟩
          have k145 : M145 21 = N 21 := by rw [hp145.2.2.2.1 21 (by decide) (by decide) (by decide)]; exact k124
          refine k_iinc C dX11_learn_148 (by decide) rfl ?_
          refine k_goto C (tgt := 105) dX11_learn_151 rfl ?_
          refine k_cut2 C (lv' := [(0, _), (1, _), (2, _), (3, _), (4, _)]) ⟨rfl, rfl, rfl, rfl, rfl, trivial⟩ ?_
          first
          | (exfalso; omega)
          | (have tt : TWm B (mst 721 it ch [(kept i, k)]).1 (mst 721 it ch [(kept i, k)]).2 := tq.1 (by rcases hp128 with z | z; exact z.2; omega)
             exact m_ln4 bl B hB C Q hQ m hm c0 hc0 it ch kept many k hL M145 F145 (by rw [k145]; exact hkp) hk (by rw [hp145.1, hp145.2.1]; exact hA) (i + 1) (by omega) (by rw [← ht, show (many - i).toNat = (many - (i + 1)).toNat + 1 by omega, tryK_no tt]) (fun N2 z1 z2 z3 z4 => kk0 N2 z1 (by rw [z2, k145]) z3 z4) (fun N2 R z1 z2 z3 z4 => kk1 N2 R z1 (by rw [z2, k145]) z3 z4))
          | (have tt : ¬ TWm B (mst 721 it ch [(kept i, k)]).1 (mst 721 it ch [(kept i, k)]).2 := fun q => by rcases hp128 with z | z; omega; exact z.2 (tq.2 q)
             have rs : tryK (TWm B) kept k it ch many.toNat 0 = some (mst 721 it ch [(kept i, k)]) := by rw [← ht, show (many - i).toNat = (many - (i + 1)).toNat + 1 by omega, tryK_yes tt]
             have go : K 154 [(0, .inr 0), (1, .inl many), (2, .inl k), (3, .inl 1)] [] M124 := kk1 M124 _ F124 k124 rs A124
             refine k_iload C dX11_learn_105 rfl ?_
             refine k_iload_n C dX11_learn_107 rfl rfl ?_
             refine k_icmp_ge C (tgt := 154) dX11_learn_108 rfl (by omega) (by omega) (fun c108 => ?_) (fun c108 => ?_)
             · refine k_cut2 C (lv' := [(0, _), (1, _), (2, _), (3, _)]) ⟨rfl, rfl, rfl, rfl, trivial⟩ ?_
               exact go
             · refine k_iload_n C dX11_learn_111 rfl rfl ?_
               refine k_if_ne C (tgt := 154) dX11_learn_112 rfl (by omega) (fun c112 => ?_) (fun c112 => ?_)
               · refine k_cut2 C (lv' := [(0, _), (1, _), (2, _), (3, _)]) ⟨rfl, rfl, rfl, rfl, trivial⟩ ?_
                 exact go
               · exfalso; omega)
      · refine k_iconst C dX11_learn_134 ?_
        refine k_goto C (tgt := 139) dX11_learn_135 rfl ?_
        refine k_istore_n C dX11_learn_139 rfl (by decide) ?_
        refine k_iload_n C dX11_learn_140 rfl rfl ?_
        refine k_if_ne C (tgt := 148) dX11_learn_141 rfl (by omega) (fun c141 => ?_) (fun c141 => ?_)
        · refine k_iinc C dX11_learn_148 (by decide) rfl ?_
          refine k_goto C (tgt := 105) dX11_learn_151 rfl ?_
          refine k_cut2 C (lv' := [(0, _), (1, _), (2, _), (3, _), (4, _)]) ⟨rfl, rfl, rfl, rfl, rfl, trivial⟩ ?_
          first
          | (exfalso; omega)
          | (have tt : TWm B (mst 721 it ch [(kept i, k)]).1 (mst 721 it ch [(kept i, k)]).2 := tq.1 (by rcases hp128 with z | z; exact z.2; omega)
             exact m_ln4 bl B hB C Q hQ m hm c0 hc0 it ch kept many k hL M145 F145 (by rw [k145]; exact hkp) hk (by rw [hp145.1, hp145.2.1]; exact hA) (i + 1) (by omega) (by rw [← ht, show (many - i).toNat = (many - (i + 1)).toNat + 1 by omega, tryK_no tt]) (fun N2 z1 z2 z3 z4 => kk0 N2 z1 (by rw [z2, k145]) z3 z4) (fun N2 R z1 z2 z3 z4 => kk1 N2 R z1 (by rw [z2, k145]) z3 z4))
          | (have tt : ¬ TWm B (mst 721 it ch [(kept i, k)]).1 (mst 721 it ch [(kept i, k)]).2 := fun q => by rcases hp128 with z | z; omega; exact z.2 (tq.2 q)
             have rs : tryK (TWm B) kept k it ch many.toNat 0 = some (mst 721 it ch [(kept i, k)]) := by rw [← ht, show (many - i).toNat = (many - (i + 1)).toNat + 1 by omega, tryK_yes tt]
             have go : K 154 [(0, .inr 0), (1, .inl many), (2, .inl k), (3, .inl 1)] [] M124 := kk1 M124 _ F124 k124 rs A124
             refine k_iload C dX11_learn_105 rfl ?_
             refine k_iload_n C dX11_learn_107 rfl rfl ?_
             refine k_icmp_ge C (tgt := 154) dX11_learn_108 rfl (by omega) (by omega) (fun c108 => ?_) (fun c108 => ?_)
             · refine k_cut2 C (lv' := [(0, _), (1, _), (2, _), (3, _)]) ⟨rfl, rfl, rfl, rfl, trivial⟩ ?_
               exact go
             · refine k_iload_n C dX11_learn_111 rfl rfl ?_
               refine k_if_ne C (tgt := 154) dX11_learn_112 rfl (by omega) (fun c112 => ?_) (fun c112 => ?_)
               · refine k_cut2 C (lv' := [(0, _), (1, _), (2, _), (3, _)]) ⟨rfl, rfl, rfl, rfl, trivial⟩ ?_
                 exact go
               · exfalso; omega)
        · refine k_aload_n C dX11_learn_144 rfl rfl ?_
          refine k_callV C okX11_187 dX11_learn_145 (c_M_back bl N M124 hp124.2.1 (by have := hp124.2.2.2.2; omega)) rfl rfl (by decide) rfl (by decide) rfl (Nat.le_of_ble_eq_true rfl) (fun r145 M145 hr145 hp145 => ?_)
          have F145 : LF Q M145 := ⟨fun j a b c d e f g w => by rw [hp145.2.2.2.1 j a b c]; exact F124.1 j a b c d e f g w, fun z hz => by rw [hp145.2.2.2.2 z hz]; exact F124.2 z hz⟩
          have k145 : M145 21 = N 21 := by rw [hp145.2.2.2.1 21 (by decide) (by decide) (by decide)]; exact k124
          refine k_iinc C dX11_learn_148 (by decide) rfl ?_
          refine k_goto C (tgt := 105) dX11_learn_151 rfl ?_
          refine k_cut2 C (lv' := [(0, _), (1, _), (2, _), (3, _), (4, _)]) ⟨rfl, rfl, rfl, rfl, rfl, trivial⟩ ?_
          first
          | (exfalso; omega)
          | (have tt : TWm B (mst 721 it ch [(kept i, k)]).1 (mst 721 it ch [(kept i, k)]).2 := tq.1 (by rcases hp128 with z | z; exact z.2; omega)
             exact m_ln4 bl B hB C Q hQ m hm c0 hc0 it ch kept many k hL M145 F145 (by rw [k145]; exact hkp) hk (by rw [hp145.1, hp145.2.1]; exact hA) (i + 1) (by omega) (by rw [← ht, show (many - i).toNat = (many - (i + 1)).toNat + 1 by omega, tryK_no tt]) (fun N2 z1 z2 z3 z4 => kk0 N2 z1 (by rw [z2, k145]) z3 z4) (fun N2 R z1 z2 z3 z4 => kk1 N2 R z1 (by rw [z2, k145]) z3 z4))
          | (have tt : ¬ TWm B (mst 721 it ch [(kept i, k)]).1 (mst 721 it ch [(kept i, k)]).2 := fun q => by rcases hp128 with z | z; omega; exact z.2 (tq.2 q)
             have rs : tryK (TWm B) kept k it ch many.toNat 0 = some (mst 721 it ch [(kept i, k)]) := by rw [← ht, show (many - i).toNat = (many - (i + 1)).toNat + 1 by omega, tryK_yes tt]
             have go : K 154 [(0, .inr 0), (1, .inl many), (2, .inl k), (3, .inl 1)] [] M124 := kk1 M124 _ F124 k124 rs A124
             refine k_iload C dX11_learn_105 rfl ?_
             refine k_iload_n C dX11_learn_107 rfl rfl ?_
             refine k_icmp_ge C (tgt := 154) dX11_learn_108 rfl (by omega) (by omega) (fun c108 => ?_) (fun c108 => ?_)
             · refine k_cut2 C (lv' := [(0, _), (1, _), (2, _), (3, _)]) ⟨rfl, rfl, rfl, rfl, trivial⟩ ?_
               exact go
             · refine k_iload_n C dX11_learn_111 rfl rfl ?_
               refine k_if_ne C (tgt := 154) dX11_learn_112 rfl (by omega) (fun c112 => ?_) (fun c112 => ?_)
               · refine k_cut2 C (lv' := [(0, _), (1, _), (2, _), (3, _)]) ⟨rfl, rfl, rfl, rfl, trivial⟩ ?_
                 exact go
               · exfalso; omega)
termination_by (many - i).toNat
decreasing_by all_goals omega
set_option maxHeartbeats 4000000 in
set_option maxRecDepth 100000 in
theorem m_ln3 {K : Kt} (bl : Nat) (B : Mem) (hB : BkM B) (C : Ctx (shM bl) nM RX11 cX11_learn 6 (some .int) (lvl 3) (fun r M' => LnM B M' r) K) (Q : Mem) (hQ : TrP B Q) (m : Int) (hm : Q 0 13 = m) (c0 : Int → Int) (hc0 : c0 = clp m (Q 8)) (it ch kept : Int → Int) (many k : Int) (hL : LI m c0 it ch kept many k) (N : Mem) (hF : LF Q N) (hkp : ∀ i, 0 ≤ i → i < many → N 21 i = kept i) (hk : 1 ≤ k ∧ k ≤ m) (hA : AG m it ch (N 13) (N 14)) (ht : lrn (TWm B) (m - k).toNat k it ch kept many = lrn (TWm B) (m - 1).toNat 1 (fun x => x) c0 (fun _ => 0) 1) : K 79 [(0, .inr 0), (1, .inl many), (2, .inl k)] [] N := by
  have tf := hQ.1.e
  have hT := hQ.2.2.1
  have hCu : CuOk (B 0 7) (cuM B) (B 2) := cutN_ok hB
  have m721 : m ≤ 721 := by rw [← hm]; exact hQ.2.2.2
  have b1 := hB.1; have b2 := hB.2.1
  have hmany := hL.2.2.2.2.1
  have n13 : N 0 13 = m := by rw [hF.e.2.1]; exact hm
  have gB : ∀ N2, LF Q N2 → LnG B N2 ∧ N2 0 25 = B 0 25 ∧ N2 19 = B 19 ∧ N2 20 = B 20 := fun N2 z => by
    refine ⟨⟨fun j a b => ?_, fun i a b c => ?_⟩, ?_, ?_, ?_⟩
    · rw [z.1 j (by omega) (by omega) (by omega) (by omega) (by omega) (by omega) (by omega) (by omega)]; exact hQ.1.1 j (by omega) (by omega) (by omega) (by omega) (by omega) (by omega) (by omega) (by omega)
    · rw [z.2 i b]; exact hQ.1.2 i a
    · rw [z.2 25 (by decide)]; exact hQ.1.2 25 (by decide)
    · rw [z.e.2.2.2.2.2.2.2.2.2.1]; exact hQ.1.1 19 (by decide) (by decide) (by decide) (by decide) (by decide) (by decide) (by decide) (by decide)
    · rw [z.e.2.2.2.2.2.2.2.2.2.2.1]; exact hQ.1.1 20 (by decide) (by decide) (by decide) (by decide) (by decide) (by decide) (by decide) (by decide)
  refine k_iload_n C dX11_learn_79 rfl rfl ?_
  refine k_aload_n C dX11_learn_80 rfl rfl ?_
  refine k_getJ C 13 13 rfl okC11 rfl (by decide) (by decide) rfl flX11_164 dX11_learn_81 (fun ld81 => ?_)
  rw [n13]
  refine k_icmp_ge C (tgt := 185) dX11_learn_84 rfl (by omega) (by omega) (fun c84 => ?_) (fun c84 => ?_)
  · refine k_aload_n C dX11_learn_185 rfl rfl ?_
    refine k_iload_n C dX11_learn_186 rfl rfl ?_
    refine k_putJ C 25 25 rfl okC11 rfl (by decide) (by decide) rfl rfl rfl (by omega) flX11_126 dX11_learn_187 ?_
    refine k_iconst C dX11_learn_190 ?_
    refine k_istore_n C dX11_learn_191 rfl (by decide) ?_
    refine k_cut2 C (lv' := [(0, _), (1, _), (2, _)]) ⟨rfl, rfl, rfl, trivial⟩ ?_
    have ek : k = m := by omega
    have hR : lrn (TWm B) (m - 1).toNat 1 (fun x => x) c0 (fun _ => 0) 1 = some ((it, ch), kept, many) := by rw [← ht, show (m - k).toNat = 0 by omega]; rfl
    rw [ek] at hL
    exact m_ln6 bl B hB C Q hQ m hm c0 hc0 ((it, ch), kept, many) hR hL N hF hA hkp _ ⟨fun j a b c => by rw [up_ne a], fun i hi => by rw [up_at, if_neg hi], up_same⟩ 0 (by show (0 : Int) ≤ 0 ∧ (0 : Int) ≤ many; omega) (fun s2 c2 a b c d => by omega) (fun i a b => by omega)
  · refine k_aload_n C dX11_learn_87 rfl rfl ?_
    refine k_getR C (j := 16) okC11 rfl (by decide) (by decide) rfl flX11_47 dX11_learn_88 ?_
    refine k_iload_n C dX11_learn_91 rfl rfl ?_
    refine k_iaload C rfl (by decide) (by decide) ⟨by omega, by omega⟩ dX11_learn_92 (fun ld92 => ?_)
    rw [hA.1 k (by omega) c84] at ld92 ⊢
    refine k_iload_n C dX11_learn_93 rfl rfl ?_
    refine k_icmp_eq C (tgt := 100) dX11_learn_94 rfl (by omega) (by omega) (fun c94 => ?_) (fun c94 => ?_)
    · refine k_iconst C dX11_learn_100 ?_
      refine k_istore_n C dX11_learn_101 rfl (by decide) ?_
      refine k_iconst C dX11_learn_102 ?_
      refine k_istore C dX11_learn_103 (by decide) ?_
      refine k_cut2 C (lv' := [(0, _), (1, _), (2, _), (3, _), (4, _)]) ⟨rfl, rfl, rfl, rfl, rfl, trivial⟩ ?_
      refine m_ln4 bl B hB C Q hQ m hm c0 hc0 it ch kept many k hL N hF hkp ⟨by omega, c84, c94⟩ hA 0 (by omega) (by rw [show many - 0 = many by omega]) (fun N2 z1 z2 z3 z4 => ?_) (fun N2 R z1 z2 z3 z4 => ?_)
      · skip
        refine k_iload_n C dX11_learn_154 rfl rfl ?_
        refine k_if_eq C (tgt := 161) dX11_learn_155 rfl (by omega) (fun c155 => ?_) (fun c155 => ?_)
        · refine k_iload_n C dX11_learn_161 rfl rfl ?_
          refine k_bipush C dX11_learn_162 (by decide) ?_
          refine k_icmp_ne C (tgt := 169) dX11_learn_164 rfl (by omega) (by omega) (fun c164 => ?_) (fun c164 => ?_)
          · refine k_aload_n C dX11_learn_169 rfl rfl ?_
            refine k_getR C (j := 26) okC11 rfl (by decide) (by decide) rfl flX11_71 dX11_learn_170 ?_
            refine k_iload_n C dX11_learn_173 rfl rfl ?_
            refine k_iload_n C dX11_learn_174 rfl rfl ?_
            refine k_iastore C rfl (by decide) (by decide) ⟨by omega, by omega⟩ (by omega) dX11_learn_175 ?_
            refine k_iinc C dX11_learn_176 (by decide) rfl ?_
            refine k_iinc C dX11_learn_179 (by decide) rfl ?_
            refine k_goto C (tgt := 79) dX11_learn_182 rfl ?_
            refine k_cut2 C (lv' := [(0, _), (1, _), (2, _)]) ⟨rfl, rfl, rfl, trivial⟩ ?_
            refine m_ln3 bl B hB C Q hQ m hm c0 hc0 it ch (updI kept many k) (many + 1) (k + 1) (LI_keep hL (by omega) (by omega)) _ (z1.u (by decide)) (fun i a b => ?_) (by omega) (by rw [up_ne (by decide), up_ne (by decide)]; exact z3) (by rw [← ht, show (m - k).toNat = (m - (k + 1)).toNat + 1 by omega, lrn_keep c94 z4 (by omega)])
            rw [up_at]; unfold updI
            by_cases z : i = many
            · rw [if_pos z, if_pos z]
            · rw [if_neg z, if_neg z, z2]; exact hkp i a (by omega)
          · refine k_iconst C dX11_learn_167 ?_
            exact k_iret C dX11_learn_168 (by omega) (fun _ => by
                   obtain ⟨g1, g2, g3, g4⟩ := gB N2 z1
                   exact ⟨g1, m, Q 8, Q 9, Q 10, by rw [← hm]; exact hT, m721, Or.inl ⟨by rw [← hc0, ← ht, show (m - k).toNat = (m - (k + 1)).toNat + 1 by omega, lrn_full c94 z4 (by omega)], rfl, g2, g3, g4⟩, Or.inl rfl⟩)
        · exfalso; omega
      · skip
        refine k_iload_n C dX11_learn_154 rfl rfl ?_
        refine k_if_eq C (tgt := 161) dX11_learn_155 rfl (by omega) (fun c155 => ?_) (fun c155 => ?_)
        · exfalso; omega
        · refine k_goto C (tgt := 179) dX11_learn_158 rfl ?_
          refine k_iinc C dX11_learn_179 (by decide) rfl ?_
          refine k_goto C (tgt := 79) dX11_learn_182 rfl ?_
          refine k_cut2 C (lv' := [(0, _), (1, _), (2, _)]) ⟨rfl, rfl, rfl, trivial⟩ ?_
          exact m_ln3 bl B hB C Q hQ m hm c0 hc0 R.1 R.2 kept many (k + 1) (tryK_ok hL c84 c94 many.toNat 0 (by omega) (by omega) z3) N2 z1 (by rw [z2]; exact hkp) (by omega) z4 (by rw [← ht, show (m - k).toNat = (m - (k + 1)).toNat + 1 by omega, lrn_some c94 z3])
    · refine k_goto C (tgt := 179) dX11_learn_97 rfl ?_
      refine k_iinc C dX11_learn_179 (by decide) rfl ?_
      refine k_goto C (tgt := 79) dX11_learn_182 rfl ?_
      refine k_cut2 C (lv' := [(0, _), (1, _), (2, _)]) ⟨rfl, rfl, rfl, trivial⟩ ?_
      exact m_ln3 bl B hB C Q hQ m hm c0 hc0 it ch kept many (k + 1) (LI_skip hL c94) N hF hkp (by omega) hA (by rw [← ht, show (m - k).toNat = (m - (k + 1)).toNat + 1 by omega, lrn_skip c94])
termination_by (m - k).toNat
decreasing_by all_goals omega
set_option maxHeartbeats 4000000 in
set_option maxRecDepth 100000 in
theorem m_ln2 {K : Kt} (bl : Nat) (B : Mem) (hB : BkM B) (C : Ctx (shM bl) nM RX11 cX11_learn 6 (some .int) (lvl 3) (fun r M' => LnM B M' r) K) (Q : Mem) (hQ : TrP B Q) (m : Int) (hm : Q 0 13 = m) (c0 : Int → Int) (hc0 : c0 = clp m (Q 8)) (N : Mem) (hF : LF Q N) (k c : Int) (hk : 0 ≤ k ∧ k < m) (hc : 0 ≤ c ∧ c ≤ 8) (h13 : ∀ y, 0 ≤ y → y < k + 1 → N 13 y = y) (h14 : ∀ i, 0 ≤ i → i < 8 * k + c → N 14 i = Q 8 i) (kk : ∀ N2, LF Q N2 → (∀ y, 0 ≤ y → y < k + 1 → N2 13 y = y) → (∀ i, 0 ≤ i → i < 8 * (k + 1) → N2 14 i = Q 8 i) → K 11 [(0, .inr 0), (1, .inl (k + 1))] [] N2) : K 28 [(0, .inr 0), (1, .inl k), (2, .inl c)] [] N := by
  have tf := hQ.1.e
  have hT := hQ.2.2.1
  have hCu : CuOk (B 0 7) (cuM B) (B 2) := cutN_ok hB
  have m721 : m ≤ 721 := by rw [← hm]; exact hQ.2.2.2
  have b1 := hB.1; have b2 := hB.2.1
  refine k_iload_n C dX11_learn_28 rfl rfl ?_
  refine k_bipush C dX11_learn_29 (by decide) ?_
  refine k_icmp_ge C (tgt := 62) dX11_learn_31 rfl (by omega) (by omega) (fun c31 => ?_) (fun c31 => ?_)
  · refine k_iinc C dX11_learn_62 (by decide) rfl ?_
    refine k_goto C (tgt := 11) dX11_learn_65 rfl ?_
    refine k_cut2 C (lv' := [(0, _), (1, _)]) ⟨rfl, rfl, trivial⟩ ?_
    exact kk N hF h13 (fun i a b => h14 i a (by omega))
  · refine k_aload_n C dX11_learn_34 rfl rfl ?_
    refine k_getR C (j := 17) okC11 rfl (by decide) (by decide) rfl flX11_50 dX11_learn_35 ?_
    refine k_bipush C dX11_learn_38 (by decide) ?_
    refine k_iload_n C dX11_learn_40 rfl rfl ?_
    refine k_imul C dX11_learn_41 ?_
    refine k_iload_n C dX11_learn_42 rfl rfl ?_
    refine k_iadd C dX11_learn_43 ?_
    refine k_aload_n C dX11_learn_44 rfl rfl ?_
    refine k_getR C (j := 10) okC11 rfl (by decide) (by decide) rfl flX11_32 dX11_learn_45 ?_
    refine k_bipush C dX11_learn_48 (by decide) ?_
    refine k_iload_n C dX11_learn_50 rfl rfl ?_
    refine k_imul C dX11_learn_51 ?_
    refine k_iload_n C dX11_learn_52 rfl rfl ?_
    refine k_iadd C dX11_learn_53 ?_
    refine k_iaload C rfl (by decide) (by decide) ⟨by omega, by omega⟩ dX11_learn_54 (fun ld54 => ?_)
    refine k_iastore C rfl (by decide) (by decide) ⟨by omega, by omega⟩ (by omega) dX11_learn_55 ?_
    refine k_iinc C dX11_learn_56 (by decide) rfl ?_
    refine k_goto C (tgt := 28) dX11_learn_59 rfl ?_
    refine k_cut2 C (lv' := [(0, _), (1, _), (2, _)]) ⟨rfl, rfl, rfl, trivial⟩ ?_
    refine m_ln2 bl B hB C Q hQ m hm c0 hc0 _ (hF.u (by decide)) k (c + 1) hk (by omega) (by rw [up_ne (by decide)]; exact h13) (fun i a b => ?_) kk
    rw [up_at, hF.e.2.2.2.2.2.2.2.2.1]
    by_cases z : i = 8 * k + c
    · rw [if_pos z, z]
    · rw [if_neg z]; exact h14 i a (by omega)
termination_by (8 - c).toNat
decreasing_by all_goals omega
set_option maxHeartbeats 4000000 in
set_option maxRecDepth 100000 in
theorem m_ln1 {K : Kt} (bl : Nat) (B : Mem) (hB : BkM B) (C : Ctx (shM bl) nM RX11 cX11_learn 6 (some .int) (lvl 3) (fun r M' => LnM B M' r) K) (Q : Mem) (hQ : TrP B Q) (m : Int) (hm : Q 0 13 = m) (c0 : Int → Int) (hc0 : c0 = clp m (Q 8)) (N : Mem) (hF : LF Q N) (k : Int) (hk : 0 ≤ k ∧ k ≤ m) (h13 : ∀ y, 0 ≤ y → y < k → N 13 y = y) (h14 : ∀ i, 0 ≤ i → i < 8 * k → N 14 i = Q 8 i) : K 11 [(0, .inr 0), (1, .inl k)] [] N := by
  have tf := hQ.1.e
  have hT := hQ.2.2.1
  have hCu : CuOk (B 0 7) (cuM B) (B 2) := cutN_ok hB
  have m721 : m ≤ 721 := by rw [← hm]; exact hQ.2.2.2
  have b1 := hB.1; have b2 := hB.2.1
  have n13 : N 0 13 = m := by rw [hF.e.2.1]; exact hm
  refine k_iload_n C dX11_learn_11 rfl rfl ?_
  refine k_aload_n C dX11_learn_12 rfl rfl ?_
  refine k_getJ C 13 13 rfl okC11 rfl (by decide) (by decide) rfl flX11_164 dX11_learn_13 (fun ld13 => ?_)
  rw [n13]
  refine k_icmp_ge C (tgt := 68) dX11_learn_16 rfl (by omega) (by omega) (fun c16 => ?_) (fun c16 => ?_)
  · refine k_aload_n C dX11_learn_68 rfl rfl ?_
    refine k_getR C (j := 26) okC11 rfl (by decide) (by decide) rfl flX11_71 dX11_learn_69 ?_
    refine k_iconst C dX11_learn_72 ?_
    refine k_iconst C dX11_learn_73 ?_
    refine k_iastore C rfl (by decide) (by decide) ⟨by omega, by omega⟩ (by omega) dX11_learn_74 ?_
    refine k_iconst C dX11_learn_75 ?_
    refine k_istore_n C dX11_learn_76 rfl (by decide) ?_
    refine k_iconst C dX11_learn_77 ?_
    refine k_istore_n C dX11_learn_78 rfl (by decide) ?_
    refine k_cut2 C (lv' := [(0, _), (1, _), (2, _)]) ⟨rfl, rfl, rfl, trivial⟩ ?_
    have ek : k = m := by omega
    rw [hm] at hT
    have t1 := hT.1
    have hT2 : TrOk (B 0 7) (cuM B) (B 2) m c0 (Q 9) (Q 10) := by rw [hc0]; exact TrOk_cg hCu hT (fun i a b => clp_at a b)
    refine m_ln3 bl B hB C Q hQ m hm c0 hc0 (fun x => x) c0 (fun _ => 0) 1 1 (LI_0 hT2 m721 rfl (fun _ _ _ => rfl) (fun _ _ _ => rfl)) _ (hF.u (by decide)) (fun i a b => by rw [show i = 0 by omega]; exact up_same) (by omega) ⟨fun x a b => by rw [up_ne (by decide)]; exact h13 x a (by omega), fun i a b => by rw [up_ne (by decide), h14 i a (by omega), hc0]; exact (clp_at a b).symm⟩ rfl
  · refine k_aload_n C dX11_learn_19 rfl rfl ?_
    refine k_getR C (j := 16) okC11 rfl (by decide) (by decide) rfl flX11_47 dX11_learn_20 ?_
    refine k_iload_n C dX11_learn_23 rfl rfl ?_
    refine k_iload_n C dX11_learn_24 rfl rfl ?_
    refine k_iastore C rfl (by decide) (by decide) ⟨by omega, by omega⟩ (by omega) dX11_learn_25 ?_
    refine k_iconst C dX11_learn_26 ?_
    refine k_istore_n C dX11_learn_27 rfl (by decide) ?_
    refine k_cut2 C (lv' := [(0, _), (1, _), (2, _)]) ⟨rfl, rfl, rfl, trivial⟩ ?_
    refine m_ln2 bl B hB C Q hQ m hm c0 hc0 _ (hF.u (by decide)) k 0 (by omega) (by omega) (fun y a b => ?_) (fun i a b => by rw [up_ne (by decide)]; exact h14 i a (by omega)) (fun N2 z1 z2 z3 => m_ln1 bl B hB C Q hQ m hm c0 hc0 N2 z1 (k + 1) (by omega) z2 z3)
    rw [up_at]
    by_cases z : y = k
    · rw [if_pos z, z]
    · rw [if_neg z]; exact h13 y a (by omega)
termination_by (m - k).toNat
decreasing_by all_goals omega
set_option maxHeartbeats 4000000 in
set_option maxRecDepth 100000 in
theorem m_learn {K : Kt} (bl : Nat) (B : Mem) (hB : BkM B) (C : Ctx (shM bl) nM RX11 cX11_learn 6 (some .int) (lvl 3) (fun r M' => LnM B M' r) K) : K 5 [(0, .inr 0)] [] B := by
  refine k_aload_n C dX11_learn_5 rfl rfl ?_
  refine k_callV C okX11_177 dX11_learn_6 (c_M_tree bl B hB) rfl rfl (by decide) rfl (by decide) rfl (Nat.le_of_ble_eq_true rfl) (fun r6 M6 hr6 hp6 => ?_)
  refine k_iconst C dX11_learn_9 ?_
  refine k_istore_n C dX11_learn_10 rfl (by decide) ?_
  refine k_cut2 C (lv' := [(0, _), (1, _)]) ⟨rfl, rfl, trivial⟩ ?_
  have t1 := hp6.2.2.1.1
  exact m_ln1 bl B hB C M6 hp6 (M6 0 13) rfl _ rfl M6 ⟨fun _ _ _ _ _ _ _ _ _ => rfl, fun _ _ => rfl⟩ 0 (by omega) (fun y a b => by omega) (fun i a b => by omega)
set_option maxHeartbeats 4000000 in
set_option maxRecDepth 100000 in
theorem c_M_learn (bl : Nat) (M : Mem) (hB : BkM M) : Ct (shM bl) nM yX11_learn cX11_learn 6 (some .int) (lvl 3) [.inr 0] M (fun r M' => LnM (th0 M) M' r) := by
  refine Ct_of (by decide +kernel) (Nat.le_of_ble_eq_true rfl) (fun K C => ?_)
  refine k_aload_n C dX11_learn_0 rfl rfl ?_
  refine k_iconst C dX11_learn_1 ?_
  refine k_putJ C 0 0 rfl okC11 rfl (by decide) (by decide) rfl rfl rfl (by omega) flX11_133 dX11_learn_2 ?_
  exact m_learn bl (th0 M) (th0_B hB) C
