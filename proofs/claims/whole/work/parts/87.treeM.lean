/-! THE REFERENCE'S tree -/
noncomputable def cutN (n : Int) (sz rt th ca : Int → Int) (r : Int) : Int := iteP (¬ th r = 0 ∧ ¬ rt r = 0) (cutI sz rt th ca r n) (-1)
noncomputable abbrev cuM (M : Mem) : Int → Int := cutN (M 0 7) (M 3) (M 4) (M 5) (M 2)
abbrev askM (M : Mem) : Int → Prop := ask (M 0 7) (M 3) (M 4) (M 5) (M 2)
theorem cutN_rg {n : Int} {sz rt th ca : Int → Int} (hB : BkOk n sz rt th ca) {r : Int} (h0 : 0 ≤ r) (h1 : r < n) : -1 ≤ cutN n sz rt th ca r ∧ cutN n sz rt th ca r ≤ sz r ∧ cutN n sz rt th ca r ≤ 12 := by
  have b := hB.2.2 r h0 h1
  unfold cutN
  by_cases c : ¬ th r = 0 ∧ ¬ rt r = 0
  · rw [iteP_pos c]; have := cutI_rg hB h0 h1 hB.1 (Int.le_refl n); omega
  · rw [iteP_neg c]; omega
theorem cutN_ok {n : Int} {sz rt th ca : Int → Int} (hB : BkOk n sz rt th ca) : CuOk n (cutN n sz rt th ca) ca := by
  intro r a b l hl
  have h := cutN_rg hB a b
  exact (hB.2.2 r a b).2.2.2.2.2 l (by omega) (by omega)
theorem cvf_ok {n : Int} {cu ca : Int → Int} {r k : Int} (h : CuOk n cu ca) (hk : k ≤ cu r ∨ k = 0) : CuOk n (cvf cu r k) ca := by
  intro x a b l hl
  unfold cvf at hl
  by_cases z : x < r
  · rw [if_pos z] at hl; exact h x a b l hl
  · rw [if_neg z] at hl
    by_cases y : x = r
    · rw [if_pos y] at hl; subst y; exact h x a b l (by omega)
    · rw [if_neg y] at hl; omega
def TF (M N : Mem) : Prop := (∀ j, j ≠ 0 → j ≠ 6 → j ≠ 7 → j ≠ 8 → j ≠ 9 → j ≠ 10 → j ≠ 11 → j ≠ 12 → N j = M j) ∧ ∀ i, i ≠ 13 → N 0 i = M 0 i
def TA (M N : Mem) (r : Int) : Prop := ∀ x, 0 ≤ x → x < r → N 6 x = cuM M x ∧ ((N 7 x = 1 ∧ askM M x) ∨ (N 7 x = 0 ∧ ¬ askM M x))
def TrP (M N : Mem) : Prop := TF M N ∧ TA M N (M 0 7) ∧ TrOk (M 0 7) (cuM M) (M 2) (N 0 13) (N 8) (N 9) (N 10) ∧ N 0 13 ≤ 721
theorem TF.u {M N : Mem} (h : TF M N) {k : Nat} {i v : Int} (hk : k = 6 ∨ k = 7 ∨ k = 8 ∨ k = 9 ∨ k = 10 ∨ k = 11 ∨ k = 12) : TF M (up N k i v) := by
  refine ⟨fun j a b c d e f g w => ?_, fun x hx => ?_⟩
  · rw [up_ne (by rcases hk with z | z | z | z | z | z | z <;> rw [z] <;> assumption)]; exact h.1 j a b c d e f g w
  · rw [up_ne (by rcases hk with z | z | z | z | z | z | z <;> rw [z] <;> decide)]; exact h.2 x hx
theorem TF.n {M N : Mem} (h : TF M N) {v : Int} : TF M (up N 0 13 v) :=
  ⟨fun j a b c d e f g w => by rw [up_ne a]; exact h.1 j a b c d e f g w, fun x hx => by rw [up_at, if_neg hx]; exact h.2 x hx⟩
theorem TF.of {M N N' : Mem} (h : TF M N) (ho : ∀ j, j ≠ 11 → N' j = N j) : TF M N' :=
  ⟨fun j a b c d e f g w => by rw [ho j g]; exact h.1 j a b c d e f g w, fun x hx => by rw [ho 0 (by decide)]; exact h.2 x hx⟩
theorem TF.bk {M N : Mem} (h : TF M N) (hB : BkM M) : BkM N := by
  have e (j : Nat) (a : j ≠ 0 ∧ j ≠ 6 ∧ j ≠ 7 ∧ j ≠ 8 ∧ j ≠ 9 ∧ j ≠ 10 ∧ j ≠ 11 ∧ j ≠ 12) := h.1 j a.1 a.2.1 a.2.2.1 a.2.2.2.1 a.2.2.2.2.1 a.2.2.2.2.2.1 a.2.2.2.2.2.2.1 a.2.2.2.2.2.2.2
  unfold BkM
  rw [h.2 7 (by decide), e 3 (by decide), e 4 (by decide), e 5 (by decide), e 2 (by decide)]; exact hB
theorem TF.e {M N : Mem} (h : TF M N) : N 0 7 = M 0 7 ∧ N 2 = M 2 ∧ N 3 = M 3 ∧ N 4 = M 4 ∧ N 5 = M 5 := by
  have e (j : Nat) (a : j ≠ 0 ∧ j ≠ 6 ∧ j ≠ 7 ∧ j ≠ 8 ∧ j ≠ 9 ∧ j ≠ 10 ∧ j ≠ 11 ∧ j ≠ 12) := h.1 j a.1 a.2.1 a.2.2.1 a.2.2.2.1 a.2.2.2.2.1 a.2.2.2.2.2.1 a.2.2.2.2.2.2.1 a.2.2.2.2.2.2.2
  exact ⟨h.2 7 (by decide), e 2 (by decide), e 3 (by decide), e 4 (by decide), e 5 (by decide)⟩
theorem TA.of {M N N' : Mem} {r : Int} (h : TA M N r) (h6 : N' 6 = N 6) (h7 : N' 7 = N 7) : TA M N' r := by
  unfold TA; rw [h6, h7]; exact h
set_option maxHeartbeats 4000000 in
set_option maxRecDepth 100000 in
theorem m_bf2 {K : Kt} (bl : Nat) (M : Mem) (hB : BkM M) (C : Ctx (shM bl) nM RX11 cX11_tree 7 none (lvl 2) (fun _ M' => TrP M M') K) (N : Mem) (hF : TF M N) (hA : TA M N (M 0 7)) (m : Int) (hm : m ≤ 721) (hR : RwI (M 0 7) m (N 11) (cuM M) (M 2)) (k c : Int) (hk : 0 ≤ k ∧ k < N 0 13) (hc : 0 ≤ c ∧ c ≤ 8) (hI : BfI m (N 11) (N 0 13) (N 8) (N 9) (N 10) (N 12) k c) (kk : ∀ N2, TF M N2 → TA M N2 (M 0 7) → RwI (M 0 7) m (N2 11) (cuM M) (M 2) → N 0 13 ≤ N2 0 13 → BfI m (N2 11) (N2 0 13) (N2 8) (N2 9) (N2 10) (N2 12) (k + 1) 0 → K 239 [(0, .inr 0), (1, .inl m), (2, .inl (k + 1))] [] N2) : K 249 [(0, .inr 0), (1, .inl m), (2, .inl k), (3, .inl c)] [] N := by
  have cap := bf_cap hR.2.1 hR.2.2.1 hI
  have rk := hI.2.2.2.2.2 k hk.1 hk.2
  refine k_iload_n C dX11_tree_249 rfl rfl ?_
  refine k_bipush C dX11_tree_250 (by decide) ?_
  refine k_icmp_ge C (tgt := 365) dX11_tree_252 rfl (by omega) (by omega) (fun c252 => ?_) (fun c252 => ?_)
  · refine k_iinc C dX11_tree_365 (by decide) rfl ?_
    refine k_goto C (tgt := 239) dX11_tree_368 rfl ?_
    refine k_cut2 C (lv' := [(0, _), (1, _), (2, _)]) ⟨rfl, rfl, rfl, trivial⟩ ?_
    have e8 : c = 8 := by omega
    subst e8
    exact kk N hF hA hR (Int.le_refl _) (BfI_n hI)
  · refine k_aload_n C dX11_tree_255 rfl rfl ?_
    refine k_getR C (j := 10) okC11 rfl (by decide) (by decide) rfl flX11_32 dX11_tree_256 ?_
    refine k_bipush C dX11_tree_259 (by decide) ?_
    refine k_iload_n C dX11_tree_261 rfl rfl ?_
    refine k_imul C dX11_tree_262 ?_
    refine k_iload_n C dX11_tree_263 rfl rfl ?_
    refine k_iadd C dX11_tree_264 ?_
    refine k_iconst C dX11_tree_265 ?_
    refine k_iastore C rfl (by decide) (by decide) ⟨by omega, by omega⟩ (by omega) dX11_tree_266 ?_
    refine k_aload_n C dX11_tree_267 rfl rfl ?_
    refine k_getR C (j := 14) okC11 rfl (by decide) (by decide) rfl flX11_41 dX11_tree_268 ?_
    refine k_bipush C dX11_tree_271 (by decide) ?_
    refine k_aload_n C dX11_tree_273 rfl rfl ?_
    refine k_getR C (j := 15) okC11 rfl (by decide) (by decide) rfl flX11_44 dX11_tree_274 ?_
    refine k_iload_n C dX11_tree_277 rfl rfl ?_
    refine k_iaload C rfl (by decide) (by decide) ⟨by omega, by omega⟩ dX11_tree_278 (fun ld278 => ?_)
    rw [up_ne (show (12 : Nat) ≠ 8 by decide)]
    refine k_imul C dX11_tree_279 ?_
    refine k_iload_n C dX11_tree_280 rfl rfl ?_
    refine k_iadd C dX11_tree_281 ?_
    refine k_iaload C rfl (by decide) (by decide) ⟨by omega, by omega⟩ dX11_tree_282 (fun ld282 => ?_)
    rw [up_ne (show (11 : Nat) ≠ 8 by decide)]
    have A := hR.2.1 (N 12 k) c rk.1 rk.2 hc.1 c252
    refine k_if_ge C (tgt := 289) dX11_tree_283 rfl (by omega) (fun c283 => ?_) (fun c283 => ?_)
    · refine k_aload_n C dX11_tree_289 rfl rfl ?_
      refine k_getR C (j := 10) okC11 rfl (by decide) (by decide) rfl flX11_32 dX11_tree_290 ?_
      refine k_bipush C dX11_tree_293 (by decide) ?_
      refine k_iload_n C dX11_tree_295 rfl rfl ?_
      refine k_imul C dX11_tree_296 ?_
      refine k_iload_n C dX11_tree_297 rfl rfl ?_
      refine k_iadd C dX11_tree_298 ?_
      refine k_aload_n C dX11_tree_299 rfl rfl ?_
      refine k_getJ C 13 13 rfl okC11 rfl (by decide) (by decide) rfl flX11_164 dX11_tree_300 (fun ld300 => ?_)
      rw [up_ne (show (0 : Nat) ≠ 8 by decide)]
      refine k_iastore C rfl (by decide) (by decide) ⟨by omega, by omega⟩ (by omega) dX11_tree_303 ?_
      refine k_aload_n C dX11_tree_304 rfl rfl ?_
      refine k_getR C (j := 15) okC11 rfl (by decide) (by decide) rfl flX11_44 dX11_tree_305 ?_
      refine k_aload_n C dX11_tree_308 rfl rfl ?_
      refine k_getJ C 13 13 rfl okC11 rfl (by decide) (by decide) rfl flX11_164 dX11_tree_309 (fun ld309 => ?_)
      rw [up_ne (show (0 : Nat) ≠ 8 by decide), up_ne (show (0 : Nat) ≠ 8 by decide)]
      refine k_aload_n C dX11_tree_312 rfl rfl ?_
      refine k_getR C (j := 14) okC11 rfl (by decide) (by decide) rfl flX11_41 dX11_tree_313 ?_
      refine k_bipush C dX11_tree_316 (by decide) ?_
      refine k_aload_n C dX11_tree_318 rfl rfl ?_
      refine k_getR C (j := 15) okC11 rfl (by decide) (by decide) rfl flX11_44 dX11_tree_319 ?_
      refine k_iload_n C dX11_tree_322 rfl rfl ?_
      refine k_iaload C rfl (by decide) (by decide) ⟨by omega, by omega⟩ dX11_tree_323 (fun ld323 => ?_)
      rw [up_ne (show (12 : Nat) ≠ 8 by decide), up_ne (show (12 : Nat) ≠ 8 by decide)]
      refine k_imul C dX11_tree_324 ?_
      refine k_iload_n C dX11_tree_325 rfl rfl ?_
      refine k_iadd C dX11_tree_326 ?_
      refine k_iaload C rfl (by decide) (by decide) ⟨by omega, by omega⟩ dX11_tree_327 (fun ld327 => ?_)
      rw [up_ne (show (11 : Nat) ≠ 8 by decide), up_ne (show (11 : Nat) ≠ 8 by decide)]
      refine k_iastore C rfl (by decide) (by decide) ⟨by omega, by omega⟩ (by omega) dX11_tree_328 ?_
      refine k_aload_n C dX11_tree_329 rfl rfl ?_
      refine k_getR C (j := 11) okC11 rfl (by decide) (by decide) rfl flX11_35 dX11_tree_330 ?_
      refine k_aload_n C dX11_tree_333 rfl rfl ?_
      refine k_getJ C 13 13 rfl okC11 rfl (by decide) (by decide) rfl flX11_164 dX11_tree_334 (fun ld334 => ?_)
      rw [up_ne (show (0 : Nat) ≠ 12 by decide), up_ne (show (0 : Nat) ≠ 8 by decide), up_ne (show (0 : Nat) ≠ 8 by decide)]
      refine k_iload_n C dX11_tree_337 rfl rfl ?_
      refine k_iastore C rfl (by decide) (by decide) ⟨by omega, by omega⟩ (by omega) dX11_tree_338 ?_
      refine k_aload_n C dX11_tree_339 rfl rfl ?_
      refine k_getR C (j := 12) okC11 rfl (by decide) (by decide) rfl flX11_38 dX11_tree_340 ?_
      refine k_aload_n C dX11_tree_343 rfl rfl ?_
      refine k_getJ C 13 13 rfl okC11 rfl (by decide) (by decide) rfl flX11_164 dX11_tree_344 (fun ld344 => ?_)
      rw [up_ne (show (0 : Nat) ≠ 9 by decide), up_ne (show (0 : Nat) ≠ 12 by decide), up_ne (show (0 : Nat) ≠ 8 by decide), up_ne (show (0 : Nat) ≠ 8 by decide)]
      refine k_iload_n C dX11_tree_347 rfl rfl ?_
      refine k_iastore C rfl (by decide) (by decide) ⟨by omega, by omega⟩ (by omega) dX11_tree_348 ?_
      refine k_aload_n C dX11_tree_349 rfl rfl ?_
      refine k_dup C dX11_tree_350 ?_
      refine k_getJ C 13 13 rfl okC11 rfl (by decide) (by decide) rfl flX11_164 dX11_tree_351 (fun ld351 => ?_)
      rw [up_ne (show (0 : Nat) ≠ 10 by decide), up_ne (show (0 : Nat) ≠ 9 by decide), up_ne (show (0 : Nat) ≠ 12 by decide), up_ne (show (0 : Nat) ≠ 8 by decide), up_ne (show (0 : Nat) ≠ 8 by decide)]
      refine k_iconst C dX11_tree_354 ?_
      refine k_iadd C dX11_tree_355 ?_
      refine k_putJ C 13 13 rfl okC11 rfl (by decide) (by decide) rfl rfl rfl (by omega) flX11_164 dX11_tree_356 ?_
      refine k_iinc C dX11_tree_359 (by decide) rfl ?_
      refine k_goto C (tgt := 249) dX11_tree_362 rfl ?_
      refine k_cut2 C (lv' := [(0, _), (1, _), (2, _), (3, _)]) ⟨rfl, rfl, rfl, rfl, trivial⟩ ?_
      first
      | (refine m_bf2 bl M hB C _ (hF.u (by decide)) (hA.of (up_ne (by decide)) (up_ne (by decide))) m hm ?_ k (c + 1) ?_ (by omega) ?_ ?_
         · rw [up_ne (by decide)]; exact hR
         · rw [up_ne (by decide)]; exact hk
         · rw [up_ne (show (11 : Nat) ≠ 8 by decide), up_ne (show (0 : Nat) ≠ 8 by decide), up_ne (show (9 : Nat) ≠ 8 by decide), up_ne (show (10 : Nat) ≠ 8 by decide), up_ne (show (12 : Nat) ≠ 8 by decide)]
           exact BfI_k hI ⟨hc.1, by omega⟩ hk.1 (by omega) up_same (fun i hi => by rw [up_at, if_neg hi])
         · intro N2 z1 z2 z3 z4 z5; rw [up_ne (show (0 : Nat) ≠ 8 by decide)] at z4; exact kk N2 z1 z2 z3 z4 z5)
      | (generalize hN : up (up (up (up (up (up N 8 _ _) 8 _ _) 12 _ _) 9 _ _) 10 _ _) 0 13 _ = N1
         have s8 : ∀ i, N1 8 i = if i = 8 * k + c then N 0 13 else N 8 i := fun i => by rw [← hN, up_ne (by decide), up_ne (by decide), up_ne (by decide), up_ne (by decide), up_at, up_at]; split <;> rfl
         have s12 : ∀ i, N1 12 i = if i = N 0 13 then N 11 (8 * N 12 k + c) else N 12 i := fun i => by rw [← hN, up_ne (by decide), up_ne (by decide), up_ne (by decide), up_at, up_ne (by decide), up_ne (by decide)]
         have s9 : ∀ i, N1 9 i = if i = N 0 13 then k else N 9 i := fun i => by rw [← hN, up_ne (by decide), up_ne (by decide), up_at, up_ne (by decide), up_ne (by decide), up_ne (by decide)]
         have s10 : ∀ i, N1 10 i = if i = N 0 13 then c else N 10 i := fun i => by rw [← hN, up_ne (by decide), up_at, up_ne (by decide), up_ne (by decide), up_ne (by decide), up_ne (by decide)]
         have s11 : N1 11 = N 11 := by rw [← hN, up_ne (by decide), up_ne (by decide), up_ne (by decide), up_ne (by decide), up_ne (by decide), up_ne (by decide)]
         have s0 : N1 0 13 = N 0 13 + 1 := by rw [← hN, up_same]
         have sF : TF M N1 := by rw [← hN]; exact ((((((hF.u (by decide)).u (by decide)).u (by decide)).u (by decide)).u (by decide)).n)
         have sA : TA M N1 (M 0 7) := hA.of (by rw [← hN, up_ne (by decide), up_ne (by decide), up_ne (by decide), up_ne (by decide), up_ne (by decide), up_ne (by decide)]) (by rw [← hN, up_ne (by decide), up_ne (by decide), up_ne (by decide), up_ne (by decide), up_ne (by decide), up_ne (by decide)])
         refine m_bf2 bl M hB C N1 sF sA m hm (by rw [s11]; exact hR) k (c + 1) (by omega) (by omega) ?_ (fun N2 z1 z2 z3 z4 z5 => kk N2 z1 z2 z3 (by omega) z5)
         rw [s11, s0]
         exact BfI_s hR.2.1 hI ⟨hc.1, by omega⟩ hk (by omega) (by rw [s8, if_pos rfl]) (fun i hi => by rw [s8, if_neg hi]) s9 s10 s12)
    · refine k_goto C (tgt := 359) dX11_tree_286 rfl ?_
      refine k_iinc C dX11_tree_359 (by decide) rfl ?_
      refine k_goto C (tgt := 249) dX11_tree_362 rfl ?_
      refine k_cut2 C (lv' := [(0, _), (1, _), (2, _), (3, _)]) ⟨rfl, rfl, rfl, rfl, trivial⟩ ?_
      first
      | (refine m_bf2 bl M hB C _ (hF.u (by decide)) (hA.of (up_ne (by decide)) (up_ne (by decide))) m hm ?_ k (c + 1) ?_ (by omega) ?_ ?_
         · rw [up_ne (by decide)]; exact hR
         · rw [up_ne (by decide)]; exact hk
         · rw [up_ne (show (11 : Nat) ≠ 8 by decide), up_ne (show (0 : Nat) ≠ 8 by decide), up_ne (show (9 : Nat) ≠ 8 by decide), up_ne (show (10 : Nat) ≠ 8 by decide), up_ne (show (12 : Nat) ≠ 8 by decide)]
           exact BfI_k hI ⟨hc.1, by omega⟩ hk.1 (by omega) up_same (fun i hi => by rw [up_at, if_neg hi])
         · intro N2 z1 z2 z3 z4 z5; rw [up_ne (show (0 : Nat) ≠ 8 by decide)] at z4; exact kk N2 z1 z2 z3 z4 z5)
      | (generalize hN : up (up (up (up (up (up N 8 _ _) 8 _ _) 12 _ _) 9 _ _) 10 _ _) 0 13 _ = N1
         have s8 : ∀ i, N1 8 i = if i = 8 * k + c then N 0 13 else N 8 i := fun i => by rw [← hN, up_ne (by decide), up_ne (by decide), up_ne (by decide), up_ne (by decide), up_at, up_at]; split <;> rfl
         have s12 : ∀ i, N1 12 i = if i = N 0 13 then N 11 (8 * N 12 k + c) else N 12 i := fun i => by rw [← hN, up_ne (by decide), up_ne (by decide), up_ne (by decide), up_at, up_ne (by decide), up_ne (by decide)]
         have s9 : ∀ i, N1 9 i = if i = N 0 13 then k else N 9 i := fun i => by rw [← hN, up_ne (by decide), up_ne (by decide), up_at, up_ne (by decide), up_ne (by decide), up_ne (by decide)]
         have s10 : ∀ i, N1 10 i = if i = N 0 13 then c else N 10 i := fun i => by rw [← hN, up_ne (by decide), up_at, up_ne (by decide), up_ne (by decide), up_ne (by decide), up_ne (by decide)]
         have s11 : N1 11 = N 11 := by rw [← hN, up_ne (by decide), up_ne (by decide), up_ne (by decide), up_ne (by decide), up_ne (by decide), up_ne (by decide)]
         have s0 : N1 0 13 = N 0 13 + 1 := by rw [← hN, up_same]
         have sF : TF M N1 := by rw [← hN]; exact ((((((hF.u (by decide)).u (by decide)).u (by decide)).u (by decide)).u (by decide)).n)
         have sA : TA M N1 (M 0 7) := hA.of (by rw [← hN, up_ne (by decide), up_ne (by decide), up_ne (by decide), up_ne (by decide), up_ne (by decide), up_ne (by decide)]) (by rw [← hN, up_ne (by decide), up_ne (by decide), up_ne (by decide), up_ne (by decide), up_ne (by decide), up_ne (by decide)])
         refine m_bf2 bl M hB C N1 sF sA m hm (by rw [s11]; exact hR) k (c + 1) (by omega) (by omega) ?_ (fun N2 z1 z2 z3 z4 z5 => kk N2 z1 z2 z3 (by omega) z5)
         rw [s11, s0]
         exact BfI_s hR.2.1 hI ⟨hc.1, by omega⟩ hk (by omega) (by rw [s8, if_pos rfl]) (fun i hi => by rw [s8, if_neg hi]) s9 s10 s12)
termination_by (8 - c).toNat
decreasing_by all_goals omega
set_option maxHeartbeats 4000000 in
set_option maxRecDepth 100000 in
theorem m_bf1 {K : Kt} (bl : Nat) (M : Mem) (hB : BkM M) (C : Ctx (shM bl) nM RX11 cX11_tree 7 none (lvl 2) (fun _ M' => TrP M M') K) (N : Mem) (hF : TF M N) (hA : TA M N (M 0 7)) (m : Int) (hm : m ≤ 721) (hR : RwI (M 0 7) m (N 11) (cuM M) (M 2)) (k : Int) (hk : 0 ≤ k ∧ k ≤ N 0 13) (hI : BfI m (N 11) (N 0 13) (N 8) (N 9) (N 10) (N 12) k 0) : K 239 [(0, .inr 0), (1, .inl m), (2, .inl k)] [] N := by
  have cap := bf_cap hR.2.1 hR.2.2.1 hI
  refine k_iload_n C dX11_tree_239 rfl rfl ?_
  refine k_aload_n C dX11_tree_240 rfl rfl ?_
  refine k_getJ C 13 13 rfl okC11 rfl (by decide) (by decide) rfl flX11_164 dX11_tree_241 (fun ld241 => ?_)
  refine k_icmp_ge C (tgt := 371) dX11_tree_244 rfl (by omega) (by omega) (fun c244 => ?_) (fun c244 => ?_)
  · exact k_vret C dX11_tree_371 (fun _ => ⟨hF, hA, bf_tr (cutN_ok hB) hR (by rw [show k = N 0 13 by omega] at hI; exact hI), by omega⟩)
  · refine k_iconst C dX11_tree_247 ?_
    refine k_istore_n C dX11_tree_248 rfl (by decide) ?_
    refine k_cut2 C (lv' := [(0, _), (1, _), (2, _), (3, _)]) ⟨rfl, rfl, rfl, rfl, trivial⟩ ?_
    refine m_bf2 bl M hB C N hF hA m hm hR k 0 (by omega) (by omega) hI (fun N2 z1 z2 z3 z4 z5 => ?_)
    have cap2 := bf_cap z3.2.1 z3.2.2.1 z5
    exact m_bf1 bl M hB C N2 z1 z2 m hm z3 (k + 1) (by omega) z5
termination_by (721 - k).toNat
decreasing_by all_goals omega
set_option maxHeartbeats 4000000 in
set_option maxRecDepth 100000 in
theorem m_clr8 {K : Kt} (bl : Nat) {M : Mem} (C : Ctx (shM bl) nM RX11 cX11_tree 7 none (lvl 2) (fun _ M' => TrP M M') K) (N : Mem) (m r a k c x : Int) (hm : 0 ≤ m ∧ m ≤ 721) (hx : 0 ≤ x ∧ x ≤ 8) (kk : ∀ N2, (∀ j, j ≠ 11 → N2 j = N j) → (∀ i, N2 11 i = if 8 * m + x ≤ i ∧ i < 8 * m + 8 then -1 else N 11 i) → K 177 [(0, .inr 0), (1, .inl m), (2, .inl r), (3, .inl a), (4, .inl k), (5, .inl c)] [] N2) : K 151 [(0, .inr 0), (1, .inl m), (2, .inl r), (3, .inl a), (4, .inl k), (5, .inl c), (6, .inl x)] [] N := by
  refine k_iload C dX11_tree_151 rfl ?_
  refine k_bipush C dX11_tree_153 (by decide) ?_
  refine k_icmp_ge C (tgt := 177) dX11_tree_155 rfl (by omega) (by omega) (fun c155 => ?_) (fun c155 => ?_)
  · refine k_cut2 C (lv' := [(0, _), (1, _), (2, _), (3, _), (4, _), (5, _)]) ⟨rfl, rfl, rfl, rfl, rfl, rfl, trivial⟩ ?_
    exact kk N (fun _ _ => rfl) (fun i => by rw [if_neg (by omega)])
  · refine k_aload_n C dX11_tree_158 rfl rfl ?_
    refine k_getR C (j := 14) okC11 rfl (by decide) (by decide) rfl flX11_41 dX11_tree_159 ?_
    refine k_bipush C dX11_tree_162 (by decide) ?_
    refine k_iload_n C dX11_tree_164 rfl rfl ?_
    refine k_imul C dX11_tree_165 ?_
    refine k_iload C dX11_tree_166 rfl ?_
    refine k_iadd C dX11_tree_168 ?_
    refine k_iconst C dX11_tree_169 ?_
    refine k_iastore C rfl (by decide) (by decide) ⟨by omega, by omega⟩ (by omega) dX11_tree_170 ?_
    refine k_iinc C dX11_tree_171 (by decide) rfl ?_
    refine k_goto C (tgt := 151) dX11_tree_174 rfl ?_
    refine k_cut2 C (lv' := [(0, _), (1, _), (2, _), (3, _), (4, _), (5, _), (6, _)]) ⟨rfl, rfl, rfl, rfl, rfl, rfl, rfl, trivial⟩ ?_
    refine m_clr8 bl C _ m r a k c (x + 1) hm (by omega) (fun N2 z1 z2 => ?_)
    refine kk N2 (fun j hj => by rw [z1 j hj, up_ne hj]) (fun i => ?_)
    rw [z2, up_at]
    by_cases e : i = 8 * m + x
    · rw [if_neg (by omega), if_pos e, if_pos (by omega)]
    · rw [if_neg e]
      by_cases e2 : 8 * m + (x + 1) ≤ i ∧ i < 8 * m + 8
      · rw [if_pos e2, if_pos (by omega)]
      · rw [if_neg e2, if_neg (by omega)]
termination_by (8 - x).toNat
decreasing_by all_goals omega
set_option maxHeartbeats 4000000 in
set_option maxRecDepth 100000 in
theorem m_tin {K : Kt} (bl : Nat) (M : Mem) (hB : BkM M) (C : Ctx (shM bl) nM RX11 cX11_tree 7 none (lvl 2) (fun _ M' => TrP M M') K) (N : Mem) (hF : TF M N) (r m k : Int) (hr : 0 ≤ r ∧ r < M 0 7) (hA : TA M N r) (h6 : N 6 r = cuM M r) (h7 : (N 7 r = 1 ∧ askM M r) ∨ (N 7 r = 0 ∧ ¬ askM M r)) (hk : 0 ≤ k ∧ (k ≤ cuM M r ∨ k = 0)) (hm : m ≤ 1 + 12 * r + k) (hR : RwI (M 0 7) m (N 11) (cvf (cuM M) r k) (M 2)) (a : Int) (ha : a = ndf (N 11) (M 2) r k.toNat) (kk : ∀ N2 m2, TF M N2 → TA M N2 (r + 1) → m2 ≤ 1 + 12 * (r + 1) → RwI (M 0 7) m2 (N2 11) (cvf (cuM M) (r + 1) 0) (M 2) → K 25 [(0, .inr 0), (1, .inl m2), (2, .inl (r + 1))] [] N2) : K 108 [(0, .inr 0), (1, .inl m), (2, .inl r), (3, .inl a), (4, .inl k)] [] N := by
  have b1 := hB.1; have b2 := hB.2.1; have hbr := hB.2.2 r hr.1 hr.2
  have hcr : -1 ≤ cuM M r ∧ cuM M r ≤ M 3 r ∧ cuM M r ≤ 12 := cutN_rg hB hr.1 hr.2
  have hcv := cvf_ok (r := r) (k := k) (cutN_ok hB) hk.2
  have ra := rw_in hcv hR hr k.toNat (by rw [cvf_at]; omega)
  rw [← ha] at ra
  obtain ⟨n0, n2, n3, n4, n5⟩ := hF.e
  refine k_iload C dX11_tree_108 rfl ?_
  refine k_aload_n C dX11_tree_110 rfl rfl ?_
  refine k_getR C (j := 8) okC11 rfl (by decide) (by decide) rfl flX11_26 dX11_tree_111 ?_
  refine k_iload_n C dX11_tree_114 rfl rfl ?_
  refine k_iaload C rfl (by decide) (by decide) ⟨by omega, by omega⟩ dX11_tree_115 (fun ld115 => ?_)
  rw [h6]
  refine k_icmp_ge C (tgt := 212) dX11_tree_116 rfl (by omega) (by omega) (fun c116 => ?_) (fun c116 => ?_)
  · refine k_iinc C dX11_tree_212 (by decide) rfl ?_
    refine k_goto C (tgt := 25) dX11_tree_215 rfl ?_
    refine k_cut2 C (lv' := [(0, _), (1, _), (2, _)]) ⟨rfl, rfl, rfl, trivial⟩ ?_
    refine kk N m hF (fun x p q => ?_) (by omega) (RwI_n hR (by omega))
    by_cases e : x = r
    · rw [e]; exact ⟨h6, h7⟩
    · exact hA x p (by omega)
  · have hca := hbr.2.2.2.2.2 k hk.1 (by omega)
    have A := hR.2.1 a _ ra.1 ra.2 hca.1 hca.2
    have stp : ndf (N 11) (M 2) r (k.toNat + 1) = N 11 (8 * a + M 2 (12 * r + k)) := by rw [ha, show M 2 (12 * r + k) = M 2 (12 * r + (k.toNat : Int)) by rw [show (k.toNat : Int) = k by omega]]; rfl
    refine k_aload_n C dX11_tree_119 rfl rfl ?_
    refine k_getR C (j := 3) okC11 rfl (by decide) (by decide) rfl flX11_13 dX11_tree_120 ?_
    refine k_bipush C dX11_tree_123 (by decide) ?_
    refine k_iload_n C dX11_tree_125 rfl rfl ?_
    refine k_imul C dX11_tree_126 ?_
    refine k_iload C dX11_tree_127 rfl ?_
    refine k_iadd C dX11_tree_129 ?_
    refine k_iaload C rfl (by decide) (by decide) ⟨by omega, by omega⟩ dX11_tree_130 (fun ld130 => ?_)
    rw [n2]
    refine k_istore C dX11_tree_131 (by decide) ?_
    refine k_aload_n C dX11_tree_133 rfl rfl ?_
    refine k_getR C (j := 14) okC11 rfl (by decide) (by decide) rfl flX11_41 dX11_tree_134 ?_
    refine k_bipush C dX11_tree_137 (by decide) ?_
    refine k_iload_n C dX11_tree_139 rfl rfl ?_
    refine k_imul C dX11_tree_140 ?_
    refine k_iload C dX11_tree_141 rfl ?_
    refine k_iadd C dX11_tree_143 ?_
    refine k_iaload C rfl (by decide) (by decide) ⟨by omega, by omega⟩ dX11_tree_144 (fun ld144 => ?_)
    refine k_if_ge C (tgt := 193) dX11_tree_145 rfl (by omega) (fun c145 => ?_) (fun c145 => ?_)
    · refine k_aload_n C dX11_tree_193 rfl rfl ?_
      refine k_getR C (j := 14) okC11 rfl (by decide) (by decide) rfl flX11_41 dX11_tree_194 ?_
      refine k_bipush C dX11_tree_197 (by decide) ?_
      refine k_iload_n C dX11_tree_199 rfl rfl ?_
      refine k_imul C dX11_tree_200 ?_
      refine k_iload C dX11_tree_201 rfl ?_
      refine k_iadd C dX11_tree_203 ?_
      refine k_iaload C rfl (by decide) (by decide) ⟨by omega, by omega⟩ dX11_tree_204 (fun ld204 => ?_)
      refine k_istore_n C dX11_tree_205 rfl (by decide) ?_
      refine k_iinc C dX11_tree_206 (by decide) rfl ?_
      refine k_goto C (tgt := 108) dX11_tree_209 rfl ?_
      refine k_cut2 C (lv' := [(0, _), (1, _), (2, _), (3, _), (4, _)]) ⟨rfl, rfl, rfl, rfl, rfl, trivial⟩ ?_
      refine m_tin bl M hB C N hF r m (k + 1) hr hA h6 h7 (by omega) (by omega) (RwI_e hR hk.1 (by rw [stp]; omega)) _ ?_ kk
      rw [show (k + 1).toNat = k.toNat + 1 by omega]; exact stp.symm
    · refine k_iconst C dX11_tree_148 ?_
      refine k_istore C dX11_tree_149 (by decide) ?_
      refine k_cut2 C (lv' := [(0, _), (1, _), (2, _), (3, _), (4, _), (5, _), (6, _)]) ⟨rfl, rfl, rfl, rfl, rfl, rfl, rfl, trivial⟩ ?_
      refine m_clr8 bl C N m r a k _ 0 (by omega) (by omega) (fun N2 z1 z2 => ?_)
      refine k_aload_n C dX11_tree_177 rfl rfl ?_
      refine k_getR C (j := 14) okC11 rfl (by decide) (by decide) rfl flX11_41 dX11_tree_178 ?_
      refine k_bipush C dX11_tree_181 (by decide) ?_
      refine k_iload_n C dX11_tree_183 rfl rfl ?_
      refine k_imul C dX11_tree_184 ?_
      refine k_iload C dX11_tree_185 rfl ?_
      refine k_iadd C dX11_tree_187 ?_
      refine k_iload_n C dX11_tree_188 rfl rfl ?_
      refine k_iastore C rfl (by decide) (by decide) ⟨by omega, by omega⟩ (by omega) dX11_tree_189 ?_
      refine k_iinc C dX11_tree_190 (by decide) rfl ?_
      refine k_aload_n C dX11_tree_193 rfl rfl ?_
      refine k_getR C (j := 14) okC11 rfl (by decide) (by decide) rfl flX11_41 dX11_tree_194 ?_
      refine k_bipush C dX11_tree_197 (by decide) ?_
      refine k_iload_n C dX11_tree_199 rfl rfl ?_
      refine k_imul C dX11_tree_200 ?_
      refine k_iload C dX11_tree_201 rfl ?_
      refine k_iadd C dX11_tree_203 ?_
      refine k_iaload C rfl (by decide) (by decide) ⟨by omega, by omega⟩ dX11_tree_204 (fun ld204 => ?_)
      rw [up_same]
      refine k_istore_n C dX11_tree_205 rfl (by decide) ?_
      refine k_iinc C dX11_tree_206 (by decide) rfl ?_
      refine k_goto C (tgt := 108) dX11_tree_209 rfl ?_
      refine k_cut2 C (lv' := [(0, _), (1, _), (2, _), (3, _), (4, _)]) ⟨rfl, rfl, rfl, rfl, rfl, trivial⟩ ?_
      have e11 : ∀ i, i ≠ 8 * a + M 2 (12 * r + k) → up N2 11 (8 * a + M 2 (12 * r + k)) m 11 i = if 8 * m + 0 ≤ i ∧ i < 8 * m + 8 then -1 else N 11 i := fun i hi => by rw [up_at, if_neg hi, z2]
      have v11 : up N2 11 (8 * a + M 2 (12 * r + k)) m 11 (8 * a + M 2 (12 * r + k)) = m := up_same
      have eo : ∀ j, j ≠ 11 → up N2 11 (8 * a + M 2 (12 * r + k)) m j = N j := fun j hj => by rw [up_ne hj, z1 j hj]
      generalize up N2 11 (8 * a + M 2 (12 * r + k)) m = N3 at e11 v11 eo ⊢
      have R3 := RwI_s (ra' := N3 11) hcv hR hr hk.1 hca (by rw [← ha]; omega) (by rw [← ha]; exact v11) (fun c p q => by rw [e11 _ (by omega), if_pos (by omega)]) (fun i p q s => by rw [← ha] at s; rw [e11 i s, if_neg (by omega)])
      have pth := ndf_set (ra' := N3 11) (s := 8 * a + M 2 (12 * r + k)) hcv hR (by omega) (fun i p q s => by rw [e11 i s, if_neg (by omega)]) hr k.toNat (by rw [cvf_at]; omega)
      refine m_tin bl M hB C N3 (hF.of eo) r (m + 1) (k + 1) hr (hA.of (eo 6 (by decide)) (eo 7 (by decide))) (by rw [eo 6 (by decide)]; exact h6) (by rw [eo 7 (by decide)]; exact h7) (by omega) (by omega) R3 m ?_ kk
      rw [show (k + 1).toNat = k.toNat + 1 by omega]
      show m = N3 11 (8 * ndf (N3 11) (M 2) r k.toNat + M 2 (12 * r + (k.toNat : Int)))
      rw [pth, ← ha, show (k.toNat : Int) = k by omega]; exact v11.symm
termination_by (12 - k).toNat
decreasing_by all_goals omega
set_option maxHeartbeats 4000000 in
set_option maxRecDepth 100000 in
theorem m_trows {K : Kt} (bl : Nat) (M : Mem) (hB : BkM M) (C : Ctx (shM bl) nM RX11 cX11_tree 7 none (lvl 2) (fun _ M' => TrP M M') K) (N : Mem) (hF : TF M N) (r m : Int) (hr : 0 ≤ r ∧ r ≤ M 0 7) (hA : TA M N r) (hm : m ≤ 1 + 12 * r) (hR : RwI (M 0 7) m (N 11) (cvf (cuM M) r 0) (M 2)) : K 25 [(0, .inr 0), (1, .inl m), (2, .inl r)] [] N := by
  have b1 := hB.1; have b2 := hB.2.1; have hbr := hB.2.2 r hr.1
  obtain ⟨n0, n2, n3, n4, n5⟩ := hF.e
  have BN := hF.bk hB
  refine k_iload_n C dX11_tree_25 rfl rfl ?_
  refine k_aload_n C dX11_tree_26 rfl rfl ?_
  refine k_getJ C 7 7 rfl okC11 rfl (by decide) (by decide) rfl flX11_147 dX11_tree_27 (fun ld27 => ?_)
  rw [n0]
  refine k_icmp_ge C (tgt := 218) dX11_tree_30 rfl (by omega) (by omega) (fun c30 => ?_) (fun c30 => ?_)
  · refine k_aload_n C dX11_tree_218 rfl rfl ?_
    refine k_iconst C dX11_tree_219 ?_
    refine k_putJ C 13 13 rfl okC11 rfl (by decide) (by decide) rfl rfl rfl (by omega) flX11_164 dX11_tree_220 ?_
    refine k_aload_n C dX11_tree_223 rfl rfl ?_
    refine k_getR C (j := 15) okC11 rfl (by decide) (by decide) rfl flX11_44 dX11_tree_224 ?_
    refine k_iconst C dX11_tree_227 ?_
    refine k_iconst C dX11_tree_228 ?_
    refine k_iastore C rfl (by decide) (by decide) ⟨by omega, by omega⟩ (by omega) dX11_tree_229 ?_
    refine k_aload_n C dX11_tree_230 rfl rfl ?_
    refine k_getR C (j := 11) okC11 rfl (by decide) (by decide) rfl flX11_35 dX11_tree_231 ?_
    refine k_iconst C dX11_tree_234 ?_
    refine k_iconst C dX11_tree_235 ?_
    refine k_iastore C rfl (by decide) (by decide) ⟨by omega, by omega⟩ (by omega) dX11_tree_236 ?_
    refine k_iconst C dX11_tree_237 ?_
    refine k_istore_n C dX11_tree_238 rfl (by decide) ?_
    refine k_cut2 C (lv' := [(0, _), (1, _), (2, _)]) ⟨rfl, rfl, rfl, trivial⟩ ?_
    have er : r = M 0 7 := by omega
    subst er
    have R := RwI_end hR
    refine m_bf1 bl M hB C _ ((hF.n.u (by decide)).u (by decide)) ?_ m (by omega) ?_ 0 ?_ ?_
    · exact hA.of (by rw [up_ne (by decide), up_ne (by decide), up_ne (by decide)]) (by rw [up_ne (by decide), up_ne (by decide), up_ne (by decide)])
    · rw [up_ne (by decide), up_ne (by decide), up_ne (by decide)]; exact R
    · rw [up_ne (by decide), up_ne (by decide), up_same]; omega
    · have m1 := R.1
      refine ⟨by rw [up_ne (by decide), up_ne (by decide), up_same]; omega, by rw [up_ne (show (12 : Nat) ≠ 9 by decide), up_same], fun j p q => ?_, fun i j p q s => ?_, fun k c p q s t u => by omega, fun j p q => ?_⟩
      · rw [up_ne (by decide), up_ne (by decide), up_same] at q; omega
      · rw [up_ne (by decide), up_ne (by decide), up_same] at s; omega
      · rw [up_ne (by decide), up_ne (by decide), up_same] at q
        rw [show j = 0 by omega, up_ne (show (12 : Nat) ≠ 9 by decide), up_same]; omega
  · have hbr := hbr c30
    have hcr : -1 ≤ cuM M r ∧ cuM M r ≤ M 3 r ∧ cuM M r ≤ 12 := cutN_rg hB hr.1 c30
    refine k_aload_n C dX11_tree_33 rfl rfl ?_
    refine k_getR C (j := 9) okC11 rfl (by decide) (by decide) rfl flX11_29 dX11_tree_34 ?_
    refine k_iload_n C dX11_tree_37 rfl rfl ?_
    refine k_aload_n C dX11_tree_38 rfl rfl ?_
    refine k_getR C (j := 6) okC11 rfl (by decide) (by decide) rfl flX11_23 dX11_tree_39 ?_
    refine k_iload_n C dX11_tree_42 rfl rfl ?_
    refine k_zaload C rfl (by decide) (by decide) ⟨by omega, by omega⟩ dX11_tree_43 (fun ld43 => ?_)
    rw [n5]
    refine k_if_eq C (tgt := 68) dX11_tree_44 rfl (by omega) (fun c44 => ?_) (fun c44 => ?_)
    · refine k_iconst C dX11_tree_68 ?_
      refine k_zastore C rfl (by decide) (by decide) ⟨by omega, by omega⟩ (by omega) dX11_tree_69 ?_
      refine k_aload_n C dX11_tree_70 rfl rfl ?_
      refine k_getR C (j := 8) okC11 rfl (by decide) (by decide) rfl flX11_26 dX11_tree_71 ?_
      refine k_iload_n C dX11_tree_74 rfl rfl ?_
      refine k_aload_n C dX11_tree_75 rfl rfl ?_
      refine k_getR C (j := 6) okC11 rfl (by decide) (by decide) rfl flX11_23 dX11_tree_76 ?_
      refine k_iload_n C dX11_tree_79 rfl rfl ?_
      refine k_zaload C rfl (by decide) (by decide) ⟨by omega, by omega⟩ dX11_tree_80 (fun ld80 => ?_)
      rw [up_ne (show (5 : Nat) ≠ 7 by decide), n5]
      refine k_if_eq C (tgt := 101) dX11_tree_81 rfl (by omega) (fun c81 => ?_) (fun c81 => ?_)
      · refine k_iconst C dX11_tree_101 ?_
        refine k_iastore C rfl (by decide) (by decide) ⟨by omega, by omega⟩ (by omega) dX11_tree_102 ?_
        refine k_iconst C dX11_tree_103 ?_
        refine k_istore_n C dX11_tree_104 rfl (by decide) ?_
        refine k_iconst C dX11_tree_105 ?_
        refine k_istore C dX11_tree_106 (by decide) ?_
        refine k_cut2 C (lv' := [(0, _), (1, _), (2, _), (3, _), (4, _)]) ⟨rfl, rfl, rfl, rfl, rfl, trivial⟩ ?_
        refine m_tin bl M hB C _ ((hF.u (by decide)).u (by decide)) r m 0 ⟨hr.1, c30⟩ ?_ ?_ ?_ (by omega) (by omega) ?_ 0 rfl (fun N2 m2 z1 z2 z3 z4 => m_trows bl M hB C N2 z1 (r + 1) m2 (by omega) z2 z3 z4)
        · intro x p q
          rw [up_at, if_neg (by omega), up_ne (show (6 : Nat) ≠ 7 by decide), up_ne (show (7 : Nat) ≠ 6 by decide), up_at, if_neg (by omega)]
          exact hA x p q
        · first | exact up_same | (rw [up_same]; unfold cuM cutN; rw [iteP_neg (by omega)])
        · rw [up_ne (show (7 : Nat) ≠ 6 by decide), up_same]
          first
          | exact Or.inr ⟨rfl, fun q => by have q1 := q.2.2.1; have q2 := q.2.2.2.1; omega⟩
          | exact Or.inr ⟨rfl, fun q => by rcases hp58 with z | z; exact q.2.2.2.2 z.2; omega⟩
          | exact Or.inl ⟨rfl, hr.1, c30, by omega, by omega, by rcases hp58 with z | z; omega; exact z.2⟩
        · rw [up_ne (by decide), up_ne (by decide)]; exact hR
      · refine k_aload_n C dX11_tree_84 rfl rfl ?_
        refine k_getR C (j := 5) okC11 rfl (by decide) (by decide) rfl flX11_19 dX11_tree_85 ?_
        refine k_iload_n C dX11_tree_88 rfl rfl ?_
        refine k_zaload C rfl (by decide) (by decide) ⟨by omega, by omega⟩ dX11_tree_89 (fun ld89 => ?_)
        rw [up_ne (show (4 : Nat) ≠ 7 by decide), n4]
        refine k_if_eq C (tgt := 101) dX11_tree_90 rfl (by omega) (fun c90 => ?_) (fun c90 => ?_)
        · refine k_iconst C dX11_tree_101 ?_
          refine k_iastore C rfl (by decide) (by decide) ⟨by omega, by omega⟩ (by omega) dX11_tree_102 ?_
          refine k_iconst C dX11_tree_103 ?_
          refine k_istore_n C dX11_tree_104 rfl (by decide) ?_
          refine k_iconst C dX11_tree_105 ?_
          refine k_istore C dX11_tree_106 (by decide) ?_
          refine k_cut2 C (lv' := [(0, _), (1, _), (2, _), (3, _), (4, _)]) ⟨rfl, rfl, rfl, rfl, rfl, trivial⟩ ?_
          refine m_tin bl M hB C _ ((hF.u (by decide)).u (by decide)) r m 0 ⟨hr.1, c30⟩ ?_ ?_ ?_ (by omega) (by omega) ?_ 0 rfl (fun N2 m2 z1 z2 z3 z4 => m_trows bl M hB C N2 z1 (r + 1) m2 (by omega) z2 z3 z4)
          · intro x p q
            rw [up_at, if_neg (by omega), up_ne (show (6 : Nat) ≠ 7 by decide), up_ne (show (7 : Nat) ≠ 6 by decide), up_at, if_neg (by omega)]
            exact hA x p q
          · first | exact up_same | (rw [up_same]; unfold cuM cutN; rw [iteP_neg (by omega)])
          · rw [up_ne (show (7 : Nat) ≠ 6 by decide), up_same]
            first
            | exact Or.inr ⟨rfl, fun q => by have q1 := q.2.2.1; have q2 := q.2.2.2.1; omega⟩
            | exact Or.inr ⟨rfl, fun q => by rcases hp58 with z | z; exact q.2.2.2.2 z.2; omega⟩
            | exact Or.inl ⟨rfl, hr.1, c30, by omega, by omega, by rcases hp58 with z | z; omega; exact z.2⟩
          · rw [up_ne (by decide), up_ne (by decide)]; exact hR
        · refine k_aload_n C dX11_tree_93 rfl rfl ?_
          refine k_iload_n C dX11_tree_94 rfl rfl ?_
          refine k_callV C okX11_157 dX11_tree_95 (c_M_cutOf bl _ ((hF.u (by decide)).bk hB) r (by rw [up_ne (by decide)]; omega)) rfl rfl (by decide) rfl (by decide) rfl (Nat.le_of_ble_eq_true rfl) (fun r95 M95 hr95 hp95 => ?_)
          obtain ⟨rfl, hp95⟩ := hp95
          rw [up_ne (show (0 : Nat) ≠ 7 by decide), up_ne (show (3 : Nat) ≠ 7 by decide), up_ne (show (4 : Nat) ≠ 7 by decide), up_ne (show (5 : Nat) ≠ 7 by decide), up_ne (show (2 : Nat) ≠ 7 by decide), n0, n2, n3, n4, n5] at hp95
          have ecut : r95 = cuM M r := by rw [hp95]; unfold cuM cutN; rw [iteP_pos (by omega)]
          subst ecut
          refine k_goto C (tgt := 102) dX11_tree_98 rfl ?_
          refine k_iastore C rfl (by decide) (by decide) ⟨by omega, by omega⟩ (by omega) dX11_tree_102 ?_
          refine k_iconst C dX11_tree_103 ?_
          refine k_istore_n C dX11_tree_104 rfl (by decide) ?_
          refine k_iconst C dX11_tree_105 ?_
          refine k_istore C dX11_tree_106 (by decide) ?_
          refine k_cut2 C (lv' := [(0, _), (1, _), (2, _), (3, _), (4, _)]) ⟨rfl, rfl, rfl, rfl, rfl, trivial⟩ ?_
          refine m_tin bl M hB C _ ((hF.u (by decide)).u (by decide)) r m 0 ⟨hr.1, c30⟩ ?_ ?_ ?_ (by omega) (by omega) ?_ 0 rfl (fun N2 m2 z1 z2 z3 z4 => m_trows bl M hB C N2 z1 (r + 1) m2 (by omega) z2 z3 z4)
          · intro x p q
            rw [up_at, if_neg (by omega), up_ne (show (6 : Nat) ≠ 7 by decide), up_ne (show (7 : Nat) ≠ 6 by decide), up_at, if_neg (by omega)]
            exact hA x p q
          · first | exact up_same | (rw [up_same]; unfold cuM cutN; rw [iteP_neg (by omega)])
          · rw [up_ne (show (7 : Nat) ≠ 6 by decide), up_same]
            first
            | exact Or.inr ⟨rfl, fun q => by have q1 := q.2.2.1; have q2 := q.2.2.2.1; omega⟩
            | exact Or.inr ⟨rfl, fun q => by rcases hp58 with z | z; exact q.2.2.2.2 z.2; omega⟩
            | exact Or.inl ⟨rfl, hr.1, c30, by omega, by omega, by rcases hp58 with z | z; omega; exact z.2⟩
          · rw [up_ne (by decide), up_ne (by decide)]; exact hR
    · refine k_aload_n C dX11_tree_47 rfl rfl ?_
      refine k_getR C (j := 5) okC11 rfl (by decide) (by decide) rfl flX11_19 dX11_tree_48 ?_
      refine k_iload_n C dX11_tree_51 rfl rfl ?_
      refine k_zaload C rfl (by decide) (by decide) ⟨by omega, by omega⟩ dX11_tree_52 (fun ld52 => ?_)
      rw [n4]
      refine k_if_ne C (tgt := 68) dX11_tree_53 rfl (by omega) (fun c53 => ?_) (fun c53 => ?_)
      · refine k_iconst C dX11_tree_68 ?_
        refine k_zastore C rfl (by decide) (by decide) ⟨by omega, by omega⟩ (by omega) dX11_tree_69 ?_
        refine k_aload_n C dX11_tree_70 rfl rfl ?_
        refine k_getR C (j := 8) okC11 rfl (by decide) (by decide) rfl flX11_26 dX11_tree_71 ?_
        refine k_iload_n C dX11_tree_74 rfl rfl ?_
        refine k_aload_n C dX11_tree_75 rfl rfl ?_
        refine k_getR C (j := 6) okC11 rfl (by decide) (by decide) rfl flX11_23 dX11_tree_76 ?_
        refine k_iload_n C dX11_tree_79 rfl rfl ?_
        refine k_zaload C rfl (by decide) (by decide) ⟨by omega, by omega⟩ dX11_tree_80 (fun ld80 => ?_)
        rw [up_ne (show (5 : Nat) ≠ 7 by decide), n5]
        refine k_if_eq C (tgt := 101) dX11_tree_81 rfl (by omega) (fun c81 => ?_) (fun c81 => ?_)
        · refine k_iconst C dX11_tree_101 ?_
          refine k_iastore C rfl (by decide) (by decide) ⟨by omega, by omega⟩ (by omega) dX11_tree_102 ?_
          refine k_iconst C dX11_tree_103 ?_
          refine k_istore_n C dX11_tree_104 rfl (by decide) ?_
          refine k_iconst C dX11_tree_105 ?_
          refine k_istore C dX11_tree_106 (by decide) ?_
          refine k_cut2 C (lv' := [(0, _), (1, _), (2, _), (3, _), (4, _)]) ⟨rfl, rfl, rfl, rfl, rfl, trivial⟩ ?_
          refine m_tin bl M hB C _ ((hF.u (by decide)).u (by decide)) r m 0 ⟨hr.1, c30⟩ ?_ ?_ ?_ (by omega) (by omega) ?_ 0 rfl (fun N2 m2 z1 z2 z3 z4 => m_trows bl M hB C N2 z1 (r + 1) m2 (by omega) z2 z3 z4)
          · intro x p q
            rw [up_at, if_neg (by omega), up_ne (show (6 : Nat) ≠ 7 by decide), up_ne (show (7 : Nat) ≠ 6 by decide), up_at, if_neg (by omega)]
            exact hA x p q
          · first | exact up_same | (rw [up_same]; unfold cuM cutN; rw [iteP_neg (by omega)])
          · rw [up_ne (show (7 : Nat) ≠ 6 by decide), up_same]
            first
            | exact Or.inr ⟨rfl, fun q => by have q1 := q.2.2.1; have q2 := q.2.2.2.1; omega⟩
            | exact Or.inr ⟨rfl, fun q => by rcases hp58 with z | z; exact q.2.2.2.2 z.2; omega⟩
            | exact Or.inl ⟨rfl, hr.1, c30, by omega, by omega, by rcases hp58 with z | z; omega; exact z.2⟩
          · rw [up_ne (by decide), up_ne (by decide)]; exact hR
        · refine k_aload_n C dX11_tree_84 rfl rfl ?_
          refine k_getR C (j := 5) okC11 rfl (by decide) (by decide) rfl flX11_19 dX11_tree_85 ?_
          refine k_iload_n C dX11_tree_88 rfl rfl ?_
          refine k_zaload C rfl (by decide) (by decide) ⟨by omega, by omega⟩ dX11_tree_89 (fun ld89 => ?_)
          rw [up_ne (show (4 : Nat) ≠ 7 by decide), n4]
          refine k_if_eq C (tgt := 101) dX11_tree_90 rfl (by omega) (fun c90 => ?_) (fun c90 => ?_)
          · refine k_iconst C dX11_tree_101 ?_
            refine k_iastore C rfl (by decide) (by decide) ⟨by omega, by omega⟩ (by omega) dX11_tree_102 ?_
            refine k_iconst C dX11_tree_103 ?_
            refine k_istore_n C dX11_tree_104 rfl (by decide) ?_
            refine k_iconst C dX11_tree_105 ?_
            refine k_istore C dX11_tree_106 (by decide) ?_
            refine k_cut2 C (lv' := [(0, _), (1, _), (2, _), (3, _), (4, _)]) ⟨rfl, rfl, rfl, rfl, rfl, trivial⟩ ?_
            refine m_tin bl M hB C _ ((hF.u (by decide)).u (by decide)) r m 0 ⟨hr.1, c30⟩ ?_ ?_ ?_ (by omega) (by omega) ?_ 0 rfl (fun N2 m2 z1 z2 z3 z4 => m_trows bl M hB C N2 z1 (r + 1) m2 (by omega) z2 z3 z4)
            · intro x p q
              rw [up_at, if_neg (by omega), up_ne (show (6 : Nat) ≠ 7 by decide), up_ne (show (7 : Nat) ≠ 6 by decide), up_at, if_neg (by omega)]
              exact hA x p q
            · first | exact up_same | (rw [up_same]; unfold cuM cutN; rw [iteP_neg (by omega)])
            · rw [up_ne (show (7 : Nat) ≠ 6 by decide), up_same]
              first
              | exact Or.inr ⟨rfl, fun q => by have q1 := q.2.2.1; have q2 := q.2.2.2.1; omega⟩
              | exact Or.inr ⟨rfl, fun q => by rcases hp58 with z | z; exact q.2.2.2.2 z.2; omega⟩
              | exact Or.inl ⟨rfl, hr.1, c30, by omega, by omega, by rcases hp58 with z | z; omega; exact z.2⟩
            · rw [up_ne (by decide), up_ne (by decide)]; exact hR
          · refine k_aload_n C dX11_tree_93 rfl rfl ?_
            refine k_iload_n C dX11_tree_94 rfl rfl ?_
            refine k_callV C okX11_157 dX11_tree_95 (c_M_cutOf bl _ ((hF.u (by decide)).bk hB) r (by rw [up_ne (by decide)]; omega)) rfl rfl (by decide) rfl (by decide) rfl (Nat.le_of_ble_eq_true rfl) (fun r95 M95 hr95 hp95 => ?_)
            obtain ⟨rfl, hp95⟩ := hp95
            rw [up_ne (show (0 : Nat) ≠ 7 by decide), up_ne (show (3 : Nat) ≠ 7 by decide), up_ne (show (4 : Nat) ≠ 7 by decide), up_ne (show (5 : Nat) ≠ 7 by decide), up_ne (show (2 : Nat) ≠ 7 by decide), n0, n2, n3, n4, n5] at hp95
            have ecut : r95 = cuM M r := by rw [hp95]; unfold cuM cutN; rw [iteP_pos (by omega)]
            subst ecut
            refine k_goto C (tgt := 102) dX11_tree_98 rfl ?_
            refine k_iastore C rfl (by decide) (by decide) ⟨by omega, by omega⟩ (by omega) dX11_tree_102 ?_
            refine k_iconst C dX11_tree_103 ?_
            refine k_istore_n C dX11_tree_104 rfl (by decide) ?_
            refine k_iconst C dX11_tree_105 ?_
            refine k_istore C dX11_tree_106 (by decide) ?_
            refine k_cut2 C (lv' := [(0, _), (1, _), (2, _), (3, _), (4, _)]) ⟨rfl, rfl, rfl, rfl, rfl, trivial⟩ ?_
            refine m_tin bl M hB C _ ((hF.u (by decide)).u (by decide)) r m 0 ⟨hr.1, c30⟩ ?_ ?_ ?_ (by omega) (by omega) ?_ 0 rfl (fun N2 m2 z1 z2 z3 z4 => m_trows bl M hB C N2 z1 (r + 1) m2 (by omega) z2 z3 z4)
            · intro x p q
              rw [up_at, if_neg (by omega), up_ne (show (6 : Nat) ≠ 7 by decide), up_ne (show (7 : Nat) ≠ 6 by decide), up_at, if_neg (by omega)]
              exact hA x p q
            · first | exact up_same | (rw [up_same]; unfold cuM cutN; rw [iteP_neg (by omega)])
            · rw [up_ne (show (7 : Nat) ≠ 6 by decide), up_same]
              first
              | exact Or.inr ⟨rfl, fun q => by have q1 := q.2.2.1; have q2 := q.2.2.2.1; omega⟩
              | exact Or.inr ⟨rfl, fun q => by rcases hp58 with z | z; exact q.2.2.2.2 z.2; omega⟩
              | exact Or.inl ⟨rfl, hr.1, c30, by omega, by omega, by rcases hp58 with z | z; omega; exact z.2⟩
            · rw [up_ne (by decide), up_ne (by decide)]; exact hR
      · refine k_aload_n C dX11_tree_56 rfl rfl ?_
        refine k_iload_n C dX11_tree_57 rfl rfl ?_
        refine k_callV C okX11_161 dX11_tree_58 (c_M_isLeftOut bl N BN r (by omega)) rfl rfl (by decide) rfl (by decide) rfl (Nat.le_of_ble_eq_true rfl) (fun r58 M58 hr58 hp58 => ?_)
        obtain ⟨rfl, hp58⟩ := hp58
        rw [n0, n2, n3, n4, n5] at hp58
        refine k_if_ne C (tgt := 68) dX11_tree_61 rfl (by omega) (fun c61 => ?_) (fun c61 => ?_)
        · refine k_iconst C dX11_tree_68 ?_
          refine k_zastore C rfl (by decide) (by decide) ⟨by omega, by omega⟩ (by omega) dX11_tree_69 ?_
          refine k_aload_n C dX11_tree_70 rfl rfl ?_
          refine k_getR C (j := 8) okC11 rfl (by decide) (by decide) rfl flX11_26 dX11_tree_71 ?_
          refine k_iload_n C dX11_tree_74 rfl rfl ?_
          refine k_aload_n C dX11_tree_75 rfl rfl ?_
          refine k_getR C (j := 6) okC11 rfl (by decide) (by decide) rfl flX11_23 dX11_tree_76 ?_
          refine k_iload_n C dX11_tree_79 rfl rfl ?_
          refine k_zaload C rfl (by decide) (by decide) ⟨by omega, by omega⟩ dX11_tree_80 (fun ld80 => ?_)
          rw [up_ne (show (5 : Nat) ≠ 7 by decide), n5]
          refine k_if_eq C (tgt := 101) dX11_tree_81 rfl (by omega) (fun c81 => ?_) (fun c81 => ?_)
          · refine k_iconst C dX11_tree_101 ?_
            refine k_iastore C rfl (by decide) (by decide) ⟨by omega, by omega⟩ (by omega) dX11_tree_102 ?_
            refine k_iconst C dX11_tree_103 ?_
            refine k_istore_n C dX11_tree_104 rfl (by decide) ?_
            refine k_iconst C dX11_tree_105 ?_
            refine k_istore C dX11_tree_106 (by decide) ?_
            refine k_cut2 C (lv' := [(0, _), (1, _), (2, _), (3, _), (4, _)]) ⟨rfl, rfl, rfl, rfl, rfl, trivial⟩ ?_
            refine m_tin bl M hB C _ ((hF.u (by decide)).u (by decide)) r m 0 ⟨hr.1, c30⟩ ?_ ?_ ?_ (by omega) (by omega) ?_ 0 rfl (fun N2 m2 z1 z2 z3 z4 => m_trows bl M hB C N2 z1 (r + 1) m2 (by omega) z2 z3 z4)
            · intro x p q
              rw [up_at, if_neg (by omega), up_ne (show (6 : Nat) ≠ 7 by decide), up_ne (show (7 : Nat) ≠ 6 by decide), up_at, if_neg (by omega)]
              exact hA x p q
            · first | exact up_same | (rw [up_same]; unfold cuM cutN; rw [iteP_neg (by omega)])
            · rw [up_ne (show (7 : Nat) ≠ 6 by decide), up_same]
              first
              | exact Or.inr ⟨rfl, fun q => by have q1 := q.2.2.1; have q2 := q.2.2.2.1; omega⟩
              | exact Or.inr ⟨rfl, fun q => by rcases hp58 with z | z; exact q.2.2.2.2 z.2; omega⟩
              | exact Or.inl ⟨rfl, hr.1, c30, by omega, by omega, by rcases hp58 with z | z; omega; exact z.2⟩
            · rw [up_ne (by decide), up_ne (by decide)]; exact hR
          · refine k_aload_n C dX11_tree_84 rfl rfl ?_
            refine k_getR C (j := 5) okC11 rfl (by decide) (by decide) rfl flX11_19 dX11_tree_85 ?_
            refine k_iload_n C dX11_tree_88 rfl rfl ?_
            refine k_zaload C rfl (by decide) (by decide) ⟨by omega, by omega⟩ dX11_tree_89 (fun ld89 => ?_)
            rw [up_ne (show (4 : Nat) ≠ 7 by decide), n4]
            refine k_if_eq C (tgt := 101) dX11_tree_90 rfl (by omega) (fun c90 => ?_) (fun c90 => ?_)
            · refine k_iconst C dX11_tree_101 ?_
              refine k_iastore C rfl (by decide) (by decide) ⟨by omega, by omega⟩ (by omega) dX11_tree_102 ?_
              refine k_iconst C dX11_tree_103 ?_
              refine k_istore_n C dX11_tree_104 rfl (by decide) ?_
              refine k_iconst C dX11_tree_105 ?_
              refine k_istore C dX11_tree_106 (by decide) ?_
              refine k_cut2 C (lv' := [(0, _), (1, _), (2, _), (3, _), (4, _)]) ⟨rfl, rfl, rfl, rfl, rfl, trivial⟩ ?_
              refine m_tin bl M hB C _ ((hF.u (by decide)).u (by decide)) r m 0 ⟨hr.1, c30⟩ ?_ ?_ ?_ (by omega) (by omega) ?_ 0 rfl (fun N2 m2 z1 z2 z3 z4 => m_trows bl M hB C N2 z1 (r + 1) m2 (by omega) z2 z3 z4)
              · intro x p q
                rw [up_at, if_neg (by omega), up_ne (show (6 : Nat) ≠ 7 by decide), up_ne (show (7 : Nat) ≠ 6 by decide), up_at, if_neg (by omega)]
                exact hA x p q
              · first | exact up_same | (rw [up_same]; unfold cuM cutN; rw [iteP_neg (by omega)])
              · rw [up_ne (show (7 : Nat) ≠ 6 by decide), up_same]
                first
                | exact Or.inr ⟨rfl, fun q => by have q1 := q.2.2.1; have q2 := q.2.2.2.1; omega⟩
                | exact Or.inr ⟨rfl, fun q => by rcases hp58 with z | z; exact q.2.2.2.2 z.2; omega⟩
                | exact Or.inl ⟨rfl, hr.1, c30, by omega, by omega, by rcases hp58 with z | z; omega; exact z.2⟩
              · rw [up_ne (by decide), up_ne (by decide)]; exact hR
            · refine k_aload_n C dX11_tree_93 rfl rfl ?_
              refine k_iload_n C dX11_tree_94 rfl rfl ?_
              refine k_callV C okX11_157 dX11_tree_95 (c_M_cutOf bl _ ((hF.u (by decide)).bk hB) r (by rw [up_ne (by decide)]; omega)) rfl rfl (by decide) rfl (by decide) rfl (Nat.le_of_ble_eq_true rfl) (fun r95 M95 hr95 hp95 => ?_)
              obtain ⟨rfl, hp95⟩ := hp95
              rw [up_ne (show (0 : Nat) ≠ 7 by decide), up_ne (show (3 : Nat) ≠ 7 by decide), up_ne (show (4 : Nat) ≠ 7 by decide), up_ne (show (5 : Nat) ≠ 7 by decide), up_ne (show (2 : Nat) ≠ 7 by decide), n0, n2, n3, n4, n5] at hp95
              have ecut : r95 = cuM M r := by rw [hp95]; unfold cuM cutN; rw [iteP_pos (by omega)]
              subst ecut
              refine k_goto C (tgt := 102) dX11_tree_98 rfl ?_
              refine k_iastore C rfl (by decide) (by decide) ⟨by omega, by omega⟩ (by omega) dX11_tree_102 ?_
              refine k_iconst C dX11_tree_103 ?_
              refine k_istore_n C dX11_tree_104 rfl (by decide) ?_
              refine k_iconst C dX11_tree_105 ?_
              refine k_istore C dX11_tree_106 (by decide) ?_
              refine k_cut2 C (lv' := [(0, _), (1, _), (2, _), (3, _), (4, _)]) ⟨rfl, rfl, rfl, rfl, rfl, trivial⟩ ?_
              refine m_tin bl M hB C _ ((hF.u (by decide)).u (by decide)) r m 0 ⟨hr.1, c30⟩ ?_ ?_ ?_ (by omega) (by omega) ?_ 0 rfl (fun N2 m2 z1 z2 z3 z4 => m_trows bl M hB C N2 z1 (r + 1) m2 (by omega) z2 z3 z4)
              · intro x p q
                rw [up_at, if_neg (by omega), up_ne (show (6 : Nat) ≠ 7 by decide), up_ne (show (7 : Nat) ≠ 6 by decide), up_at, if_neg (by omega)]
                exact hA x p q
              · first | exact up_same | (rw [up_same]; unfold cuM cutN; rw [iteP_neg (by omega)])
              · rw [up_ne (show (7 : Nat) ≠ 6 by decide), up_same]
                first
                | exact Or.inr ⟨rfl, fun q => by have q1 := q.2.2.1; have q2 := q.2.2.2.1; omega⟩
                | exact Or.inr ⟨rfl, fun q => by rcases hp58 with z | z; exact q.2.2.2.2 z.2; omega⟩
                | exact Or.inl ⟨rfl, hr.1, c30, by omega, by omega, by rcases hp58 with z | z; omega; exact z.2⟩
              · rw [up_ne (by decide), up_ne (by decide)]; exact hR
        · refine k_iconst C dX11_tree_64 ?_
          refine k_goto C (tgt := 69) dX11_tree_65 rfl ?_
          refine k_zastore C rfl (by decide) (by decide) ⟨by omega, by omega⟩ (by omega) dX11_tree_69 ?_
          refine k_aload_n C dX11_tree_70 rfl rfl ?_
          refine k_getR C (j := 8) okC11 rfl (by decide) (by decide) rfl flX11_26 dX11_tree_71 ?_
          refine k_iload_n C dX11_tree_74 rfl rfl ?_
          refine k_aload_n C dX11_tree_75 rfl rfl ?_
          refine k_getR C (j := 6) okC11 rfl (by decide) (by decide) rfl flX11_23 dX11_tree_76 ?_
          refine k_iload_n C dX11_tree_79 rfl rfl ?_
          refine k_zaload C rfl (by decide) (by decide) ⟨by omega, by omega⟩ dX11_tree_80 (fun ld80 => ?_)
          rw [up_ne (show (5 : Nat) ≠ 7 by decide), n5]
          refine k_if_eq C (tgt := 101) dX11_tree_81 rfl (by omega) (fun c81 => ?_) (fun c81 => ?_)
          · refine k_iconst C dX11_tree_101 ?_
            refine k_iastore C rfl (by decide) (by decide) ⟨by omega, by omega⟩ (by omega) dX11_tree_102 ?_
            refine k_iconst C dX11_tree_103 ?_
            refine k_istore_n C dX11_tree_104 rfl (by decide) ?_
            refine k_iconst C dX11_tree_105 ?_
            refine k_istore C dX11_tree_106 (by decide) ?_
            refine k_cut2 C (lv' := [(0, _), (1, _), (2, _), (3, _), (4, _)]) ⟨rfl, rfl, rfl, rfl, rfl, trivial⟩ ?_
            refine m_tin bl M hB C _ ((hF.u (by decide)).u (by decide)) r m 0 ⟨hr.1, c30⟩ ?_ ?_ ?_ (by omega) (by omega) ?_ 0 rfl (fun N2 m2 z1 z2 z3 z4 => m_trows bl M hB C N2 z1 (r + 1) m2 (by omega) z2 z3 z4)
            · intro x p q
              rw [up_at, if_neg (by omega), up_ne (show (6 : Nat) ≠ 7 by decide), up_ne (show (7 : Nat) ≠ 6 by decide), up_at, if_neg (by omega)]
              exact hA x p q
            · first | exact up_same | (rw [up_same]; unfold cuM cutN; rw [iteP_neg (by omega)])
            · rw [up_ne (show (7 : Nat) ≠ 6 by decide), up_same]
              first
              | exact Or.inr ⟨rfl, fun q => by have q1 := q.2.2.1; have q2 := q.2.2.2.1; omega⟩
              | exact Or.inr ⟨rfl, fun q => by rcases hp58 with z | z; exact q.2.2.2.2 z.2; omega⟩
              | exact Or.inl ⟨rfl, hr.1, c30, by omega, by omega, by rcases hp58 with z | z; omega; exact z.2⟩
            · rw [up_ne (by decide), up_ne (by decide)]; exact hR
          · refine k_aload_n C dX11_tree_84 rfl rfl ?_
            refine k_getR C (j := 5) okC11 rfl (by decide) (by decide) rfl flX11_19 dX11_tree_85 ?_
            refine k_iload_n C dX11_tree_88 rfl rfl ?_
            refine k_zaload C rfl (by decide) (by decide) ⟨by omega, by omega⟩ dX11_tree_89 (fun ld89 => ?_)
            rw [up_ne (show (4 : Nat) ≠ 7 by decide), n4]
            refine k_if_eq C (tgt := 101) dX11_tree_90 rfl (by omega) (fun c90 => ?_) (fun c90 => ?_)
            · refine k_iconst C dX11_tree_101 ?_
              refine k_iastore C rfl (by decide) (by decide) ⟨by omega, by omega⟩ (by omega) dX11_tree_102 ?_
              refine k_iconst C dX11_tree_103 ?_
              refine k_istore_n C dX11_tree_104 rfl (by decide) ?_
              refine k_iconst C dX11_tree_105 ?_
              refine k_istore C dX11_tree_106 (by decide) ?_
              refine k_cut2 C (lv' := [(0, _), (1, _), (2, _), (3, _), (4, _)]) ⟨rfl, rfl, rfl, rfl, rfl, trivial⟩ ?_
              refine m_tin bl M hB C _ ((hF.u (by decide)).u (by decide)) r m 0 ⟨hr.1, c30⟩ ?_ ?_ ?_ (by omega) (by omega) ?_ 0 rfl (fun N2 m2 z1 z2 z3 z4 => m_trows bl M hB C N2 z1 (r + 1) m2 (by omega) z2 z3 z4)
              · intro x p q
                rw [up_at, if_neg (by omega), up_ne (show (6 : Nat) ≠ 7 by decide), up_ne (show (7 : Nat) ≠ 6 by decide), up_at, if_neg (by omega)]
                exact hA x p q
              · first | exact up_same | (rw [up_same]; unfold cuM cutN; rw [iteP_neg (by omega)])
              · rw [up_ne (show (7 : Nat) ≠ 6 by decide), up_same]
                first
                | exact Or.inr ⟨rfl, fun q => by have q1 := q.2.2.1; have q2 := q.2.2.2.1; omega⟩
                | exact Or.inr ⟨rfl, fun q => by rcases hp58 with z | z; exact q.2.2.2.2 z.2; omega⟩
                | exact Or.inl ⟨rfl, hr.1, c30, by omega, by omega, by rcases hp58 with z | z; omega; exact z.2⟩
              · rw [up_ne (by decide), up_ne (by decide)]; exact hR
            · refine k_aload_n C dX11_tree_93 rfl rfl ?_
              refine k_iload_n C dX11_tree_94 rfl rfl ?_
              refine k_callV C okX11_157 dX11_tree_95 (c_M_cutOf bl _ ((hF.u (by decide)).bk hB) r (by rw [up_ne (by decide)]; omega)) rfl rfl (by decide) rfl (by decide) rfl (Nat.le_of_ble_eq_true rfl) (fun r95 M95 hr95 hp95 => ?_)
              obtain ⟨rfl, hp95⟩ := hp95
              rw [up_ne (show (0 : Nat) ≠ 7 by decide), up_ne (show (3 : Nat) ≠ 7 by decide), up_ne (show (4 : Nat) ≠ 7 by decide), up_ne (show (5 : Nat) ≠ 7 by decide), up_ne (show (2 : Nat) ≠ 7 by decide), n0, n2, n3, n4, n5] at hp95
              have ecut : r95 = cuM M r := by rw [hp95]; unfold cuM cutN; rw [iteP_pos (by omega)]
              subst ecut
              refine k_goto C (tgt := 102) dX11_tree_98 rfl ?_
              refine k_iastore C rfl (by decide) (by decide) ⟨by omega, by omega⟩ (by omega) dX11_tree_102 ?_
              refine k_iconst C dX11_tree_103 ?_
              refine k_istore_n C dX11_tree_104 rfl (by decide) ?_
              refine k_iconst C dX11_tree_105 ?_
              refine k_istore C dX11_tree_106 (by decide) ?_
              refine k_cut2 C (lv' := [(0, _), (1, _), (2, _), (3, _), (4, _)]) ⟨rfl, rfl, rfl, rfl, rfl, trivial⟩ ?_
              refine m_tin bl M hB C _ ((hF.u (by decide)).u (by decide)) r m 0 ⟨hr.1, c30⟩ ?_ ?_ ?_ (by omega) (by omega) ?_ 0 rfl (fun N2 m2 z1 z2 z3 z4 => m_trows bl M hB C N2 z1 (r + 1) m2 (by omega) z2 z3 z4)
              · intro x p q
                rw [up_at, if_neg (by omega), up_ne (show (6 : Nat) ≠ 7 by decide), up_ne (show (7 : Nat) ≠ 6 by decide), up_at, if_neg (by omega)]
                exact hA x p q
              · first | exact up_same | (rw [up_same]; unfold cuM cutN; rw [iteP_neg (by omega)])
              · rw [up_ne (show (7 : Nat) ≠ 6 by decide), up_same]
                first
                | exact Or.inr ⟨rfl, fun q => by have q1 := q.2.2.1; have q2 := q.2.2.2.1; omega⟩
                | exact Or.inr ⟨rfl, fun q => by rcases hp58 with z | z; exact q.2.2.2.2 z.2; omega⟩
                | exact Or.inl ⟨rfl, hr.1, c30, by omega, by omega, by rcases hp58 with z | z; omega; exact z.2⟩
              · rw [up_ne (by decide), up_ne (by decide)]; exact hR
termination_by (M 0 7 - r).toNat
decreasing_by all_goals omega
set_option maxHeartbeats 4000000 in
set_option maxRecDepth 100000 in
theorem m_traw {K : Kt} (bl : Nat) (M : Mem) (hB : BkM M) (C : Ctx (shM bl) nM RX11 cX11_tree 7 none (lvl 2) (fun _ M' => TrP M M') K) (N : Mem) (hF : TF M N) (x : Int) (hx : 0 ≤ x ∧ x ≤ 8) (hI : ∀ c, 0 ≤ c → c < x → N 11 c = -1) : K 4 [(0, .inr 0), (1, .inl 1), (2, .inl x)] [] N := by
  have b1 := hB.1
  refine k_iload_n C dX11_tree_4 rfl rfl ?_
  refine k_bipush C dX11_tree_5 (by decide) ?_
  refine k_icmp_ge C (tgt := 23) dX11_tree_7 rfl (by omega) (by omega) (fun c7 => ?_) (fun c7 => ?_)
  · refine k_iconst C dX11_tree_23 ?_
    refine k_istore_n C dX11_tree_24 rfl (by decide) ?_
    refine k_cut2 C (lv' := [(0, _), (1, _), (2, _)]) ⟨rfl, rfl, rfl, trivial⟩ ?_
    exact m_trows bl M hB C N hF 0 1 (by omega) (fun x p q => by omega) (by omega) (RwI_0 (fun c p q => hI c p (by omega)))
  · refine k_aload_n C dX11_tree_10 rfl rfl ?_
    refine k_getR C (j := 14) okC11 rfl (by decide) (by decide) rfl flX11_41 dX11_tree_11 ?_
    refine k_iload_n C dX11_tree_14 rfl rfl ?_
    refine k_iconst C dX11_tree_15 ?_
    refine k_iastore C rfl (by decide) (by decide) ⟨by omega, by omega⟩ (by omega) dX11_tree_16 ?_
    refine k_iinc C dX11_tree_17 (by decide) rfl ?_
    refine k_goto C (tgt := 4) dX11_tree_20 rfl ?_
    refine k_cut2 C (lv' := [(0, _), (1, _), (2, _)]) ⟨rfl, rfl, rfl, trivial⟩ ?_
    refine m_traw bl M hB C _ (hF.u (by decide)) (x + 1) (by omega) (fun c p q => ?_)
    rw [up_at]
    by_cases e : c = x
    · rw [if_pos e]
    · rw [if_neg e]; exact hI c p (by omega)
termination_by (8 - x).toNat
decreasing_by all_goals omega
set_option maxHeartbeats 4000000 in
set_option maxRecDepth 100000 in
theorem c_M_tree (bl : Nat) (M : Mem) (hB : BkM M) : Ct (shM bl) nM yX11_tree cX11_tree 7 none (lvl 2) [.inr 0] M (fun _ M' => TrP M M') := by
  refine Ct_of (by decide +kernel) (Nat.le_of_ble_eq_true rfl) (fun K C => ?_)
  refine k_iconst C dX11_tree_0 ?_
  refine k_istore_n C dX11_tree_1 rfl (by decide) ?_
  refine k_iconst C dX11_tree_2 ?_
  refine k_istore_n C dX11_tree_3 rfl (by decide) ?_
  refine k_cut2 C (lv' := [(0, _), (1, _), (2, _)]) ⟨rfl, rfl, rfl, trivial⟩ ?_
  exact m_traw bl M hB C M ⟨fun _ _ _ _ _ _ _ _ _ => rfl, fun _ _ => rfl⟩ 0 (by omega) (fun c p q => by omega)
