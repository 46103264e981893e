/-! THE REFERENCE: mend. hand 1, lawStep 19, costs 35, made 36; handMany (0, 2), lawMany (0, 25) -/
abbrev LwM (M : Mem) : Prop := okN2 (M 0 25) (M 19)
def HdM (M : Mem) : Prop := 0 ≤ M 0 2 ∧ M 0 2 ≤ 12 ∧ ∀ i, 0 ≤ i → i < M 0 2 → 0 ≤ M 1 i ∧ M 1 i < 8
def mrow (M : Mem) (a : Int) : Int → Int := fun s => M 35 (30 * a + s)
theorem mrow_up {N : Mem} {a s0 v s : Int} : mrow (up N 35 (30 * a + s0) v) a s = if s = s0 then v else mrow N a s := by
  unfold mrow; rw [up_at]
  by_cases h : s = s0
  · rw [if_pos h, if_pos (by omega)]
  · rw [if_neg h, if_neg (by omega)]
abbrev COkM (M N : Mem) (i0 : Int) : Prop := COk (M 0 25) (M 19) (M 1) (M 0 2) i0 (mrow N)
def RMI (M N : Mem) (i0 : Int) : Prop := (∀ j, j ≠ 35 → N j = M j) ∧ COkM M N i0
theorem RMI_tr {M N N' : Mem} {i0 : Int} (hL : LwM M) (hH : HdM M) (h0 : 0 ≤ i0) (h1 : i0 ≤ M 0 2) (h : RMI M N i0) (hf : ∀ j, j ≠ 35 → N' j = N j) (he : ∀ i, 30 * i0 ≤ i → N' 35 i = N 35 i) : RMI M N' i0 :=
  ⟨fun j hj => by rw [hf j hj, h.1 j hj], COk_cg hL hH.2.2 h0 h1 (fun i s a b c d => he _ (by omega)) h.2⟩
def LpM (M N : Mem) (ini f : Int → Int) (a k s c b : Int) : Prop := RMI M N (a + 1) ∧ PsI (M 0 25) (M 19) f (mrow N a) k s c ∧ LBd (M 0 25) (M 19) ini (mrow N a) ∧ (b = 0 ∨ b = 1) ∧ (b = 0 → ∀ s, 0 ≤ s → s < M 0 25 → mrow N a s = f s) ∧ (b = 1 → k ≤ 10)
def MendM (M : Mem) (hn : Int) (hd : Int → Int) (r : Int) : Prop := ∃ cost : Int → Int → Int, COk (M 0 25) (M 19) (M 1) (M 0 2) 0 cost ∧
  ((12 < (wlk (M 19) (M 1) cost (M 0 2) 24).2.2.1 ∧ r = -1 ∧ hn = M 0 2 ∧ hd = M 1) ∨ ((wlk (M 19) (M 1) cost (M 0 2) 24).2.2.1 ≤ 12 ∧ r = cost 0 0 ∧ hn = (wlk (M 19) (M 1) cost (M 0 2) 24).2.2.1 ∧ hd = fun j => if 0 ≤ j ∧ j < (wlk (M 19) (M 1) cost (M 0 2) 24).2.2.1 then (wlk (M 19) (M 1) cost (M 0 2) 24).2.2.2 j else M 1 j))
set_option maxRecDepth 100000 in
theorem m_pass2 {K : Kt} (bl : Nat) (M : Mem) (hL : LwM M) (hH : HdM M) (C : Ctx (shM bl) nM RX11 cX11_mend 8 (some .int) (lvl 0) (fun r M' => (∀ j, j ≠ 0 → j ≠ 1 → j ≠ 35 → j ≠ 36 → M' j = M j) ∧ (∀ i, i ≠ 2 → M' 0 i = M 0 i) ∧ MendM M (M' 0 2) (M' 1) r) K) (a : Int) (ha : 0 ≤ a ∧ a < M 0 2) (ini f : Int → Int) (k : Int) (hr : rw12 (M 0 25) f) (hU : Uk (M 0 25) (M 19) f k) (s : Int) (hs : 0 ≤ s ∧ s < M 0 25) (kk : ∀ (N : Mem) (b : Int), LpM M N ini f a k (s + 1) 0 b → K 267 [(0, .inr 0), (1, .inl (M 0 2)), (2, .inl a), (3, .inl b), (4, .inl s)] [] N) (N : Mem) (b c : Int) (hc : 0 ≤ c ∧ c ≤ 8) (hP : LpM M N ini f a k s c b) : K 174 [(0, .inr 0), (1, .inl (M 0 2)), (2, .inl a), (3, .inl b), (4, .inl s), (5, .inl c)] [] N := by
  have l1 := hL.1; have l2 := hL.2.1; have h1 := hH.1; have h2 := hH.2.1
  have hI := hP.1
  have e0 := hI.1 0 (by decide); have e19 := hI.1 19 (by decide); have e1 := hI.1 1 (by decide)
  have p1 := hP.2.1.1; have hb := hP.2.2.2.1
  have rg : ∀ t, 0 ≤ t → t < M 0 25 → 0 ≤ N 35 (30 * a + t) ∧ N 35 (30 * a + t) ≤ 12 := fun t z1 z2 => by have q1 := p1 t z1 z2; have q2 := hr t z1 z2; unfold mrow at q1; omega
  have rs := rg s hs.1 hs.2
  refine k_iload C dX11_mend_174 rfl ?_
  refine k_bipush C dX11_mend_176 (by decide) ?_
  refine k_icmp_ge C (tgt := 267) dX11_mend_178 rfl (by omega) (by omega) (fun c178 => ?_) (fun c178 => ?_)
  · refine k_cut2 C (lv' := [(0, _), (1, _), (2, _), (3, _), (4, _)]) ⟨rfl, rfl, rfl, rfl, rfl, trivial⟩ ?_
    exact kk N b ⟨hI, PsI_n (by rw [show (8 : Int) = c by omega]; exact hP.2.1), hP.2.2⟩
  · have hto := hL.2.2 s c hs.1 hs.2 hc.1 (by omega)
    refine k_aload_n C dX11_mend_181 rfl rfl ?_
    refine k_getR C (j := 23) okC11 rfl (by decide) (by decide) rfl flX11_65 dX11_mend_182 ?_
    refine k_bipush C dX11_mend_185 (by decide) ?_
    refine k_iload C dX11_mend_187 rfl ?_
    refine k_imul C dX11_mend_189 ?_
    refine k_iload C dX11_mend_190 rfl ?_
    refine k_iadd C dX11_mend_192 ?_
    refine k_iaload C rfl (by decide) (by decide) ⟨by omega, by omega⟩ dX11_mend_193 (fun _ => ?_)
    rw [e19]
    refine k_istore C dX11_mend_194 (by decide) ?_
    refine k_iload C dX11_mend_196 rfl ?_
    refine k_if_lt C (tgt := 261) dX11_mend_198 rfl (by omega) (fun c198 => ?_) (fun c198 => ?_)
    · refine k_iinc C dX11_mend_261 (by decide) rfl ?_
      refine k_goto C (tgt := 174) dX11_mend_264 rfl ?_
      refine k_cut2 C (lv' := [(0, _), (1, _), (2, _), (3, _), (4, _), (5, _)]) ⟨rfl, rfl, rfl, rfl, rfl, rfl, trivial⟩ ?_
      first
      | (exfalso; omega)
      | (have hnew : k ≤ N 35 (30 * a + M 19 (8 * s + c)) := by
           rcases hP.2.1.2.1 (M 19 (8 * s + c)) c198 hto.2 with z | z
           · have z2 := hU s c hs.1 hs.2 hc.1 (by omega) c198; unfold mrow at z; have z3 := p1 s hs.1 hs.2; unfold mrow at z3; omega
           · unfold mrow at z; omega
         refine m_pass2 bl M hL hH C a ha ini f k hr hU s hs kk _ 1 (c + 1) (by omega) ⟨RMI_tr hL hH (by omega) (by omega) hI (fun j z => up_ne z) (fun i z => by rw [up_at, if_neg (by omega)]), PsI_s hL hP.2.1 hU hs (by omega) c198 c227 (fun t _ _ => mrow_up), LBd_s hP.2.2.1 hL hs (by omega) c198 (fun t _ _ => mrow_up), Or.inr rfl, fun z => by omega, fun _ => by omega⟩)
      | (refine m_pass2 bl M hL hH C a ha ini f k hr hU s hs kk N b (c + 1) (by omega) ⟨hI, PsI_k hP.2.1 (fun z => ?_), hP.2.2⟩
         unfold mrow
         omega)
    · have rt := rg (M 19 (8 * s + c)) (by omega) hto.2
      refine k_iconst C dX11_mend_201 ?_
      refine k_aload_n C dX11_mend_202 rfl rfl ?_
      refine k_getR C (j := 51) okC11 rfl (by decide) (by decide) rfl flX11_114 dX11_mend_203 ?_
      refine k_bipush C dX11_mend_206 (by decide) ?_
      refine k_iload_n C dX11_mend_208 rfl rfl ?_
      refine k_imul C dX11_mend_209 ?_
      refine k_iload C dX11_mend_210 rfl ?_
      refine k_iadd C dX11_mend_212 ?_
      refine k_iaload C rfl (by decide) (by decide) ⟨by omega, by omega⟩ dX11_mend_213 (fun _ => ?_)
      refine k_iadd C dX11_mend_214 ?_
      refine k_aload_n C dX11_mend_215 rfl rfl ?_
      refine k_getR C (j := 51) okC11 rfl (by decide) (by decide) rfl flX11_114 dX11_mend_216 ?_
      refine k_bipush C dX11_mend_219 (by decide) ?_
      refine k_iload_n C dX11_mend_221 rfl rfl ?_
      refine k_imul C dX11_mend_222 ?_
      refine k_iload C dX11_mend_223 rfl ?_
      refine k_iadd C dX11_mend_225 ?_
      refine k_iaload C rfl (by decide) (by decide) ⟨by omega, by omega⟩ dX11_mend_226 (fun _ => ?_)
      refine k_icmp_lt C (tgt := 233) dX11_mend_227 rfl (by omega) (by omega) (fun c227 => ?_) (fun c227 => ?_)
      · refine k_aload_n C dX11_mend_233 rfl rfl ?_
        refine k_getR C (j := 51) okC11 rfl (by decide) (by decide) rfl flX11_114 dX11_mend_234 ?_
        refine k_bipush C dX11_mend_237 (by decide) ?_
        refine k_iload_n C dX11_mend_239 rfl rfl ?_
        refine k_imul C dX11_mend_240 ?_
        refine k_iload C dX11_mend_241 rfl ?_
        refine k_iadd C dX11_mend_243 ?_
        refine k_iconst C dX11_mend_244 ?_
        refine k_aload_n C dX11_mend_245 rfl rfl ?_
        refine k_getR C (j := 51) okC11 rfl (by decide) (by decide) rfl flX11_114 dX11_mend_246 ?_
        refine k_bipush C dX11_mend_249 (by decide) ?_
        refine k_iload_n C dX11_mend_251 rfl rfl ?_
        refine k_imul C dX11_mend_252 ?_
        refine k_iload C dX11_mend_253 rfl ?_
        refine k_iadd C dX11_mend_255 ?_
        refine k_iaload C rfl (by decide) (by decide) ⟨by omega, by omega⟩ dX11_mend_256 (fun _ => ?_)
        refine k_iadd C dX11_mend_257 ?_
        refine k_iastore C rfl (by decide) (by decide) ⟨by omega, by omega⟩ (by omega) dX11_mend_258 ?_
        refine k_iconst C dX11_mend_259 ?_
        refine k_istore_n C dX11_mend_260 rfl (by decide) ?_
        refine k_iinc C dX11_mend_261 (by decide) rfl ?_
        refine k_goto C (tgt := 174) dX11_mend_264 rfl ?_
        refine k_cut2 C (lv' := [(0, _), (1, _), (2, _), (3, _), (4, _), (5, _)]) ⟨rfl, rfl, rfl, rfl, rfl, rfl, trivial⟩ ?_
        first
        | (exfalso; omega)
        | (have hnew : k ≤ N 35 (30 * a + M 19 (8 * s + c)) := by
             rcases hP.2.1.2.1 (M 19 (8 * s + c)) c198 hto.2 with z | z
             · have z2 := hU s c hs.1 hs.2 hc.1 (by omega) c198; unfold mrow at z; have z3 := p1 s hs.1 hs.2; unfold mrow at z3; omega
             · unfold mrow at z; omega
           refine m_pass2 bl M hL hH C a ha ini f k hr hU s hs kk _ 1 (c + 1) (by omega) ⟨RMI_tr hL hH (by omega) (by omega) hI (fun j z => up_ne z) (fun i z => by rw [up_at, if_neg (by omega)]), PsI_s hL hP.2.1 hU hs (by omega) c198 c227 (fun t _ _ => mrow_up), LBd_s hP.2.2.1 hL hs (by omega) c198 (fun t _ _ => mrow_up), Or.inr rfl, fun z => by omega, fun _ => by omega⟩)
        | (refine m_pass2 bl M hL hH C a ha ini f k hr hU s hs kk N b (c + 1) (by omega) ⟨hI, PsI_k hP.2.1 (fun z => ?_), hP.2.2⟩
           unfold mrow
           omega)
      · refine k_goto C (tgt := 261) dX11_mend_230 rfl ?_
        refine k_iinc C dX11_mend_261 (by decide) rfl ?_
        refine k_goto C (tgt := 174) dX11_mend_264 rfl ?_
        refine k_cut2 C (lv' := [(0, _), (1, _), (2, _), (3, _), (4, _), (5, _)]) ⟨rfl, rfl, rfl, rfl, rfl, rfl, trivial⟩ ?_
        first
        | (exfalso; omega)
        | (have hnew : k ≤ N 35 (30 * a + M 19 (8 * s + c)) := by
             rcases hP.2.1.2.1 (M 19 (8 * s + c)) c198 hto.2 with z | z
             · have z2 := hU s c hs.1 hs.2 hc.1 (by omega) c198; unfold mrow at z; have z3 := p1 s hs.1 hs.2; unfold mrow at z3; omega
             · unfold mrow at z; omega
           refine m_pass2 bl M hL hH C a ha ini f k hr hU s hs kk _ 1 (c + 1) (by omega) ⟨RMI_tr hL hH (by omega) (by omega) hI (fun j z => up_ne z) (fun i z => by rw [up_at, if_neg (by omega)]), PsI_s hL hP.2.1 hU hs (by omega) c198 c227 (fun t _ _ => mrow_up), LBd_s hP.2.2.1 hL hs (by omega) c198 (fun t _ _ => mrow_up), Or.inr rfl, fun z => by omega, fun _ => by omega⟩)
        | (refine m_pass2 bl M hL hH C a ha ini f k hr hU s hs kk N b (c + 1) (by omega) ⟨hI, PsI_k hP.2.1 (fun z => ?_), hP.2.2⟩
           unfold mrow
           omega)
termination_by (8 - c).toNat
decreasing_by all_goals omega
set_option maxRecDepth 100000 in
theorem m_pass1 {K : Kt} (bl : Nat) (M : Mem) (hL : LwM M) (hH : HdM M) (C : Ctx (shM bl) nM RX11 cX11_mend 8 (some .int) (lvl 0) (fun r M' => (∀ j, j ≠ 0 → j ≠ 1 → j ≠ 35 → j ≠ 36 → M' j = M j) ∧ (∀ i, i ≠ 2 → M' 0 i = M 0 i) ∧ MendM M (M' 0 2) (M' 1) r) K) (a : Int) (ha : 0 ≤ a ∧ a < M 0 2) (ini f : Int → Int) (k : Int) (hr : rw12 (M 0 25) f) (hU : Uk (M 0 25) (M 19) f k) (kk : ∀ (N : Mem) (b : Int), LpM M N ini f a k (M 0 25) 0 b → K 153 [(0, .inr 0), (1, .inl (M 0 2)), (2, .inl a), (3, .inl b)] [] N) (N : Mem) (b s : Int) (hs : 0 ≤ s ∧ s ≤ M 0 25) (hP : LpM M N ini f a k s 0 b) : K 162 [(0, .inr 0), (1, .inl (M 0 2)), (2, .inl a), (3, .inl b), (4, .inl s)] [] N := by
  have l1 := hL.1; have l2 := hL.2.1; have h1 := hH.1; have h2 := hH.2.1
  have hI := hP.1
  have e0 := hI.1 0 (by decide); have e19 := hI.1 19 (by decide); have e1 := hI.1 1 (by decide)
  refine k_iload C dX11_mend_162 rfl ?_
  refine k_aload_n C dX11_mend_164 rfl rfl ?_
  refine k_getJ C 25 25 rfl okC11 rfl (by decide) (by decide) rfl flX11_126 dX11_mend_165 (fun _ => ?_)
  rw [e0]
  refine k_icmp_ge C (tgt := 273) dX11_mend_168 rfl (by omega) (by omega) (fun c168 => ?_) (fun c168 => ?_)
  · refine k_goto C (tgt := 153) dX11_mend_273 rfl ?_
    refine k_cut2 C (lv' := [(0, _), (1, _), (2, _), (3, _)]) ⟨rfl, rfl, rfl, rfl, trivial⟩ ?_
    exact kk N b (by rw [show M 0 25 = s by omega]; exact hP)
  · refine k_iconst C dX11_mend_171 ?_
    refine k_istore C dX11_mend_172 (by decide) ?_
    refine k_cut2 C (lv' := [(0, _), (1, _), (2, _), (3, _), (4, _), (5, _)]) ⟨rfl, rfl, rfl, rfl, rfl, rfl, trivial⟩ ?_
    refine m_pass2 bl M hL hH C a ha ini f k hr hU s (by omega) (fun N2 b2 h => ?_) N b 0 (by omega) hP
    refine k_iinc C dX11_mend_267 (by decide) rfl ?_
    refine k_goto C (tgt := 162) dX11_mend_270 rfl ?_
    refine k_cut2 C (lv' := [(0, _), (1, _), (2, _), (3, _), (4, _)]) ⟨rfl, rfl, rfl, rfl, rfl, trivial⟩ ?_
    exact m_pass1 bl M hL hH C a ha ini f k hr hU kk N2 b2 (s + 1) (by omega) h
termination_by (M 0 25 - s).toNat
decreasing_by all_goals omega
/-- two tables that are right from i0 on agree there -/
theorem COk_one2 {ls : Int} {nx hd : Int → Int} {n i0 : Int} {cost cost' : Int → Int → Int} (hn : okN2 ls nx) (hh : ∀ i, 0 ≤ i → i < n → 0 ≤ hd i ∧ hd i < 8) (h0 : 0 ≤ i0) (h : COk ls nx hd n i0 cost) (h' : COk ls nx hd n i0 cost') : ∀ (m : Nat) (i s : Int), i0 ≤ i → i ≤ n → n - i = m → 0 ≤ s → s < ls → cost i s = cost' i s := by
  intro m
  induction m with
  | zero => intro i s a b c d e; rw [show i = n by omega, h.1 s d e, h'.1 s d e]
  | succ m ih =>
    intro i s a b c d e
    refine MS_one (h.2.1 i a (by omega)) ?_ s d e
    exact MS_cg hn (fun _ _ _ => rfl) (ini1_cg hn (fun t h1 h2 => ih (i + 1) t (by omega) (by omega) (by omega) h1 h2) (hh i (by omega) (by omega))) (h'.2.1 i a (by omega))
theorem RMI_one {M N N' : Mem} {i0 t : Int} (hL : LwM M) (hH : HdM M) (h : RMI M N i0) (h' : RMI M N' i0) (h0 : 0 ≤ i0) (h1 : i0 ≤ M 0 2) (z1 : 0 ≤ t) (z2 : t < M 0 25) : mrow N i0 t = mrow N' i0 t :=
  COk_one2 hL hH.2.2 h0 h.2 h'.2 (M 0 2 - i0).toNat i0 t (Int.le_refl _) h1 (by omega) z1 z2
set_option maxRecDepth 100000 in
theorem m_rounds {K : Kt} (bl : Nat) (M : Mem) (hL : LwM M) (hH : HdM M) (C : Ctx (shM bl) nM RX11 cX11_mend 8 (some .int) (lvl 0) (fun r M' => (∀ j, j ≠ 0 → j ≠ 1 → j ≠ 35 → j ≠ 36 → M' j = M j) ∧ (∀ i, i ≠ 2 → M' 0 i = M 0 i) ∧ MendM M (M' 0 2) (M' 1) r) K) (a : Int) (ha : 0 ≤ a ∧ a < M 0 2) (ini : Int → Int) (kk : ∀ N : Mem, RMI M N a → K 276 [(0, .inr 0), (1, .inl (M 0 2)), (2, .inl a)] [] N) (N : Mem) (hI : RMI M N (a + 1)) (hini : ∀ s, 0 ≤ s → s < M 0 25 → ini s = ini1 (M 19) (mrow N (a + 1)) (M 1 a) s) (b k : Int) (hk : 0 ≤ k ∧ (b = 1 → k ≤ 11)) (hr : rw12 (M 0 25) (mrow N a)) (hle : ∀ s, 0 ≤ s → s < M 0 25 → mrow N a s ≤ ini s) (hU : Uk (M 0 25) (M 19) (mrow N a) k) (hB : LBd (M 0 25) (M 19) ini (mrow N a)) (hb : (b = 0 ∨ b = 1) ∧ (b = 0 → stb (M 0 25) (M 19) (mrow N a))) : K 153 [(0, .inr 0), (1, .inl (M 0 2)), (2, .inl a), (3, .inl b)] [] N := by
  have l1 := hL.1; have l2 := hL.2.1; have h1 := hH.1; have h2 := hH.2.1
  have e0 := hI.1 0 (by decide); have e19 := hI.1 19 (by decide); have e1 := hI.1 1 (by decide)
  have hb1 := hb.1
  have fin : stb (M 0 25) (M 19) (mrow N a) → RMI M N a := fun hst => by
    refine ⟨hI.1, hI.2.1, fun i q1 q2 => ?_, fun i s q1 q2 q3 q4 => ?_⟩
    · by_cases e : i = a
      · subst e; exact MS_cg hL (fun _ _ _ => rfl) (fun s z1 z2 => (hini s z1 z2).symm) ⟨hle, hst, hB⟩
      · exact hI.2.2.1 i (by omega) q2
    · by_cases e : i = a
      · subst e
        have z1 := hr s q3 q4; have z2 := hle s q3 q4; have z3 := hini s q3 q4
        have z4 := hI.2.2.2 (i + 1) s (by omega) (by omega) q3 q4
        have z5 : ini1 (M 19) (mrow N (i + 1)) (M 1 i) s ≤ 1 + mrow N (i + 1) s := by
          unfold ini1
          by_cases q : 0 ≤ M 19 (8 * s + M 1 i) ∧ mrow N (i + 1) (M 19 (8 * s + M 1 i)) < 1 + mrow N (i + 1) s
          · rw [iteP_pos q]; omega
          · rw [iteP_neg q]; omega
        omega
      · exact hI.2.2.2 i s (by omega) q2 q3 q4
  refine k_iload_n C dX11_mend_153 rfl rfl ?_
  refine k_if_eq C (tgt := 276) dX11_mend_154 rfl (by omega) (fun c154 => ?_) (fun c154 => ?_)
  · refine k_cut2 C (lv' := [(0, _), (1, _), (2, _)]) ⟨rfl, rfl, rfl, trivial⟩ ?_
    exact kk N (fin (hb.2 (by omega)))
  · refine k_iconst C dX11_mend_157 ?_
    refine k_istore_n C dX11_mend_158 rfl (by decide) ?_
    refine k_iconst C dX11_mend_159 ?_
    refine k_istore C dX11_mend_160 (by decide) ?_
    refine k_cut2 C (lv' := [(0, _), (1, _), (2, _), (3, _), (4, _)]) ⟨rfl, rfl, rfl, rfl, rfl, trivial⟩ ?_
    refine m_pass1 bl M hL hH C a ha ini (mrow N a) k hr hU (fun N2 b2 h => ?_) N 0 0 (by omega) ⟨hI, PsI_0 hr, hB, Or.inl rfl, fun _ _ _ _ => rfl, fun z => by omega⟩
    have p1 := h.2.1.1
    refine m_rounds bl M hL hH C a ha ini kk N2 h.1 (fun s q1 q2 => ?_) b2 (k + 1) ⟨by omega, fun z => by have := h.2.2.2.2.2 z; omega⟩ (fun s q1 q2 => ?_) (fun s q1 q2 => ?_) (PsI_end hL h.2.1) h.2.2.1 ⟨h.2.2.2.1, fun z => ?_⟩
    · rw [hini s q1 q2]
      refine ini1_cg hL (fun t z1 z2 => ?_) (hH.2.2 a ha.1 ha.2) s q1 q2
      exact RMI_one hL hH hI h.1 (by omega) (by omega) z1 z2
    · have z1 := p1 s q1 q2; have z2 := hr s q1 q2; omega
    · have z1 := p1 s q1 q2; have z2 := hle s q1 q2; omega
    · intro s1 c1 a1 a2 a3 a4 a5
      have ht := hL.2.2 s1 c1 a1 a2 a3 a4
      rcases h.2.1.2.2 s1 c1 a1 a2 a3 a4 a5 (Or.inl a2) with y | y
      · exact y
      · exact absurd (h.2.2.2.2.1 z _ a5 ht.2) y
termination_by (14 - k).toNat
decreasing_by all_goals (have := hk.2; omega)
