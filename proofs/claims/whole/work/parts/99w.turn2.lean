/-! THE REFERENCE: hold, a turn up to breaksOn and behind it -/
set_option maxHeartbeats 4000000 in
set_option maxRecDepth 100000 in
theorem gh_a {K : Kt} (bl : Nat) {R : Room} (hR : 1 ≤ R.frames ∧ 200 ≤ R.locals) (C : CtxG (shM bl) 39 RX11 cX11_hold 5 (some .int) R K) (w : List Int) (lf : Nat) {N : Mem} (hI : GI N w (lf + 1)) (s : Int) (es : lst (N 19) w = s) (hs : 0 ≤ s ∧ s < N 0 25) (hT : InT N (Pre (EpN N) (StN N) w)) (kk : ∀ L c, Sm N L → 0 ≤ c ∧ c < 8 → L 0 50 = N 0 50 → L 34 = N 34 → InT L (Pth (EpN L) (StN L) w) → GI L (c :: w) lf → K 212 [(0, .inr 0), (2, .inl s), (3, .inl ((lf + 1 : Nat) : Int)), (4, .inl c)] [] L) : K 184 [(0, .inr 0), (2, .inl s), (3, .inl ((lf + 1 : Nat) : Int))] [] N := by
  obtain ⟨hH, hQ, hE, hG, hn⟩ := id hI
  refine g_iload_n C dX11_hold_184 rfl rfl ?_
  refine g_if_le C (tgt := 237) dX11_hold_185 rfl (by omega) (fun c185 => ?_) (fun c185 => ?_)
  · refine g_cut2 C (lv' := [(0, _)]) ⟨rfl, trivial⟩ ?_
    exfalso; omega
  · refine g_aload_n C dX11_hold_188 rfl rfl ?_
    refine g_callV C okX11_259 dX11_hold_189 (c_M_closes bl N hH (fun q a b => (hT q a b).1)) rfl rfl (by decide) rfl ⟨rfl, rfl, by show 0 + 1 ≤ R.frames; omega, by show 8 + (3 + 11) + 64 * 0 ≤ R.locals; omega⟩ rfl (Nat.le_of_ble_eq_true rfl) (fun r189 M189 hr189 hp189 => ?_)
    refine g_iconst C dX11_hold_192 ?_
    refine g_istore C dX11_hold_193 (by decide) ?_
    refine g_cut2 C (lv' := [(0, _), (2, _), (3, _), (4, _)]) ⟨rfl, rfl, rfl, rfl, trivial⟩ ?_
    have sm : Sm N M189 := ⟨fun j _ _ a _ _ => hp189.1 j a, fun i _ => by rw [hp189.1 0 (by decide)]⟩
    have za := Sm_a sm
    have e0 := hp189.1 0 (by decide)
    have cl := cl_pth hH hQ (fun q a b => (hT q a b).2) (fun q a b => (hp189.2 q a b).2)
    have hT2 : InT M189 (Pth (EpN M189) (StN M189) w) := fun q a b => by
      rw [za.2.2.2.2.2.2.2] at b
      rw [Sm_Ep sm, Sm_St sm]
      exact ⟨(hp189.2 q a b).1, cl q a b⟩
    have hI2 := GI_s sm hI
    refine gh_l bl hR C w lf hI2 s (by rw [za.1]; exact es) (by rw [za.2.2.2.2.2.1]; exact hs) hT2 0 (Int.le_refl _) (fun d d1 d0 => by omega) (fun c c1 c2 c3 => ?_)
    exact kk M189 c sm c1 (by rw [e0]) (hp189.1 34 (by decide)) hT2 ⟨hI2.1, hI2.2.1, hI2.2.2.1, Gw_s hI2.2.2.2.1 c2 c3 St_rg, by omega⟩
set_option maxHeartbeats 4000000 in
set_option maxRecDepth 100000 in
theorem gh_g {K : Kt} (bl : Nat) {R : Room} (hR : 1 ≤ R.frames ∧ 200 ≤ R.locals) (C : CtxG (shM bl) 39 RX11 cX11_hold 5 (some .int) R K) (w : List Int) (lf : Nat) {N : Mem} (c : Int) (hc : 0 ≤ c ∧ c < 8) (hI : GI N (c :: w) lf) (s : Int) (es : lst (N 19) w = s) (hs : 0 ≤ s ∧ s < N 0 25) (hT : InT N (Pth (EpN N) (StN N) w)) (k0 : lf = 0 → K 184 [(0, .inr 0), (2, .inl s), (3, .inl (lf : Int))] [] N) (kk : ∀ L s2, Sm N L → 0 < lf → L 0 50 = N 0 50 → L 34 = N 34 → lst (L 19) (c :: w) = s2 → InT L (Pre (EpN L) (StN L) (c :: w)) → K 184 [(0, .inr 0), (2, .inl s2), (3, .inl (lf : Int))] [] L) : K 218 [(0, .inr 0), (2, .inl s), (3, .inl ((lf + 1 : Nat) : Int)), (4, .inl c)] [] N := by
  obtain ⟨hH, hQ, hE, hG, hn⟩ := id hI
  refine g_iload_n C dX11_hold_218 rfl rfl ?_
  refine g_iconst C dX11_hold_219 ?_
  refine g_icmp_le C (tgt := 231) dX11_hold_220 rfl (by omega) (by omega) (fun c220 => ?_) (fun c220 => ?_)
  · refine g_iinc C dX11_hold_231 (by decide) rfl ?_
    refine g_goto C (tgt := 184) dX11_hold_234 rfl ?_
    refine g_cut2 C (lv' := [(0, _), (2, _), (3, _)]) ⟨rfl, rfl, rfl, trivial⟩ ?_
    rw [show ((lf + 1 : Nat) : Int) + -1 = (lf : Int) by omega]
    exact k0 (by omega)
  · refine g_aload_n C dX11_hold_223 rfl rfl ?_
    refine g_iload C dX11_hold_224 rfl ?_
    refine g_iload_n C dX11_hold_226 rfl rfl ?_
    refine g_callV C okX11_269 dX11_hold_227 (c_M_goesOn bl N hH (fun q a b => (hT q a b).1) c s hc hs) rfl rfl (by decide) rfl ⟨rfl, rfl, by show 0 + 1 ≤ R.frames; omega, by show 8 + (4 + 11) + 64 * 0 ≤ R.locals; omega⟩ rfl (Nat.le_of_ble_eq_true rfl) (fun r227 M227 hr227 hp227 => ?_)
    refine g_istore_n C dX11_hold_230 rfl (by decide) ?_
    refine g_iinc C dX11_hold_231 (by decide) rfl ?_
    refine g_goto C (tgt := 184) dX11_hold_234 rfl ?_
    refine g_cut2 C (lv' := [(0, _), (2, _), (3, _)]) ⟨rfl, rfl, rfl, trivial⟩ ?_
    obtain ⟨g1, g2, g3⟩ := hp227
    have sm : Sm N M227 := ⟨fun j _ _ a b _ => g1 j a b, fun i _ => by rw [g1 0 (by decide) (by decide)]⟩
    have za := Sm_a sm
    have e0 := g1 0 (by decide) (by decide)
    rw [show ((lf + 1 : Nat) : Int) + -1 = (lf : Int) by omega]
    obtain ⟨l1, l2⟩ := gw_lst (lf := lf - 1) hH (w := w) (c := c) (by rw [es]; exact hs) hc (by rw [show lf - 1 + 1 = lf by omega]; exact hG)
    refine kk M227 r227 sm (by omega) (by rw [e0]) (g1 34 (by decide) (by decide)) (by rw [za.1, l1, es, g2]) (fun q a b => ?_)
    rw [za.2.2.2.2.2.2.2] at b
    rw [Sm_Ep sm, Sm_St sm]
    refine ⟨(g3 q a b).1, (g3 q a b).2.trans ?_⟩
    constructor
    · rintro ⟨i, i1, i2, i3, i4⟩
      have fr := (hH.1.2.2 i i1.1 i1.2).1
      exact ⟨N 25 i, ((hT _ fr.1 fr.2).2).1 i3, hc, i, i1.1, i1.2, rfl, i4, i2⟩
    · rintro ⟨p, p1, p2, i, i1, i2, i3⟩
      have pr := Pth_rg hH hQ p1
      exact ⟨i, ⟨i1, i2⟩, i3.2.2, by rw [i3.1]; exact ((hT p pr.1 pr.2).2).2 p1, i3.2.1⟩
