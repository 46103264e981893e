/-! THE REFERENCE: hold, the whole of its last loop -/
/-- how long the array is in the end -/
def gwB (n : Nat) : Nat → Nat → Nat
  | 0, bl => bl
  | f + 1, bl => if n ≤ bl then bl else gwB n f (2 * bl)
theorem gwB_st {n : Nat} : ∀ (f bl : Nat), 1 ≤ bl → n ≤ bl + f → gwB n (f + 1) bl = gwB n f bl
  | 0, bl, h1, h => by show (if n ≤ bl then bl else gwB n 0 (2 * bl)) = bl; rw [if_pos (by omega)]
  | f + 1, bl, h1, h => by
    have ih := gwB_st (n := n) f (2 * bl) (by omega) (by omega)
    show (if n ≤ bl then bl else gwB n (f + 1) (2 * bl)) = (if n ≤ bl then bl else gwB n f (2 * bl))
    rw [ih]
theorem gwC_st {n : Nat} : ∀ (f bl : Nat), 1 ≤ bl → n ≤ bl + f → gwC n (f + 1) bl = gwC n f bl ∧ gwS n (f + 1) bl = gwS n f bl
  | 0, bl, h1, h => ⟨by show (if n ≤ bl then 0 else 1 + gwC n 0 (2 * bl)) = 0; rw [if_pos (by omega)], by show (if n ≤ bl then 0 else 2 * bl + gwS n 0 (2 * bl)) = 0; rw [if_pos (by omega)]⟩
  | f + 1, bl, h1, h => by
    have ih := gwC_st (n := n) f (2 * bl) (by omega) (by omega)
    constructor
    · show (if n ≤ bl then 0 else 1 + gwC n (f + 1) (2 * bl)) = (if n ≤ bl then 0 else 1 + gwC n f (2 * bl))
      rw [ih.1]
    · show (if n ≤ bl then 0 else 2 * bl + gwS n (f + 1) (2 * bl)) = (if n ≤ bl then 0 else 2 * bl + gwS n f (2 * bl))
      rw [ih.2]
theorem WR_cg {f g : Int → Int} : ∀ (w : List Int), (∀ i, 0 ≤ i → i < (w.length : Int) → g i = f i) → WR f w → WR g w
  | [], _, _ => trivial
  | c :: w, h, hw => ⟨by rw [h _ (by omega) (by rw [List.length_cons]; omega)]; exact hw.1, WR_cg w (fun i a b => h i a (by rw [List.length_cons]; omega)) hw.2⟩
theorem BoP_sm {M N : Mem} {c : Int} (h : BoP M N c) : Sm M N := ⟨fun j a b _ _ d => h.1 j a b d, h.2.1⟩
theorem BoP_0 {M : Mem} {c : Int} : BoP M (up (up M 34 (M 0 50) c) 0 50 (M 0 50 + 1)) c := ⟨fun j _ b d => by rw [up_ne b, up_ne d], fun i hi => by rw [up_at, if_neg hi, up_ne (by decide)], up_same, fun i a b => by rw [up_ne (by decide), up_at, if_neg (by omega)], by rw [up_ne (by decide)]; exact up_same⟩
section GW
variable {p : Program} {l : Launch} {e : Env} {s : State} {m : MethodId} {args : Array Value} {below : List Frame} {meth : Method} {cd : Code} {D : va_G} {cI cZ cB : ClassId} {A : Nat → Prop} {R : Room} {Q : State → Prop}
theorem gx_word (F : FX p s m args meth cd D cI cZ cB A RX11 cX11_hold 5 (some .int)) (hR : 1 ≤ R.frames ∧ 200 ≤ R.locals) (a0 cT sT bT : Nat) (hT : cT ≤ R.cells ∧ sT ≤ R.slots) (B : Mem) (n : Nat) (hn : n < 500000)
    (kk : ∀ L bl ad w, bl = bT → ad 0 = a0 → (∀ M, va_D A (wsOf (shM bl) 39 cI cZ cB ad M)) → 1 ≤ bl → Sm B L → GI L w 0 → w.length = n → L 0 50 = (w.length : Int) → WR (L 34) w → KK (shM bl) 39 5 R p l e s m args below meth cd D cI cZ cB ad A cT sT Q 237 [(0, .inr 0)] [] L) :
    ∀ (lf : Nat) (w : List Int) (bl : Nat) (ad : Nat → Nat) (ce sn : Nat) (N : Mem) (z : Int), ad 0 = a0 → (∀ M, va_D A (wsOf (shM bl) 39 cI cZ cB ad M)) → 1 ≤ bl → (bl < 1000000) → w.length ≤ bl → w.length + lf = n → ce + gwC n lf bl = cT → sn + gwS n lf bl = sT → gwB n lf bl = bT → Sm B N → GI N w lf → N 0 50 = (w.length : Int) → WR (N 34) w → (0 < lf → lst (N 19) w = z ∧ (0 ≤ z ∧ z < N 0 25) ∧ InT N (Pre (EpN N) (StN N) w)) →
      KK (shM bl) 39 5 R p l e s m args below meth cd D cI cZ cB ad A ce sn Q 184 [(0, .inr 0), (2, .inl z), (3, .inl (lf : Int))] [] N := by
  intro lf
  induction lf with
  | zero =>
    intro w bl ad ce sn N z h0 hD hb hbm hw hl hc hs hbT hB hI h5 hW _
    have hc : ce = cT := hc
    have hs : sn = sT := hs
    subst hc; subst hs
    have C := F.g (l := l) (e := e) (below := below) (R := R) (Q := Q) hD (ce := ce) (sn := sn) hT
    refine g_iload_n C dX11_hold_184 rfl rfl ?_
    refine g_if_le C (tgt := 237) dX11_hold_185 rfl (by omega) (fun c185 => ?_) (fun c185 => ?_)
    · refine g_cut2 C (lv' := [(0, _)]) ⟨rfl, trivial⟩ ?_
      exact kk N bl ad w hbT h0 hD hb hB hI (by omega) h5 hW
    · exfalso; omega
  | succ lf ih =>
    intro w bl ad ce sn N z h0 hD hb hbm hw hl hc hs hbT hB hI h5 hW hx
    obtain ⟨es, hz, hP⟩ := hx (by omega)
    have C := F.g (l := l) (e := e) (below := below) (R := R) (Q := Q) hD (ce := ce) (sn := sn) ⟨by omega, by omega⟩
    refine gh_a bl hR C w lf hI z es hz hP (fun L c sm hc8 l5 l34 hT2 hI2 => ?_)
    have za := Sm_a sm
    have rest : ∀ (bl2 : Nat) (ad2 : Nat → Nat) (ce2 sn2 : Nat) (X : Mem), ad2 0 = a0 → (∀ M, va_D A (wsOf (shM bl2) 39 cI cZ cB ad2 M)) → 1 ≤ bl2 → bl2 < 1000000 → w.length + 1 ≤ bl2 → ce2 + gwC n lf bl2 = cT → sn2 + gwS n lf bl2 = sT → gwB n lf bl2 = bT → BoP L X c → X 32 = L 32 → KK (shM bl2) 39 5 R p l e s m args below meth cd D cI cZ cB ad2 A ce2 sn2 Q 218 [(0, .inr 0), (2, .inl z), (3, .inl ((lf + 1 : Nat) : Int)), (4, .inl c)] [] X := by
      intro bl2 ad2 ce2 sn2 X a2 D2 b2 bm2 w2 e1 e2 e3 hX x32
      have C2 := F.g (l := l) (e := e) (below := below) (R := R) (Q := Q) D2 (ce := ce2) (sn := sn2) ⟨by omega, by omega⟩
      have sX := BoP_sm hX
      have zX := Sm_a sX
      have x5 : X 0 50 = ((c :: w).length : Int) := by rw [hX.2.2.1, l5, h5, List.length_cons]; omega
      have xW : WR (X 34) (c :: w) := ⟨by rw [← h5, ← l5]; exact hX.2.2.2.2, WR_cg w (fun i a b => by rw [hX.2.2.2.1 i a (by rw [l5, h5]; exact b), l34]) hW⟩
      have hI3 := GI_s sX hI2
      have len : (c :: w).length + lf = n := by rw [List.length_cons]; omega
      have hT3 : InT X (Pth (EpN X) (StN X) w) := fun q a b => by
        rw [zX.2.2.2.2.2.2.2] at b
        rw [Sm_Ep sX, Sm_St sX, x32]; exact hT2 q a b
      refine gh_g bl2 hR C2 w lf c hc8 hI3 z (by rw [zX.1, za.1]; exact es) (by rw [zX.2.2.2.2.2.1, za.2.2.2.2.2.1]; exact hz) hT3 (fun y => ?_) (fun Y s2 sY y0 y5 y34 yl yT => ?_)
      · exact ih (c :: w) bl2 ad2 ce2 sn2 X z a2 D2 b2 bm2 (by rw [List.length_cons]; omega) len e1 e2 e3 (Sm_t (Sm_t hB sm) sX) hI3 x5 xW (fun q => by omega)
      · have hI4 := GI_s sY hI3
        refine ih (c :: w) bl2 ad2 ce2 sn2 Y s2 a2 D2 b2 bm2 (by rw [List.length_cons]; omega) len e1 e2 e3 (Sm_t (Sm_t (Sm_t hB sm) sX) sY) hI4 (by rw [y5]; exact x5) (by rw [y34]; exact xW) (fun _ => ⟨yl, ?_, yT⟩)
        have zY := Sm_a sY
        have g := gw_lst (lf := lf - 1) hI4.1 (w := w) (c := c) (by rw [zY.1, zX.1, za.1, es, zY.2.2.2.2.2.1, zX.2.2.2.2.2.1, za.2.2.2.2.2.1]; exact hz) hc8 (by rw [show lf - 1 + 1 = lf by omega]; exact hI4.2.2.2.1)
        rw [← yl]; exact g.2
    refine g_aload_n C dX11_hold_212 rfl rfl ?_
    refine g_iload C dX11_hold_213 rfl ?_
    by_cases gr : w.length < bl
    · have st := gwC_st (n := n) lf bl hb (by omega)
      refine g_callV C okX11_265 dX11_hold_215 (c_M_breaksOn0 bl L (by omega) (by omega) c (by unfold inR; omega)) rfl rfl (by decide) rfl ⟨rfl, rfl, by show 0 + 1 ≤ R.frames; omega, by show 8 + (4 + 11) + 64 * 0 ≤ R.locals; omega⟩ rfl (Nat.le_of_ble_eq_true rfl) (fun r215 M215 hr215 hp215 => ?_)
      rw [hp215]
      exact rest bl ad ce sn _ h0 hD hb hbm (by omega) (by rw [← st.1]; exact hc) (by rw [← st.2]; exact hs) (by rw [← gwB_st (n := n) lf bl hb (by omega)]; exact hbT) BoP_0 (by rw [up_ne (by decide), up_ne (by decide)])
    · have eC : gwC n (lf + 1) bl = 1 + gwC n lf (2 * bl) := by show (if n ≤ bl then 0 else 1 + gwC n lf (2 * bl)) = _; rw [if_neg (by omega)]
      have eS : gwS n (lf + 1) bl = 2 * bl + gwS n lf (2 * bl) := by show (if n ≤ bl then 0 else 2 * bl + gwS n lf (2 * bl)) = _; rw [if_neg (by omega)]
      have eB : gwB n (lf + 1) bl = gwB n lf (2 * bl) := by show (if n ≤ bl then bl else gwB n lf (2 * bl)) = _; rw [if_neg (by omega)]
      refine gx_callB F hD okX11_265 (by omega) hR (c_breaksB bl L (by omega) (by omega) c (by unfold inR; omega)) ?_ dX11_hold_215 (fun M' ad' q1 q2 q3 => ?_)
      · intro q hq r hr
        rcases List.mem_cons.mp hq with rfl | hq
        · cases hr; rfl
        · rcases List.mem_cons.mp hq with rfl | hq
          · cases hr
          · rcases List.mem_cons.mp hq with rfl | hq
            · cases hr
            · rcases List.mem_cons.mp hq with rfl | hq
              · cases hr
              · cases hq
      · exact rest (2 * bl) ad' (ce + 1) (sn + 2 * bl) M' (by rw [q1]; exact h0) q3 (by omega) (by omega) (by omega) (by omega) (by omega) (by rw [← eB]; exact hbT) q2 (q2.1 32 (by decide) (by decide) (by decide))
end GW
