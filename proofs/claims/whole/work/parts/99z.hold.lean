/-! THE REFERENCE: hold, whole -/
def HoP (M : Mem) (n : Nat) (z : Int) (N : Mem) : Prop := (∀ j, j < 39 → j ≠ 0 → j ≠ 31 → j ≠ 32 → j ≠ 33 → j ≠ 34 → N j = M j) ∧ (∀ i, i ≠ 0 → i ≠ 50 → N 0 i = M 0 i) ∧ N 0 0 = 0 ∧ z = (n : Int) ∧ N 0 50 = (n : Int) ∧ (n ≠ 0 → ∃ w, BrkL (EpN M) (StN M) (M 19) w ∧ w.length = n ∧ WR (N 34) w)
/-- n: how long the least break is; 0 where there is none -/
def HoN (M : Mem) (n : Nat) : Prop := (n < 500000 ∧ 1 ≤ M 0 38 ∧ ∃ w, BrkL (EpN M) (StN M) (M 19) w ∧ w.length = n) ∨ (n = 0 ∧ (M 0 38 = 0 ∨ ∀ w, ¬ Brk (EpN M) (StN M) (M 19) w))
def qH (bl' : Nat) (D : va_G) (cI cZ cB : ClassId) (A : Nat → Prop) (a0 : Nat) (P : Int → Mem → Prop) : Array Value → State → Outcome → State → Prop := va_Qi (S := Mem × (Nat → Nat)) (fun r u => (∃ z, r = Int32.ofInt z ∧ inR z ∧ P z u.1) ∧ u.2 0 = a0) (fun u t => wd (shM bl') 39 D cI cZ cB u.2 A u.1 t) A
def CtH (bl : Nat) (M : Mem) (n : Nat) : Prop :=
  ∀ (l : Launch) (D : va_G) (cI cZ cB : ClassId) (ad : Nat → Nat) (sz : Nat), Met l yX11_hold (.code yX11_hold cX11_hold 5 (some .int) :: tbg) { frames := 1, cells := gwC n n bl, slots := gwS n n bl, locals := 200 } (va_Pc ([.inr 0].map (vv ad)) (fun U => U.heap.size = sz ∧ NS U ∧ wd (shM bl) 39 D cI cZ cB ad (fun _ => True) M U)) (qH (gwB n n bl) D cI cZ cB (va_A (wsOf (shM bl) 39 cI cZ cB ad M) sz) (ad 0) (HoP M n)) (gwC n n bl) (gwS n n bl) (va_A (wsOf (shM bl) 39 cI cZ cB ad M) sz)
theorem Gw_len {Ep : Int → Int → Prop} {St : Int → Int → Int → Prop} {nx : Int → Int} {k n : Nat} (hk : 0 < k) (h : Gw Ep St nx [] k) {w : List Int} (hw : BrkL Ep St nx w) (hn : w.length = n) : k = n := by
  have a := h.2.2.1 w hw.1
  obtain ⟨-, ⟨v, q, v1, v2, v3⟩, -⟩ := h.2.1 hk
  have vn : v ≠ [] := fun z => by rw [z] at v1; rw [List.length_nil] at v1; omega
  have e0 : ¬ lst nx [] = -1 := by show ¬ (0 : Int) = -1; decide
  have b := SLe_len (hw.2 _ ((fw_brk v [] vn e0).2 ⟨q, v2, v3⟩))
  rw [rv_len, List.length_nil] at b
  rw [List.length_nil] at a
  omega
theorem gw_le {n bl : Nat} (h : n ≤ bl) : gwC n n bl = 0 ∧ gwS n n bl = 0 ∧ gwB n n bl = bl := by
  cases n with
  | zero => exact ⟨rfl, rfl, rfl⟩
  | succ f => exact ⟨if_pos h, if_pos h, if_pos h⟩
set_option maxHeartbeats 4000000 in
set_option maxRecDepth 100000 in
theorem c_holdM (bl : Nat) (hbl : 1 ≤ bl ∧ bl < 1000000) (M : Mem) (hH : HkM M) (n : Nat) (hn : HoN M n) : CtH bl M n := by
  intro l D cI cZ cB ad sz
  refine Met.ofW (cc := cX11_hold) (maxL := 5) (ret := some .int) (by decide +kernel) rfl ?_
  intro p e s m vs below meth cd s₁ B hml hv
  obtain ⟨rfl, hsz, hns, hM, hP, hK, hD0⟩ := hv
  have hts := atoms_spec (ws := .code yX11_hold cX11_hold 5 (some .int) :: tbg) B.pre
  have hown : s.vm.findClass yX11_hold.cls = some m.cls := findClass_of_methodNamed B.named
  subst hsz
  have hA : ∀ q : Nat, s.heap.size ≤ q → va_A (wsOf (shM bl) 39 cI cZ cB ad M) s.heap.size q := fun q h => Or.inr h
  have hl := lv_entry ([.inr 0].map (vv ad)) (n := 5) (by rw [ae_len]; show 1 ≤ 5; decide)
  rw [ae_args] at hl
  rw [lg_entry_eq]
  generalize hAA : va_A (wsOf (shM bl) 39 cI cZ cB ad M) s.heap.size = A at *
  have D1 : ∀ M', va_D A (wsOf (shM bl) 39 cI cZ cB ad M') := fun M' => by rw [← hAA]; exact wsOf_D hD0.self M'
  have F : FX p s m ([.inr 0].map (vv ad)).toArray meth cd D cI cZ cB A RX11 cX11_hold 5 (some .int) := ⟨⟨B.exec, B.bytes, hml, hown, fun w hw => hts w (List.mem_cons_of_mem _ hw)⟩, ⟨B.returns, B.notSynchronized, hns⟩, hK, hA⟩
  have hR : 1 ≤ ({ frames := 1, cells := gwC n n bl, slots := gwS n n bl, locals := 200 } : Room).frames ∧ 200 ≤ ({ frames := 1, cells := gwC n n bl, slots := gwS n n bl, locals := 200 } : Room).locals := ⟨Nat.le_refl _, Nat.le_refl _⟩
  have hRc : ({ frames := 1, cells := gwC n n bl, slots := gwS n n bl, locals := 200 } : Room).cells = gwC n n bl ∧ ({ frames := 1, cells := gwC n n bl, slots := gwS n n bl, locals := 200 } : Room).slots = gwS n n bl := ⟨rfl, rfl⟩
  have key : KK (shM bl) 39 5 { frames := 1, cells := gwC n n bl, slots := gwS n n bl, locals := 200 } p l e s m ([.inr 0].map (vv ad)).toArray below meth cd D cI cZ cB ad A 0 0 (MQ below (qH (gwB n n bl) D cI cZ cB A (ad 0) (HoP M n)) ([.inr 0].map (vv ad)).toArray s (gwC n n bl) (gwS n n bl) A) 0 [(0, .inr 0)] [] M := by
    generalize hRR : ({ frames := 1, cells := gwC n n bl, slots := gwS n n bl, locals := 200 } : Room) = R at *
    have fin : ∀ (bl2 : Nat) (ad2 : Nat → Nat) (N : Mem) (z : Int) (pc ce sn : Nat) (lv : Lv), (∀ M, va_D A (wsOf (shM bl2) 39 cI cZ cB ad2 M)) → bl2 = gwB n n bl → ad2 0 = ad 0 → ce = gwC n n bl → sn = gwS n n bl → inR z → HoP M n z N → decode cX11_hold pc = .ok (.ireturn, 1) → KK (shM bl2) 39 5 R p l e s m ([.inr 0].map (vv ad)).toArray below meth cd D cI cZ cB ad2 A ce sn (MQ below (qH (gwB n n bl) D cI cZ cB A (ad 0) (HoP M n)) ([.inr 0].map (vv ad)).toArray s (gwC n n bl) (gwS n n bl) A) pc lv [.inl z] N := by
      intro bl2 ad2 N z pc ce sn lv D2 e1 e2 e3 e4 hz hp hd
      subst e1; subst e3; subst e4
      intro hM4 H4 locs4 ls4 hP4 hS4 hl4
      exact W.iret (v := Int32.ofInt z) F.1.1 F.1.2.1 F.2.1.1 (fun t ht hW => ⟨⟨Int32.ofInt z, (N, ad2), rfl, ⟨⟨z, rfl, hz, hp⟩, e2⟩, hM4, by rw [ht]; exact hP4, va_K.moved hW.alike F.2.2.1, D2 N⟩, hS4.F ht⟩) hS4.2.2 hd F.2.1.2.1
    have C1 := F.g (l := l) (e := e) (below := below) (R := R) (Q := MQ below (qH (gwB n n bl) D cI cZ cB A (ad 0) (HoP M n)) ([.inr 0].map (vv ad)).toArray s (gwC n n bl) (gwS n n bl) A) D1 (ce := 0) (sn := 0) ⟨Nat.zero_le _, Nat.zero_le _⟩
    refine g_aload_n C1 dX11_hold_0 rfl rfl ?_
    refine g_iconst C1 dX11_hold_1 ?_
    refine g_putJ C1 0 0 rfl okC11 rfl (by decide) (by decide) rfl rfl rfl (by omega) flX11_133 dX11_hold_2 ?_
    refine g_aload_n C1 dX11_hold_5 rfl rfl ?_
    refine g_callV C1 okX11_130 dX11_hold_6 (c_M_clearBreak bl _) rfl rfl (by decide) rfl ⟨rfl, rfl, by show 0 + 1 ≤ R.frames; omega, by show 8 + (1 + 11) + 64 * 0 ≤ R.locals; omega⟩ rfl (Nat.le_of_ble_eq_true rfl) (fun r6 M6 hr6 hp6 => ?_)
    have n0 : ∀ i, i ≠ 0 → i ≠ 50 → M6 0 i = M 0 i := fun i a b => by rw [hp6, up_at, if_neg b, up_at, if_neg a]
    have n1 : ∀ j, j ≠ 0 → M6 j = M j := fun j a => by rw [hp6, up_ne a, up_ne a]
    have t0 : M6 0 0 = 0 := by rw [hp6, up_at, if_neg (by decide), up_same]
    have t5 : M6 0 50 = 0 := by rw [hp6, up_same]
    clear hp6
    have q38 := n0 38 (by decide) (by decide)
    have q37 := n0 37 (by decide) (by decide)
    have q25 := n0 25 (by decide) (by decide)
    have hH6 : HkM M6 := by
      unfold HkM
      rw [q38, q37, q25, n1 25 (by decide), n1 26 (by decide), n1 27 (by decide), n1 19 (by decide)]
      exact hH
    have eE : EpN M6 = EpN M := by unfold EpN; rw [q37, n1 25 (by decide), n1 26 (by decide), n1 27 (by decide)]
    have eS : StN M6 = StN M := by unfold StN; rw [q37, n1 25 (by decide), n1 26 (by decide), n1 27 (by decide)]
    have e19 := n1 19 (by decide)
    have r0 : HoP M 0 0 M6 := ⟨fun j _ b _ _ _ _ => n1 j b, n0, t0, rfl, t5, fun z => absurd rfl z⟩
    refine g_aload_n C1 dX11_hold_9 rfl rfl ?_
    refine g_getJ C1 38 38 rfl okC11 rfl (by decide) (by decide) rfl flX11_246 dX11_hold_10 (fun ld10 => ?_)
    rw [q38]
    rw [q38] at ld10
    refine g_if_ne C1 (tgt := 18) dX11_hold_13 rfl (by omega) (fun c13 => ?_) (fun c13 => ?_)
    · refine g_iconst C1 dX11_hold_18 ?_
      refine g_istore_n C1 dX11_hold_19 rfl (by decide) ?_
      refine g_cut2 C1 (lv' := [(0, _), (1, _)]) ⟨rfl, rfl, trivial⟩ ?_
      have f1 := hH.1.1
      have hQ : 1 ≤ M 0 38 := by omega
      refine gh_f bl M6 hH6 hR C1 0 ⟨Int.le_refl _, by omega⟩ M6 ⟨fun _ _ => rfl, fun x a b => by omega⟩ (fun N2 b2 t2 hF2 hE2 => ?_)
      have fe := FE_of hF2 hE2
      have m0 := hF2.1 0 (by decide)
      have sameM : ∀ j, j ≠ 31 → N2 j = M6 j := hF2.1
      have hH2 : HkM N2 := by
        unfold HkM
        rw [m0, sameM 25 (by decide), sameM 26 (by decide), sameM 27 (by decide), sameM 19 (by decide)]
        exact hH6
      have hQ2 : 1 ≤ N2 0 38 := by rw [m0, q38]; exact hQ
      have eE2 : EpN N2 = EpN M := by rw [← eE]; unfold EpN; rw [m0, sameM 25 (by decide), sameM 26 (by decide), sameM 27 (by decide)]
      have eS2 : StN N2 = StN M := by rw [← eS]; unfold StN; rw [m0, sameM 25 (by decide), sameM 26 (by decide), sameM 27 (by decide)]
      have e192 : N2 19 = M 19 := by rw [sameM 19 (by decide), e19]
      refine gh_m bl N2 hH2 hR C1 b2 t2 hQ2 (fun z => ?_) (fun z N3 hs3 h32 => ?_)
      · have far := brk_far hH2 hQ2 fe (by omega)
        rw [eE2, eS2, e192] at far
        have n00 : n = 0 := by
          rcases hn with ⟨a, b, w, w1, w2⟩ | h
          · have := far w w1.1
            omega
          · exact h.1
        refine g_iconst C1 dX11_hold_142 ?_
        subst n00
        exact fin bl ad N2 0 _ 0 0 _ D1 rfl rfl rfl rfl (by decide) ⟨fun j _ b c _ _ _ => by rw [sameM j c]; exact n1 j b, fun i a b => by rw [m0]; exact n0 i a b, by rw [m0]; exact t0, rfl, by rw [m0]; exact t5, fun z => absurd rfl z⟩ dX11_hold_143
      · have bnd := fe.2.1 0 (by omega) (by omega)
        have lt : N2 31 0 < 1000000 := by omega
        have sm3 : Sm N2 N3 := ⟨fun j _ _ b _ _ => hs3 j b, fun i _ => by rw [hs3 0 (by decide)]⟩
        have z3 := Sm_a sm3
        have hH3 := Sm_H sm3 hH2
        have fe3 := Sm_FE sm3 fe
        have hQ3 : 1 ≤ N3 0 38 := by rw [z3.2.2.2.2.2.2.2]; exact hQ2
        have e31 : N3 31 = N2 31 := z3.2.2.2.2.1
        have gs := gw_start hH2 hQ2 fe lt
        have nn : (N2 31 0).toNat = n := by
          rcases hn with ⟨a, b, w, w1, w2⟩ | ⟨a, b⟩
          · rw [← eE2, ← eS2, ← e192] at w1
            exact Gw_len (by omega) gs.1 w1 w2
          · exfalso
            rcases b with b | b
            · omega
            · obtain ⟨-, ⟨v, q, v1, v2, v3⟩, -⟩ := gs.1.2.1 (by omega)
              have vn : v ≠ [] := fun z => by rw [z] at v1; rw [List.length_nil] at v1; omega
              have e0 : ¬ lst (N2 19) [] = -1 := by show ¬ (0 : Int) = -1; decide
              have br := (fw_brk v [] vn e0).2 ⟨q, v2, v3⟩
              rw [eE2, eS2, e192] at br
              exact b _ br
        have n5 : n < 500000 := by
          rcases hn with ⟨a, _⟩ | ⟨a, _⟩
          · exact a
          · omega
        have ei : N2 31 0 = (n : Int) := by omega
        have g0 := GI_0 hH3 hQ3 fe3 (by rw [e31]; exact lt)
        rw [e31, nn] at g0
        rw [ei]
        have p3 : N3 0 50 = 0 := by rw [hs3 0 (by decide), m0]; exact t5
        refine gx_word F hR (ad 0) (gwC n n bl) (gwS n n bl) (gwB n n bl) (by omega) N3 n n5 (fun L bl2 ad2 w hb2 ha2 D2 hb hsm hg hwl h5 hwr => ?_) n [] bl ad 0 0 N3 0 rfl D1 hbl.1 hbl.2 (Nat.zero_le _) (by rw [List.length_nil]; omega) (by omega) (by omega) rfl ⟨fun _ _ _ _ _ _ => rfl, fun _ _ => rfl⟩ g0 (by rw [p3]; rfl) trivial (fun _ => ⟨rfl, ⟨Int.le_refl _, by have := hH3.2.1; omega⟩, InT_0 (fun x a b => h32 x a (by rw [← z3.2.2.2.2.2.2.2]; exact b))⟩)
        have C2 := F.g (l := l) (e := e) (below := below) (R := R) (Q := MQ below (qH (gwB n n bl) D cI cZ cB A (ad 0) (HoP M n)) ([.inr 0].map (vv ad)).toArray s (gwC n n bl) (gwS n n bl) A) D2 (ce := gwC n n bl) (sn := gwS n n bl) (by omega)
        refine g_aload_n C2 dX11_hold_237 rfl rfl ?_
        refine g_getJ C2 50 50 rfl okC11 rfl (by decide) (by decide) rfl flX11_252 dX11_hold_238 (fun ld238 => ?_)
        have br := Gw_end hg.2.2.2.1
        have zl := Sm_a hsm
        have eE3 : EpN L = EpN M := by rw [Sm_Ep hsm, Sm_Ep sm3, eE2]
        have eS3 : StN L = StN M := by rw [Sm_St hsm, Sm_St sm3, eS2]
        have e193 : L 19 = M 19 := by rw [zl.1, z3.1, e192]
        rw [eE3, eS3, e193] at br
        refine fin bl2 ad2 L _ _ _ _ _ D2 hb2 ha2 rfl rfl ld238 ⟨fun j a b c d e f => ?_, fun i a b => ?_, ?_, by rw [h5, hwl], by rw [h5, hwl], fun _ => ⟨w, br, hwl, hwr⟩⟩ dX11_hold_241
        · rw [hsm.1 j a b d e f, hs3 j d, sameM j c]; exact n1 j b
        · rw [hsm.2 i b, hs3 0 (by decide), m0]; exact n0 i a b
        · rw [hsm.2 0 (by decide), hs3 0 (by decide), m0]; exact t0
    · have n00 : n = 0 := by
        rcases hn with ⟨a, b, w, w1, w2⟩ | h
        · omega
        · exact h.1
      refine g_iconst C1 dX11_hold_16 ?_
      subst n00
      exact fin bl ad M6 0 _ 0 0 _ D1 rfl rfl rfl rfl (by decide) r0 dX11_hold_17
  have hl2 : lv_has _ 5 (lm ad [(0, .inr 0)]) := hl
  exact key hM s.heap [] _ hP (by rw [← hAA]; exact va_S.rf) hl2
