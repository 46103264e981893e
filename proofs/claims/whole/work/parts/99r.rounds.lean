/-! THE REFERENCE: hold, its rounds (over a context with an open end) -/

def FRd (B N : Mem) : Prop := (∀ j, j ≠ 31 → N j = B j) ∧ Real (EpN B) (StN B) (B 19) (N 31) (B 0 38) (B 0 25) ∧ ∀ x, 0 ≤ x → x < 30 * B 0 38 → 1 ≤ N 31 x ∧ N 31 x ≤ 1000000
abbrev NEN (B N : Mem) : Int → Prop := NEf (EpN B) (StN B) (B 19) (N 31) (B 0 25)
abbrev vlE (B : Mem) (far : Int → Int) (e s : Int) : Int := valE (B 19) (B 25) (B 26) (B 27) far e s
theorem valE_le {nx fr to by1 f g : Int → Int} {e s : Int} (h : ∀ x, f x ≤ g x) : valE nx fr to by1 f e s ≤ valE nx fr to by1 g e s := by
  unfold valE
  split
  · exact h _
  · split
    · exact Int.le_refl _
    · have := h (30 * to e + nx (8 * s + by1 e)); omega
/-- a nearer value is real -/
theorem FRd_s {B N : Mem} (hH : HkM B) (h : FRd B N) {e s : Int} (he : 0 ≤ e ∧ e < B 0 37) (hs : 0 ≤ s ∧ s < B 0 25) (hv : vlE B (N 31) e s < N 31 (30 * B 25 e + s)) : FRd B (up N 31 (30 * B 25 e + s) (vlE B (N 31) e s)) := by
  obtain ⟨f1, f2, f3⟩ := hH.1
  obtain ⟨g1, g2, g3⟩ := f3 e he.1 he.2
  have m30 := hH.2.1
  obtain ⟨a, b, c⟩ := h
  have old := c (30 * B 25 e + s) (by omega) (by omega)
  have new : (1 ≤ vlE B (N 31) e s) ∧ ∃ v, Fw (EpN B) (StN B) (B 19) v (B 25 e) s ∧ (v.length : Int) = vlE B (N 31) e s := by
    unfold vlE valE at hv ⊢
    by_cases c8 : B 27 e = 8
    · rw [if_pos c8] at hv ⊢
      have rt := b (B 26 e) s g2.1 g2.2 hs.1 hs.2
      obtain ⟨v, v1, v2⟩ := rt.2 (by omega)
      exact ⟨rt.1.1, v, Fw_e (Ecl_s Ecl_r ⟨e, he.1, he.2, rfl, rfl, c8⟩) v1, v2⟩
    · rw [if_neg c8] at hv ⊢
      have nr := hH.2.2 s (B 27 e) hs.1 hs.2 g3.1 (by omega)
      by_cases n0 : B 19 (8 * s + B 27 e) < 0
      · rw [if_pos n0] at hv ⊢
        exact ⟨Int.le_refl _, [B 27 e], ⟨B 25 e, B 26 e, Ecl_r, ⟨⟨g3.1, by omega⟩, e, he.1, he.2, rfl, rfl, rfl⟩, Or.inl ⟨rfl, by omega⟩⟩, rfl⟩
      · rw [if_neg n0] at hv ⊢
        have rt := b (B 26 e) (B 19 (8 * s + B 27 e)) g2.1 g2.2 (by omega) (by omega)
        obtain ⟨v, v1, v2⟩ := rt.2 (by omega)
        have r1 := rt.1.1
        exact ⟨by omega, B 27 e :: v, ⟨B 25 e, B 26 e, Ecl_r, ⟨⟨g3.1, by omega⟩, e, he.1, he.2, rfl, rfl, rfl⟩, Or.inr ⟨by omega, v1⟩⟩, by rw [List.length_cons]; omega⟩
  have e31 : ∀ x, up N 31 (30 * B 25 e + s) (vlE B (N 31) e s) 31 x = if x = 30 * B 25 e + s then vlE B (N 31) e s else N 31 x := fun x => up_at
  have eo : ∀ j, j ≠ 31 → up N 31 (30 * B 25 e + s) (vlE B (N 31) e s) j = N j := fun j hj => up_ne hj
  generalize up N 31 (30 * B 25 e + s) (vlE B (N 31) e s) = L at *
  generalize vlE B (N 31) e s = v at *
  refine ⟨fun j hj => by rw [eo j hj]; exact a j hj, fun q t q0 q1 t0 t1 => ?_, fun x x0 x1 => ?_⟩
  · rw [e31]
    by_cases z : 30 * q + t = 30 * B 25 e + s
    · have eq : q = B 25 e ∧ t = s := by omega
      rw [if_pos z, eq.1, eq.2]
      exact ⟨⟨new.1, by omega⟩, fun _ => new.2⟩
    · rw [if_neg z]; exact b q t q0 q1 t0 t1
  · rw [e31]
    by_cases z : x = 30 * B 25 e + s
    · rw [if_pos z]; exact ⟨new.1, by omega⟩
    · rw [if_neg z]; exact c x x0 x1
def RIn (B S N : Mem) (e s b : Int) : Prop := FRd B N ∧ (∀ x, N 31 x ≤ S 31 x) ∧ (∀ i t, 0 ≤ i → i < B 0 37 → 0 ≤ t → t < B 0 25 → (e < i ∨ (i = e ∧ t < s)) → N 31 (30 * B 25 i + t) ≤ vlE B (S 31) i t) ∧ ((b = 0 ∧ N 31 = S 31) ∨ b = 1)
set_option maxHeartbeats 4000000 in
set_option maxRecDepth 100000 in
theorem gh_in {K : Kt} (bl : Nat) (B : Mem) (hH : HkM B) {R : Room} (hR : 1 ≤ R.frames ∧ 200 ≤ R.locals) (C : CtxG (shM bl) 39 RX11 cX11_hold 5 (some .int) R K) (S : Mem) (t e s b : Int) (he : 0 ≤ e ∧ e < B 0 37) (hs : 0 ≤ s ∧ s ≤ B 0 25) (N : Mem) (hI : RIn B S N e s b) (kk : ∀ N2 b2, RIn B S N2 (e - 1) 0 b2 → K 77 [(0, .inr 0), (1, .inl b2), (2, .inl t), (3, .inl (e + -1))] [] N2) : K 84 [(0, .inr 0), (1, .inl b), (2, .inl t), (3, .inl e), (4, .inl s)] [] N := by
  obtain ⟨f1, f2, f3⟩ := hH.1
  have m30 := hH.2.1
  have n0 := hI.1.1 0 (by decide)
  have n19 := hI.1.1 19 (by decide)
  have n25 := hI.1.1 25 (by decide)
  have n26 := hI.1.1 26 (by decide)
  have n27 := hI.1.1 27 (by decide)
  have hHN : HkM N := by unfold HkM; rw [n0, n19, n25, n26, n27]; exact hH
  have b01 : b = 0 ∨ b = 1 := by
    rcases hI.2.2.2 with z | z
    · exact Or.inl z.1
    · exact Or.inr z
  refine g_iload C dX11_hold_84 rfl ?_
  refine g_aload_n C dX11_hold_86 rfl rfl ?_
  refine g_getJ C 25 25 rfl okC11 rfl (by decide) (by decide) rfl flX11_126 dX11_hold_87 (fun ld87 => ?_)
  rw [n0] at ld87 ⊢
  refine g_icmp_ge C (tgt := 119) dX11_hold_90 rfl (by omega) (by omega) (fun c90 => ?_) (fun c90 => ?_)
  · refine g_iinc C dX11_hold_119 (by decide) rfl ?_
    refine g_goto C (tgt := 77) dX11_hold_122 rfl ?_
    refine g_cut2 C (lv' := [(0, _), (1, _), (2, _), (3, _)]) ⟨rfl, rfl, rfl, rfl, trivial⟩ ?_
    exact kk N b ⟨hI.1, hI.2.1, fun i u i0 i1 u0 u1 o => hI.2.2.1 i u i0 i1 u0 u1 (by omega), hI.2.2.2⟩
  · refine g_aload_n C dX11_hold_93 rfl rfl ?_
    refine g_iload_n C dX11_hold_94 rfl rfl ?_
    refine g_iload C dX11_hold_95 rfl ?_
    refine g_callV C okX11_256 dX11_hold_97 (c_M_isNearer bl N hHN (by rw [n0]; exact hI.1.2.2) e s (by rw [n0]; exact he) (by rw [n0]; exact ⟨hs.1, c90⟩)) rfl rfl (by decide) rfl ⟨rfl, rfl, by show 0 + 1 ≤ R.frames; omega, by show 8 + (6 + 11) + 64 * 0 ≤ R.locals; omega⟩ rfl (Nat.le_of_ble_eq_true rfl) (fun r97 M97 hr97 hp97 => ?_)
    rw [n19, n25, n26, n27] at hp97
    refine g_if_ne C (tgt := 107) dX11_hold_100 rfl (by omega) (fun c100 => ?_) (fun c100 => ?_)
    · refine g_iconst C dX11_hold_107 ?_
      refine g_goto C (tgt := 112) dX11_hold_108 rfl ?_
      refine g_istore_n C dX11_hold_112 rfl (by decide) ?_
      refine g_iinc C dX11_hold_113 (by decide) rfl ?_
      refine g_goto C (tgt := 84) dX11_hold_116 rfl ?_
      refine g_cut2 C (lv' := [(0, _), (1, _), (2, _), (3, _), (4, _)]) ⟨rfl, rfl, rfl, rfl, rfl, trivial⟩ ?_
      first
      | (rcases hp97 with ⟨z1, z2, z3⟩ | ⟨z1, z2, z3⟩
         · have z1 : vlE B (N 31) e s < N 31 (30 * B 25 e + s) := z1
           rw [z3]
           have e31 : ∀ x, up N 31 (30 * B 25 e + s) (vlE B (N 31) e s) 31 x = if x = 30 * B 25 e + s then vlE B (N 31) e s else N 31 x := fun x => up_at
           refine gh_in bl B hH hR C S t e (s + 1) 1 he (by omega) _ ⟨FRd_s hH hI.1 he ⟨hs.1, c90⟩ z1, fun x => ?_, fun i u i0 i1 u0 u1 o => ?_, Or.inr rfl⟩ kk
           · rw [e31]
             have := hI.2.1 x
             split
             · rename_i y; rw [y] at this ⊢; omega
             · exact this
           · rw [e31]
             by_cases y : i = e ∧ u = s
             · obtain ⟨rfl, rfl⟩ := y; rw [if_pos rfl]; exact valE_le hI.2.1
             · have o2 := hI.2.2.1 i u i0 i1 u0 u1 (by omega)
               split
               · rename_i w; rw [w] at o2; omega
               · exact o2
         · exfalso; omega)
      | (rcases hp97 with ⟨z1, z2, z3⟩ | ⟨z1, z2, z3⟩
         · exfalso; omega
         · have z1 : N 31 (30 * B 25 e + s) ≤ vlE B (N 31) e s := z1
           rw [← z3]
           refine gh_in bl B hH hR C S t e (s + 1) _ he (by omega) N ⟨hI.1, hI.2.1, fun i u i0 i1 u0 u1 o => ?_, ?_⟩ kk
           · by_cases y : i = e ∧ u = s
             · obtain ⟨rfl, rfl⟩ := y; exact Int.le_trans z1 (valE_le hI.2.1)
             · exact hI.2.2.1 i u i0 i1 u0 u1 (by omega)
           · have h4 := hI.2.2.2
             first
             | (rcases h4 with y | y
                · exact Or.inl ⟨by omega, y.2⟩
                · exact Or.inr (by omega))
             | exact Or.inr rfl)
    · refine g_iload_n C dX11_hold_103 rfl rfl ?_
      refine g_if_eq C (tgt := 111) dX11_hold_104 rfl (by omega) (fun c104 => ?_) (fun c104 => ?_)
      · refine g_iconst C dX11_hold_111 ?_
        refine g_istore_n C dX11_hold_112 rfl (by decide) ?_
        refine g_iinc C dX11_hold_113 (by decide) rfl ?_
        refine g_goto C (tgt := 84) dX11_hold_116 rfl ?_
        refine g_cut2 C (lv' := [(0, _), (1, _), (2, _), (3, _), (4, _)]) ⟨rfl, rfl, rfl, rfl, rfl, trivial⟩ ?_
        first
        | (rcases hp97 with ⟨z1, z2, z3⟩ | ⟨z1, z2, z3⟩
           · have z1 : vlE B (N 31) e s < N 31 (30 * B 25 e + s) := z1
             rw [z3]
             have e31 : ∀ x, up N 31 (30 * B 25 e + s) (vlE B (N 31) e s) 31 x = if x = 30 * B 25 e + s then vlE B (N 31) e s else N 31 x := fun x => up_at
             refine gh_in bl B hH hR C S t e (s + 1) 1 he (by omega) _ ⟨FRd_s hH hI.1 he ⟨hs.1, c90⟩ z1, fun x => ?_, fun i u i0 i1 u0 u1 o => ?_, Or.inr rfl⟩ kk
             · rw [e31]
               have := hI.2.1 x
               split
               · rename_i y; rw [y] at this ⊢; omega
               · exact this
             · rw [e31]
               by_cases y : i = e ∧ u = s
               · obtain ⟨rfl, rfl⟩ := y; rw [if_pos rfl]; exact valE_le hI.2.1
               · have o2 := hI.2.2.1 i u i0 i1 u0 u1 (by omega)
                 split
                 · rename_i w; rw [w] at o2; omega
                 · exact o2
           · exfalso; omega)
        | (rcases hp97 with ⟨z1, z2, z3⟩ | ⟨z1, z2, z3⟩
           · exfalso; omega
           · have z1 : N 31 (30 * B 25 e + s) ≤ vlE B (N 31) e s := z1
             rw [← z3]
             refine gh_in bl B hH hR C S t e (s + 1) _ he (by omega) N ⟨hI.1, hI.2.1, fun i u i0 i1 u0 u1 o => ?_, ?_⟩ kk
             · by_cases y : i = e ∧ u = s
               · obtain ⟨rfl, rfl⟩ := y; exact Int.le_trans z1 (valE_le hI.2.1)
               · exact hI.2.2.1 i u i0 i1 u0 u1 (by omega)
             · have h4 := hI.2.2.2
               first
               | (rcases h4 with y | y
                  · exact Or.inl ⟨by omega, y.2⟩
                  · exact Or.inr (by omega))
               | exact Or.inr rfl)
      · refine g_iconst C dX11_hold_107 ?_
        refine g_goto C (tgt := 112) dX11_hold_108 rfl ?_
        refine g_istore_n C dX11_hold_112 rfl (by decide) ?_
        refine g_iinc C dX11_hold_113 (by decide) rfl ?_
        refine g_goto C (tgt := 84) dX11_hold_116 rfl ?_
        refine g_cut2 C (lv' := [(0, _), (1, _), (2, _), (3, _), (4, _)]) ⟨rfl, rfl, rfl, rfl, rfl, trivial⟩ ?_
        first
        | (rcases hp97 with ⟨z1, z2, z3⟩ | ⟨z1, z2, z3⟩
           · have z1 : vlE B (N 31) e s < N 31 (30 * B 25 e + s) := z1
             rw [z3]
             have e31 : ∀ x, up N 31 (30 * B 25 e + s) (vlE B (N 31) e s) 31 x = if x = 30 * B 25 e + s then vlE B (N 31) e s else N 31 x := fun x => up_at
             refine gh_in bl B hH hR C S t e (s + 1) 1 he (by omega) _ ⟨FRd_s hH hI.1 he ⟨hs.1, c90⟩ z1, fun x => ?_, fun i u i0 i1 u0 u1 o => ?_, Or.inr rfl⟩ kk
             · rw [e31]
               have := hI.2.1 x
               split
               · rename_i y; rw [y] at this ⊢; omega
               · exact this
             · rw [e31]
               by_cases y : i = e ∧ u = s
               · obtain ⟨rfl, rfl⟩ := y; rw [if_pos rfl]; exact valE_le hI.2.1
               · have o2 := hI.2.2.1 i u i0 i1 u0 u1 (by omega)
                 split
                 · rename_i w; rw [w] at o2; omega
                 · exact o2
           · exfalso; omega)
        | (rcases hp97 with ⟨z1, z2, z3⟩ | ⟨z1, z2, z3⟩
           · exfalso; omega
           · have z1 : N 31 (30 * B 25 e + s) ≤ vlE B (N 31) e s := z1
             rw [← z3]
             refine gh_in bl B hH hR C S t e (s + 1) _ he (by omega) N ⟨hI.1, hI.2.1, fun i u i0 i1 u0 u1 o => ?_, ?_⟩ kk
             · by_cases y : i = e ∧ u = s
               · obtain ⟨rfl, rfl⟩ := y; exact Int.le_trans z1 (valE_le hI.2.1)
               · exact hI.2.2.1 i u i0 i1 u0 u1 (by omega)
             · have h4 := hI.2.2.2
               first
               | (rcases h4 with y | y
                  · exact Or.inl ⟨by omega, y.2⟩
                  · exact Or.inr (by omega))
               | exact Or.inr rfl)
termination_by (B 0 25 - s).toNat
decreasing_by all_goals omega
set_option maxHeartbeats 4000000 in
set_option maxRecDepth 100000 in
theorem gh_e {K : Kt} (bl : Nat) (B : Mem) (hH : HkM B) {R : Room} (hR : 1 ≤ R.frames ∧ 200 ≤ R.locals) (C : CtxG (shM bl) 39 RX11 cX11_hold 5 (some .int) R K) (S : Mem) (t e b : Int) (he : -1 ≤ e ∧ e < B 0 37) (N : Mem) (hI : RIn B S N e 0 b) (kk : ∀ N2 b2, FRd B N2 → (∀ x, N2 31 x ≤ S 31 x) → (∀ i u, 0 ≤ i → i < B 0 37 → 0 ≤ u → u < B 0 25 → N2 31 (30 * B 25 i + u) ≤ vlE B (S 31) i u) → ((b2 = 0 ∧ N2 31 = S 31) ∨ b2 = 1) → K 125 [(0, .inr 0), (1, .inl b2), (2, .inl t)] [] N2) : K 77 [(0, .inr 0), (1, .inl b), (2, .inl t), (3, .inl e)] [] N := by
  obtain ⟨f1, f2, f3⟩ := hH.1
  have m30 := hH.2.1
  refine g_iload_n C dX11_hold_77 rfl rfl ?_
  refine g_if_lt C (tgt := 125) dX11_hold_78 rfl (by omega) (fun c78 => ?_) (fun c78 => ?_)
  · refine g_cut2 C (lv' := [(0, _), (1, _), (2, _)]) ⟨rfl, rfl, rfl, trivial⟩ ?_
    exact kk N b hI.1 hI.2.1 (fun i u i0 i1 u0 u1 => hI.2.2.1 i u i0 i1 u0 u1 (by omega)) hI.2.2.2
  · refine g_iconst C dX11_hold_81 ?_
    refine g_istore C dX11_hold_82 (by decide) ?_
    refine g_cut2 C (lv' := [(0, _), (1, _), (2, _), (3, _), (4, _)]) ⟨rfl, rfl, rfl, rfl, rfl, trivial⟩ ?_
    refine gh_in bl B hH hR C S t e 0 b (by omega) (by omega) N ⟨hI.1, hI.2.1, fun i u i0 i1 u0 u1 o => hI.2.2.1 i u i0 i1 u0 u1 (by omega), hI.2.2.2⟩ (fun N2 b2 z => ?_)
    rw [show e + -1 = e - 1 by omega]
    exact gh_e bl B hH hR C S t (e - 1) b2 (by omega) N2 z kk
termination_by (e + 1).toNat
decreasing_by all_goals omega
set_option maxHeartbeats 4000000 in
set_option maxRecDepth 100000 in
theorem gh_r {K : Kt} (bl : Nat) (B : Mem) (hH : HkM B) {R : Room} (hR : 1 ≤ R.frames ∧ 200 ≤ R.locals) (C : CtxG (shM bl) 39 RX11 cX11_hold 5 (some .int) R K) (t b : Int) (ht : 0 ≤ t ∧ t ≤ B 0 38 * B 0 25 + 2) (N : Mem) (hF : FRd B N) (hc : cnI (NEN B N) (30 * B 0 38) = 0 ∨ cnI (NEN B N) (30 * B 0 38) + t ≤ B 0 38 * B 0 25) (hb : b = 0 → ∀ x, 0 ≤ x → x < 30 * B 0 38 → ¬ NEN B N x) (b01 : b = 0 ∨ b = 1) (kk : ∀ N2 b2 t2, FRd B N2 → (∀ x, 0 ≤ x → x < 30 * B 0 38 → ¬ NEN B N2 x) → K 131 [(0, .inr 0), (1, .inl b2), (2, .inl t2)] [] N2) : K 49 [(0, .inr 0), (1, .inl b), (2, .inl t)] [] N := by
  obtain ⟨f1, f2, f3⟩ := hH.1
  have m30 := hH.2.1
  have n0 := hF.1 0 (by decide)
  have pq : 0 ≤ B 0 38 * B 0 25 ∧ B 0 38 * B 0 25 ≤ 620 * 30 := ⟨Int.mul_nonneg f1.1 (by omega), Int.mul_le_mul f1.2 m30.2 (by omega) (by omega)⟩
  generalize hPQ : B 0 38 * B 0 25 = PQ at *
  refine g_iload_n C dX11_hold_49 rfl rfl ?_
  refine g_aload_n C dX11_hold_50 rfl rfl ?_
  refine g_getJ C 38 38 rfl okC11 rfl (by decide) (by decide) rfl flX11_246 dX11_hold_51 (fun ld51 => ?_)
  rw [n0] at ld51 ⊢
  refine g_aload_n C dX11_hold_54 rfl rfl ?_
  refine g_getJ C 25 25 rfl okC11 rfl (by decide) (by decide) rfl flX11_126 dX11_hold_55 (fun ld55 => ?_)
  rw [n0] at ld55 ⊢
  refine g_imul C dX11_hold_58 ?_
  refine g_iconst C dX11_hold_59 ?_
  refine g_iadd C dX11_hold_60 ?_
  refine g_icmp_ge C (tgt := 131) dX11_hold_61 rfl (by omega) (by omega) (fun c61 => ?_) (fun c61 => ?_)
  · refine g_cut2 C (lv' := [(0, _), (1, _), (2, _)]) ⟨rfl, rfl, rfl, trivial⟩ ?_
    refine kk N b t hF (fun x x0 x1 ne => ?_)
    have p := cn_pos ne ⟨x0, x1⟩
    first
    | (rcases hc with z | z <;> omega)
    | exact hb (by omega) x x0 x1 ne
  · refine g_iload_n C dX11_hold_64 rfl rfl ?_
    refine g_if_eq C (tgt := 131) dX11_hold_65 rfl (by omega) (fun c65 => ?_) (fun c65 => ?_)
    · refine g_cut2 C (lv' := [(0, _), (1, _), (2, _)]) ⟨rfl, rfl, rfl, trivial⟩ ?_
      refine kk N b t hF (fun x x0 x1 ne => ?_)
      have p := cn_pos ne ⟨x0, x1⟩
      first
      | (rcases hc with z | z <;> omega)
      | exact hb (by omega) x x0 x1 ne
    · refine g_iconst C dX11_hold_68 ?_
      refine g_istore_n C dX11_hold_69 rfl (by decide) ?_
      refine g_aload_n C dX11_hold_70 rfl rfl ?_
      refine g_getJ C 37 37 rfl okC11 rfl (by decide) (by decide) rfl flX11_243 dX11_hold_71 (fun ld71 => ?_)
      rw [n0] at ld71 ⊢
      refine g_iconst C dX11_hold_74 ?_
      refine g_isub C dX11_hold_75 ?_
      refine g_istore_n C dX11_hold_76 rfl (by decide) ?_
      refine g_cut2 C (lv' := [(0, _), (1, _), (2, _), (3, _)]) ⟨rfl, rfl, rfl, rfl, trivial⟩ ?_
      rw [show B 0 37 - 1 = B 0 37 - 1 from rfl]
      refine gh_e bl B hH hR C N t (B 0 37 - 1) 0 (by omega) N ⟨hF, fun _ => Int.le_refl _, fun i u i0 i1 u0 u1 o => by omega, Or.inl ⟨rfl, rfl⟩⟩ (fun N2 b2 y1 y2 y3 y4 => ?_)
      refine g_iinc C dX11_hold_125 (by decide) rfl ?_
      refine g_goto C (tgt := 49) dX11_hold_128 rfl ?_
      refine g_cut2 C (lv' := [(0, _), (1, _), (2, _)]) ⟨rfl, rfl, rfl, trivial⟩ ?_
      have stp : ∀ x, 0 ≤ x → x < 30 * B 0 38 → NEN B N x → cnI (NEN B N2) (30 * B 0 38) + 1 ≤ cnI (NEN B N) (30 * B 0 38) := fun x x0 x1 ne => rd_one hH.1 hH.2 y2 y3 ⟨x0, x1⟩ ne
      have ge := (cnI_rg (NEN B N) (by omega : 0 ≤ 30 * B 0 38)).1
      have ge2 := (cnI_rg (NEN B N2) (by omega : 0 ≤ 30 * B 0 38)).1
      have le2 : cnI (NEN B N2) (30 * B 0 38) ≤ cnI (NEN B N) (30 * B 0 38) := by
        have := cn_le (P := NEN B N2) (Q := NEN B N) (30 * B 0 38).toNat (fun j a d q => ⟨q.1, by obtain ⟨v, v1, v2⟩ := q.2; exact ⟨v, v1, by have := y2 j; omega⟩⟩)
        rw [show (((30 * B 0 38).toNat : Nat) : Int) = 30 * B 0 38 by omega] at this
        exact this
      refine gh_r bl B hH hR C (t + 1) b2 (by omega) N2 y1 ?_ ?_ (by rcases y4 with z | z; exact Or.inl z.1; exact Or.inr z) kk
      · by_cases ex : ∃ x, (0 ≤ x ∧ x < 30 * B 0 38) ∧ NEN B N x
        · obtain ⟨x, x1, x2⟩ := ex
          have s1 := stp x x1.1 x1.2 x2
          rcases hc with z | z
          · exfalso; omega
          · exact Or.inr (by omega)
        · left
          have := cn_zero (P := NEN B N2) (30 * B 0 38).toNat (fun j a d q => ex ⟨j, ⟨a, by omega⟩, q.1, by obtain ⟨v, v1, v2⟩ := q.2; exact ⟨v, v1, by have := y2 j; omega⟩⟩)
          rw [show (((30 * B 0 38).toNat : Nat) : Int) = 30 * B 0 38 by omega] at this
          omega
      · intro b0 x x0 x1 ne
        have e31 : N2 31 = N 31 := by
          rcases y4 with z | z
          · exact z.2
          · omega
        have ne0 : NEN B N x := by unfold NEN at ne ⊢; rw [e31] at ne; exact ne
        have s1 := stp x x0 x1 ne0
        unfold NEN at s1
        rw [e31] at s1
        omega
termination_by (B 0 38 * B 0 25 + 2 - t).toNat
decreasing_by all_goals omega
