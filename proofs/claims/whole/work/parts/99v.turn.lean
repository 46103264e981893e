/-! THE REFERENCE: hold, a turn of its last loop -/
def Sm (N L : Mem) : Prop := (∀ j, j < 39 → j ≠ 0 → j ≠ 32 → j ≠ 33 → j ≠ 34 → L j = N j) ∧ ∀ i, i ≠ 50 → L 0 i = N 0 i
theorem Sm_t {A B D : Mem} (h : Sm A B) (g : Sm B D) : Sm A D := ⟨fun j a b c d e => by rw [g.1 j a b c d e]; exact h.1 j a b c d e, fun i hi => by rw [g.2 i hi]; exact h.2 i hi⟩
theorem Sm_a {N L : Mem} (h : Sm N L) : L 19 = N 19 ∧ L 25 = N 25 ∧ L 26 = N 26 ∧ L 27 = N 27 ∧ L 31 = N 31 ∧ L 0 25 = N 0 25 ∧ L 0 37 = N 0 37 ∧ L 0 38 = N 0 38 := ⟨h.1 19 (by decide) (by decide) (by decide) (by decide) (by decide), h.1 25 (by decide) (by decide) (by decide) (by decide) (by decide), h.1 26 (by decide) (by decide) (by decide) (by decide) (by decide), h.1 27 (by decide) (by decide) (by decide) (by decide) (by decide), h.1 31 (by decide) (by decide) (by decide) (by decide) (by decide), h.2 25 (by decide), h.2 37 (by decide), h.2 38 (by decide)⟩
theorem Sm_H {N L : Mem} (h : Sm N L) (g : HkM N) : HkM L := by
  obtain ⟨a, b, c, d, _, f, i, j⟩ := Sm_a h
  unfold HkM at g ⊢; rw [a, b, c, d, f, i, j]; exact g
theorem Sm_Ep {N L : Mem} (h : Sm N L) : EpN L = EpN N := by
  obtain ⟨a, b, c, d, _, f, i, j⟩ := Sm_a h
  unfold EpN; rw [b, c, d, i]
theorem Sm_St {N L : Mem} (h : Sm N L) : StN L = StN N := by
  obtain ⟨a, b, c, d, _, f, i, j⟩ := Sm_a h
  unfold StN; rw [b, c, d, i]
theorem Sm_FE {N L : Mem} (h : Sm N L) (g : FE N) : FE L := by
  obtain ⟨a, b, c, d, e, f, i, j⟩ := Sm_a h
  unfold FE at g ⊢; rw [Sm_Ep h, Sm_St h, a, e, f, j]; exact g
theorem St_rg {N : Mem} : ∀ p d q, StN N p d q → 0 ≤ d ∧ d < 8 := fun p d q h => h.1
/-- what holds ahead of a turn: w is written, n letters are wanting; T tells the states -/
def GI (N : Mem) (w : List Int) (n : Nat) : Prop := HkM N ∧ 1 ≤ N 0 38 ∧ FE N ∧ Gw (EpN N) (StN N) (N 19) w n ∧ (n : Int) < 1000000
def InT (N : Mem) (T : Int → Prop) : Prop := ∀ q, 0 ≤ q → q < N 0 38 → (N 32 q = 0 ∨ N 32 q = 1) ∧ (N 32 q = 1 ↔ T q)
theorem GI_s {N L : Mem} (h : Sm N L) {w : List Int} {n : Nat} (g : GI N w n) : GI L w n := by
  obtain ⟨a, b, c, d, e⟩ := g
  have z := Sm_a h
  exact ⟨Sm_H h a, by rw [z.2.2.2.2.2.2.2]; exact b, Sm_FE h c, by rw [Sm_Ep h, Sm_St h, z.1]; exact d, e⟩
set_option maxHeartbeats 4000000 in
set_option maxRecDepth 100000 in
theorem gh_l {K : Kt} (bl : Nat) {R : Room} (hR : 1 ≤ R.frames ∧ 200 ≤ R.locals) (C : CtxG (shM bl) 39 RX11 cX11_hold 5 (some .int) R K) (w : List Int) (lf : Nat) {N : Mem} (hI : GI N w (lf + 1)) (s : Int) (es : lst (N 19) w = s) (hs : 0 ≤ s ∧ s < N 0 25) (hT : InT N (Pth (EpN N) (StN N) w)) (c : Int) (hc0 : 0 ≤ c) (hm : ∀ d, d < c → 0 ≤ d → ¬ Ld (EpN N) (StN N) (N 19) w (lf + 1) d) (kk : ∀ c, 0 ≤ c ∧ c < 8 → Ld (EpN N) (StN N) (N 19) w (lf + 1) c → (∀ d, d < c → 0 ≤ d → ¬ Ld (EpN N) (StN N) (N 19) w (lf + 1) d) → K 212 [(0, .inr 0), (2, .inl s), (3, .inl ((lf + 1 : Nat) : Int)), (4, .inl c)] [] N) : K 195 [(0, .inr 0), (2, .inl s), (3, .inl ((lf + 1 : Nat) : Int)), (4, .inl c)] [] N := by
  obtain ⟨hH, hQ, hE, hG, hn⟩ := id hI
  have c8 : c < 8 := by
    obtain ⟨d, d0, d8, dl⟩ := Ld_ex hG (by omega) St_rg
    by_cases y : d < c
    · exact absurd dl (hm d y d0)
    · omega
  have ld := propext (leads_ld hH hQ hE hG (by omega) (by rw [es]; exact hs) (fun q a b => (hT q a b).2) (c := c) ⟨hc0, c8⟩)
  refine g_aload_n C dX11_hold_195 rfl rfl ?_
  refine g_iload C dX11_hold_196 rfl ?_
  refine g_iload_n C dX11_hold_198 rfl rfl ?_
  refine g_iload_n C dX11_hold_199 rfl rfl ?_
  refine g_callV C okX11_262 dX11_hold_200 (c_M_leads bl N hH (fun q a b => (hT q a b).1) hE.2.1 c s (lf + 1 : Nat) ⟨hc0, c8⟩ hs (by unfold inR; omega)) rfl rfl (by decide) rfl ⟨rfl, rfl, by show 0 + 1 ≤ R.frames; omega, by show 8 + (6 + 11) + 64 * 0 ≤ R.locals; omega⟩ rfl (Nat.le_of_ble_eq_true rfl) (fun r200 M200 hr200 hp200 => ?_)
  obtain ⟨rfl, hp200⟩ := hp200
  rw [← es, ld] at hp200
  refine g_if_ne C (tgt := 212) dX11_hold_203 rfl (by omega) (fun c203 => ?_) (fun c203 => ?_)
  · refine g_cut2 C (lv' := [(0, _), (2, _), (3, _), (4, _)]) ⟨rfl, rfl, rfl, rfl, trivial⟩ ?_
    rcases hp200 with z | z
    · exact kk c ⟨hc0, c8⟩ z.2 hm
    · exfalso; omega
  · refine g_iinc C dX11_hold_206 (by decide) rfl ?_
    refine g_goto C (tgt := 195) dX11_hold_209 rfl ?_
    refine g_cut2 C (lv' := [(0, _), (2, _), (3, _), (4, _)]) ⟨rfl, rfl, rfl, rfl, trivial⟩ ?_
    rcases hp200 with z | z
    · exfalso; omega
    · exact gh_l bl hR C w lf hI s es hs hT (c + 1) (by omega) (fun d d1 d0 y => by
        by_cases q : d = c
        · rw [q] at y; exact z.2 y
        · exact hm d (by omega) d0 y) kk
termination_by (8 - c).toNat
decreasing_by all_goals omega
