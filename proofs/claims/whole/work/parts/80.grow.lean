/-! UsageDesk$Tree.grow -/
noncomputable def cutR (n : Int) (sz rt th ca : Int → Int) (r : Int) : Int := iteP (0 ≤ r ∧ r < n ∧ ¬ th r = 0 ∧ ¬ rt r = 0) (cutI sz rt th ca r n) 0
noncomputable abbrev cutC (M : Mem) : Int → Int := cutR (M 3 6) (M 5) (M 6) (M 7) (M 4)
theorem cutR_rg {n : Int} {sz rt th ca : Int → Int} (hB : BkOk n sz rt th ca) (r : Int) : 0 ≤ cutR n sz rt th ca r ∧ cutR n sz rt th ca r ≤ 12 ∧ (0 < cutR n sz rt th ca r → (0 ≤ r ∧ r < n) ∧ cutR n sz rt th ca r ≤ sz r) := by
  unfold cutR
  by_cases q : 0 ≤ r ∧ r < n ∧ ¬ th r = 0 ∧ ¬ rt r = 0
  · rw [iteP_pos q]
    have h := cutI_rg hB q.1 q.2.1 hB.1 (Int.le_refl _)
    have h2 := (hB.2.2 r q.1 q.2.1).2.1
    exact ⟨h.1, by omega, fun _ => ⟨⟨q.1, q.2.1⟩, h.2⟩⟩
  · rw [iteP_neg q]; exact ⟨by omega, by omega, fun z => by omega⟩
theorem TrOk_cu {n : Int} {cu cu' ca : Int → Int} {m : Int} {ch pr lc : Int → Int} (he : ∀ r, 0 ≤ r → r < n → cu' r = cu r) (h : TrOk n cu ca m ch pr lc) : TrOk n cu' ca m ch pr lc := by
  obtain ⟨a, b, c, d, e, f⟩ := h
  refine ⟨a, b, c, d, fun r z1 z2 l hl => e r z1 z2 l (by rw [← he r z1 z2]; exact hl), fun k z1 z2 => ?_⟩
  obtain ⟨r, l, y1, y2, y3, y4⟩ := f k z1 z2
  exact ⟨r, l, y1, y2, by rw [he r y1 y2]; exact y3, y4⟩
def GrF (M N : Mem) : Prop := (∀ j, j ≠ 9 → j ≠ 10 → j ≠ 11 → j ≠ 12 → j ≠ 13 → j ≠ 14 → N j = M j) ∧ (∀ i, i ≠ 6 → N 9 i = M 9 i)
def GrP (M N : Mem) : Prop := GrF M N ∧ (∀ r, 0 ≤ r → r < 60 → N 13 r = cutC M r) ∧ TrOk 60 (cutC M) (M 4) (N 9 6) (N 10) (N 11) (N 12) ∧ N 9 6 ≤ 721
theorem GrF.bk {M N : Mem} (h : GrF M N) (hB : BkC M) : BkC N := by
  unfold BkC
  rw [h.1 3 (by decide) (by decide) (by decide) (by decide) (by decide) (by decide), h.1 4 (by decide) (by decide) (by decide) (by decide) (by decide) (by decide), h.1 5 (by decide) (by decide) (by decide) (by decide) (by decide) (by decide), h.1 6 (by decide) (by decide) (by decide) (by decide) (by decide) (by decide), h.1 7 (by decide) (by decide) (by decide) (by decide) (by decide) (by decide)]
  exact hB
set_option maxHeartbeats 4000000 in
set_option maxRecDepth 100000 in
theorem l_grow2 {K : Kt} (M : Mem) (hB : BkC M) (C : Ctx shC nC RX9 cX9_grow 4 none (lvl 4) (fun _ M' => GrP M M') K) (N : Mem) (hF : GrF M N) (hcu : ∀ r, 0 ≤ r → r < 60 → N 13 r = cutC M r) (ls len : Int) (hl : 0 ≤ len ∧ len ≤ 12) (hI : LvI N ls len) : K 66 [(0, .inr 9), (1, .inl ls), (2, .inl len)] [] N := by
  have hs := hI.2.1
  have e4 : N 4 = M 4 := hF.1 4 (by decide) (by decide) (by decide) (by decide) (by decide) (by decide)
  have fin : (∀ r, 0 ≤ r → r < 60 → N 13 r ≤ len) → GrP M N := fun z => ⟨hF, hcu, by
    rw [← e4]
    exact TrOk_cu (fun r z1 z2 => by rw [← hcu r z1 z2]; unfold cul; have := z r z1 z2; split <;> omega) hI.1, hs.2.2⟩
  refine k_iload_n C dX9_grow_66 rfl rfl ?_
  refine k_bipush C dX9_grow_67 (by decide) ?_
  refine k_icmp_ge C (tgt := 109) dX9_grow_69 rfl (by omega) (by omega) (fun c69 => ?_) (fun c69 => ?_)
  · exact k_vret C dX9_grow_109 (fun _ => fin (fun r z1 z2 => by first | (have z5 := hI.2.2.2.2.2.2.2 r z1 z2; omega) | (have z3 := hI.2.2.2.1 r z1 z2; have z4 := LvI_in hI hl.1 ⟨z1, z2⟩; omega)))
  · refine k_iload_n C dX9_grow_72 rfl rfl ?_
    refine k_aload_n C dX9_grow_73 rfl rfl ?_
    refine k_getJ C 6 6 rfl okC9 rfl (by decide) (by decide) rfl flX9_31 dX9_grow_74 (fun ld74 => ?_)
    refine k_icmp_ge C (tgt := 109) dX9_grow_77 rfl (by omega) (by omega) (fun c77 => ?_) (fun c77 => ?_)
    · exact k_vret C dX9_grow_109 (fun _ => fin (fun r z1 z2 => by first | (have z5 := hI.2.2.2.2.2.2.2 r z1 z2; omega) | (have z3 := hI.2.2.2.1 r z1 z2; have z4 := LvI_in hI hl.1 ⟨z1, z2⟩; omega)))
    · refine k_aload_n C dX9_grow_80 rfl rfl ?_
      refine k_getJ C 6 6 rfl okC9 rfl (by decide) (by decide) rfl flX9_31 dX9_grow_81 (fun ld81 => ?_)
      refine k_istore_n C dX9_grow_84 rfl (by decide) ?_
      refine k_aload_n C dX9_grow_85 rfl rfl ?_
      refine k_iload_n C dX9_grow_86 rfl rfl ?_
      refine k_callV C okX9_49 dX9_grow_87 (c_Tree_ask N len (by omega) (LvI_lv hI hl.1)) rfl rfl (by decide) rfl (by decide) rfl (Nat.le_of_ble_eq_true rfl) (fun r87 M87 hr87 hp87 => ?_)
      have hls : ∀ k' c', 0 ≤ k' → k' < N 9 6 → 0 ≤ c' → c' < 8 → M87 10 (8 * k' + c') = -2 → ls ≤ k' := by
        intro k' c' z1 z2 z3 z4 z
        by_cases w : AskP N len 60 (8 * k' + c')
        · obtain ⟨r, y1, y2, y3, y4⟩ := w
          have v1 := (LvI_lv hI hl.1 r y1 y2 y3).2
          have v2 := hI.2.2.2.1 r y1 y2 y3
          omega
        · have e1 := (hp87.2 _).2 w
          have e2 := hI.1.2.2.1 k' c' z1 z2 z3 z4
          omega
      refine k_aload_n C dX9_grow_90 rfl rfl ?_
      refine k_iload_n C dX9_grow_91 rfl rfl ?_
      refine k_iload_n C dX9_grow_92 rfl rfl ?_
      refine k_callV C okX9_53 dX9_grow_93 (c_Tree_name M87 ls (N 9 6) (by omega) (fun N2 k c hN z1 z2 z3 z4 z5 z6 => nm_cap hI (by omega) hp87 hN ⟨z1, z2, z3⟩ ⟨z4, z5⟩ z6) (by rw [hp87.1 9 (by decide)]) hls) rfl rfl (by decide) rfl (by decide) rfl (Nat.le_of_ble_eq_true rfl) (fun r93 M93 hr93 hp93 => ?_)
      have hlo2 : lvOk M93 len := by
        unfold lvOk
        rw [hp93.1.1 13 (by decide) (by decide) (by decide) (by decide), hp93.1.1 14 (by decide) (by decide) (by decide) (by decide), hp93.1.1 4 (by decide) (by decide) (by decide) (by decide), hp87.1 13 (by decide), hp87.1 14 (by decide), hp87.1 4 (by decide)]
        exact LvI_lv hI hl.1
      refine k_aload_n C dX9_grow_96 rfl rfl ?_
      refine k_iload_n C dX9_grow_97 rfl rfl ?_
      refine k_callV C okX9_57 dX9_grow_98 (c_Tree_goDown M93 len (by omega) hlo2) rfl rfl (by decide) rfl (by decide) rfl (Nat.le_of_ble_eq_true rfl) (fun r98 M98 hr98 hp98 => ?_)
      refine k_iload_n C dX9_grow_101 rfl rfl ?_
      refine k_istore_n C dX9_grow_102 rfl (by decide) ?_
      refine k_iinc C dX9_grow_103 (by decide) rfl ?_
      refine k_goto C (tgt := 66) dX9_grow_106 rfl ?_
      refine k_cut2 C (lv' := [(0, _), (1, _), (2, _)]) ⟨rfl, rfl, rfl, trivial⟩ ?_
      have nx := LvI_step hI (by omega) hp87 hp93 hp98
      refine l_grow2 M hB C M98 ⟨fun j a b c d e f => ?_, fun i hi => ?_⟩ (fun r z1 z2 => ?_) (N 9 6) (len + 1) (by omega) nx
      · rw [hp98.1 j f, hp93.1.1 j a b c d, hp87.1 j b, hF.1 j a b c d e f]
      · rw [hp98.1 9 (by decide), hp93.1.2 i hi, hp87.1 9 (by decide), hF.2 i hi]
      · rw [hp98.1 13 (by decide), hp93.1.1 13 (by decide) (by decide) (by decide) (by decide), hp87.1 13 (by decide)]; exact hcu r z1 z2
termination_by (12 - len).toNat
decreasing_by all_goals omega
