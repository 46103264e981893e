/-! UsageDesk$Tree: asking for children, going down (cut 13, reached 14, child 10) -/
def lvOk (M : Mem) (len : Int) : Prop := ∀ r, 0 ≤ r → r < 60 → len < M 13 r → (0 ≤ M 14 r ∧ M 14 r < 721) ∧ 0 ≤ M 4 (12 * r + len) ∧ M 4 (12 * r + len) < 8
/-- a row ahead of row asks for the child at i -/
def AskP (M : Mem) (len row i : Int) : Prop := ∃ r, 0 ≤ r ∧ r < row ∧ len < M 13 r ∧ i = 8 * M 14 r + M 4 (12 * r + len)
theorem AskP_s {M : Mem} {len row i : Int} (h0 : 0 ≤ row) : AskP M len (row + 1) i ↔ AskP M len row i ∨ (len < M 13 row ∧ i = 8 * M 14 row + M 4 (12 * row + len)) := by
  constructor
  · rintro ⟨r, a, b, c, d⟩
    by_cases e : r = row
    · subst e; exact Or.inr ⟨c, d⟩
    · exact Or.inl ⟨r, a, by omega, c, d⟩
  · rintro (⟨r, a, b, c, d⟩ | ⟨c, d⟩)
    · exact ⟨r, a, by omega, c, d⟩
    · exact ⟨row, h0, by omega, c, d⟩
def AskI (M N : Mem) (len row : Int) : Prop := (∀ j, j ≠ 10 → N j = M j) ∧ ∀ i, (AskP M len row i → N 10 i = -2) ∧ (¬ AskP M len row i → N 10 i = M 10 i)
theorem AskI_k {M N : Mem} {len row : Int} (h0 : 0 ≤ row) (h : AskI M N len row) (hn : ¬ len < M 13 row) : AskI M N len (row + 1) := by
  refine ⟨h.1, fun i => ⟨fun q => ?_, fun q => ?_⟩⟩
  · rcases (AskP_s h0).mp q with z | z
    · exact (h.2 i).1 z
    · exact absurd z.1 hn
  · exact (h.2 i).2 (fun z => q ((AskP_s h0).mpr (Or.inl z)))
theorem AskI_s {M N : Mem} {len row : Int} (h0 : 0 ≤ row) (h : AskI M N len row) (hl : len < M 13 row) : AskI M (up N 10 (M 14 row * 8 + M 4 (12 * row + len)) (-2)) len (row + 1) := by
  refine ⟨fun j z => by rw [up_ne z, h.1 j z], fun i => ⟨fun q => ?_, fun q => ?_⟩⟩
  · rw [up_at]
    split
    · rfl
    · rcases (AskP_s h0).mp q with z | z
      · exact (h.2 i).1 z
      · omega
  · rw [up_at, if_neg (fun z => q ((AskP_s h0).mpr (Or.inr ⟨hl, by omega⟩)))]
    exact (h.2 i).2 (fun z => q ((AskP_s h0).mpr (Or.inl z)))
set_option maxHeartbeats 4000000 in
set_option maxRecDepth 100000 in
theorem l_ask {K : Kt} (M : Mem) (len : Int) (hl : 0 ≤ len ∧ len < 12) (hq : lvOk M len) (C : Ctx shC nC RX9 cX9_askForChildren 5 none (lvl 1) (fun _ M' => AskI M M' len 60) K) (N : Mem) (row : Int) (hr : 0 ≤ row ∧ row ≤ 60) (hI : AskI M N len row) : K 2 [(0, .inr 9), (1, .inl len), (2, .inl row)] [] N := by
  have e4 := hI.1 4 (by decide); have e13 := hI.1 13 (by decide); have e14 := hI.1 14 (by decide)
  have hqr := hq row hr.1
  refine k_iload_n C dX9_askForChildren_2 rfl rfl ?_
  refine k_bipush C dX9_askForChildren_3 (by decide) ?_
  refine k_icmp_ge C (tgt := 75) dX9_askForChildren_5 rfl (by omega) (by omega) (fun c5 => ?_) (fun c5 => ?_)
  · exact k_vret C dX9_askForChildren_75 (fun _ => by rw [show (60 : Int) = row by omega]; exact hI)
  · refine k_aload_n C dX9_askForChildren_8 rfl rfl ?_
    refine k_getR C (j := 5) okC9 rfl (by decide) (by decide) rfl flX9_24 dX9_askForChildren_9 ?_
    refine k_iload_n C dX9_askForChildren_12 rfl rfl ?_
    refine k_iaload C rfl (by decide) (by decide) ⟨by omega, by omega⟩ dX9_askForChildren_13 (fun ld13 => ?_)
    rw [e14] at ld13 ⊢
    refine k_istore_n C dX9_askForChildren_14 rfl (by decide) ?_
    refine k_aload_n C dX9_askForChildren_15 rfl rfl ?_
    refine k_getR C (j := 0) okC9 rfl (by decide) (by decide) rfl flX9_27 dX9_askForChildren_16 ?_
    refine k_iload_n C dX9_askForChildren_19 rfl rfl ?_
    refine k_iload_n C dX9_askForChildren_20 rfl rfl ?_
    refine k_callV C okX9_60 dX9_askForChildren_21 (c_Book_callAt N row len (by omega) hl) rfl rfl (by decide) rfl (by decide) rfl (Nat.le_of_ble_eq_true rfl) (fun r21 M21 hr21 hp21 => ?_)
    obtain ⟨rfl, rfl⟩ := hp21
    rw [e4] at hr21 ⊢
    refine k_istore C dX9_askForChildren_24 (by decide) ?_
    refine k_aload_n C dX9_askForChildren_26 rfl rfl ?_
    refine k_getR C (j := 4) okC9 rfl (by decide) (by decide) rfl flX9_21 dX9_askForChildren_27 ?_
    refine k_iload_n C dX9_askForChildren_30 rfl rfl ?_
    refine k_iaload C rfl (by decide) (by decide) ⟨by omega, by omega⟩ dX9_askForChildren_31 (fun ld31 => ?_)
    rw [e13] at ld31 ⊢
    refine k_iload_n C dX9_askForChildren_32 rfl rfl ?_
    refine k_icmp_le C (tgt := 69) dX9_askForChildren_33 rfl (by omega) (by omega) (fun c33 => ?_) (fun c33 => ?_)
    · refine k_iinc C dX9_askForChildren_69 (by decide) rfl ?_
      refine k_goto C (tgt := 2) dX9_askForChildren_72 rfl ?_
      refine k_cut2 C (lv' := [(0, _), (1, _), (2, _)]) ⟨rfl, rfl, rfl, trivial⟩ ?_
      first
      | (exfalso; omega)
      | exact l_ask M len hl hq C _ (row + 1) (by omega) (AskI_s hr.1 hI c33)
      | exact l_ask M len hl hq C N (row + 1) (by omega) (AskI_k hr.1 hI (by omega))
    · have hqr := hqr (by omega) c33
      refine k_iload_n C dX9_askForChildren_36 rfl rfl ?_
      refine k_if_lt C (tgt := 69) dX9_askForChildren_37 rfl (by omega) (fun c37 => ?_) (fun c37 => ?_)
      · refine k_iinc C dX9_askForChildren_69 (by decide) rfl ?_
        refine k_goto C (tgt := 2) dX9_askForChildren_72 rfl ?_
        refine k_cut2 C (lv' := [(0, _), (1, _), (2, _)]) ⟨rfl, rfl, rfl, trivial⟩ ?_
        first
        | (exfalso; omega)
        | exact l_ask M len hl hq C _ (row + 1) (by omega) (AskI_s hr.1 hI c33)
        | exact l_ask M len hl hq C N (row + 1) (by omega) (AskI_k hr.1 hI (by omega))
      · refine k_iload_n C dX9_askForChildren_40 rfl rfl ?_
        refine k_sipush C dX9_askForChildren_41 (by decide) ?_
        refine k_icmp_ge C (tgt := 69) dX9_askForChildren_44 rfl (by omega) (by omega) (fun c44 => ?_) (fun c44 => ?_)
        · refine k_iinc C dX9_askForChildren_69 (by decide) rfl ?_
          refine k_goto C (tgt := 2) dX9_askForChildren_72 rfl ?_
          refine k_cut2 C (lv' := [(0, _), (1, _), (2, _)]) ⟨rfl, rfl, rfl, trivial⟩ ?_
          first
          | (exfalso; omega)
          | exact l_ask M len hl hq C _ (row + 1) (by omega) (AskI_s hr.1 hI c33)
          | exact l_ask M len hl hq C N (row + 1) (by omega) (AskI_k hr.1 hI (by omega))
        · refine k_iload C dX9_askForChildren_47 rfl ?_
          refine k_callN C okX9_63 dX9_askForChildren_49 (c_isCall N (M 4 (12 * row + len)) (by omega)) rfl (by decide) rfl (Nat.le_of_ble_eq_true rfl) (fun r49 M49 hr49 hp49 => ?_)
          obtain ⟨rfl, hp49⟩ := hp49
          refine k_if_eq C (tgt := 69) dX9_askForChildren_52 rfl (by omega) (fun c52 => ?_) (fun c52 => ?_)
          · refine k_iinc C dX9_askForChildren_69 (by decide) rfl ?_
            refine k_goto C (tgt := 2) dX9_askForChildren_72 rfl ?_
            refine k_cut2 C (lv' := [(0, _), (1, _), (2, _)]) ⟨rfl, rfl, rfl, trivial⟩ ?_
            first
            | (exfalso; omega)
            | exact l_ask M len hl hq C _ (row + 1) (by omega) (AskI_s hr.1 hI c33)
            | exact l_ask M len hl hq C N (row + 1) (by omega) (AskI_k hr.1 hI (by omega))
          · refine k_aload_n C dX9_askForChildren_55 rfl rfl ?_
            refine k_getR C (j := 1) okC9 rfl (by decide) (by decide) rfl flX9_9 dX9_askForChildren_56 ?_
            refine k_iload_n C dX9_askForChildren_59 rfl rfl ?_
            refine k_bipush C dX9_askForChildren_60 (by decide) ?_
            refine k_imul C dX9_askForChildren_62 ?_
            refine k_iload C dX9_askForChildren_63 rfl ?_
            refine k_iadd C dX9_askForChildren_65 ?_
            refine k_bipush C dX9_askForChildren_66 (by decide) ?_
            refine k_iastore C rfl (by decide) (by decide) ⟨by omega, by omega⟩ (by omega) dX9_askForChildren_68 ?_
            refine k_iinc C dX9_askForChildren_69 (by decide) rfl ?_
            refine k_goto C (tgt := 2) dX9_askForChildren_72 rfl ?_
            refine k_cut2 C (lv' := [(0, _), (1, _), (2, _)]) ⟨rfl, rfl, rfl, trivial⟩ ?_
            first
            | (exfalso; omega)
            | exact l_ask M len hl hq C _ (row + 1) (by omega) (AskI_s hr.1 hI c33)
            | exact l_ask M len hl hq C N (row + 1) (by omega) (AskI_k hr.1 hI (by omega))
termination_by (60 - row).toNat
decreasing_by all_goals omega
set_option maxHeartbeats 4000000 in
set_option maxRecDepth 100000 in
theorem c_Tree_ask (M : Mem) (len : Int) (hl : 0 ≤ len ∧ len < 12) (hq : lvOk M len) : Ct shC nC yX9_askForChildren cX9_askForChildren 5 none (lvl 1) [.inr 9, .inl len] M (fun _ M' => AskI M M' len 60) := by
  refine Ct_of (by decide +kernel) (Nat.le_of_ble_eq_true rfl) (fun K C => ?_)
  refine k_iconst C dX9_askForChildren_0 ?_
  refine k_istore_n C dX9_askForChildren_1 rfl (by decide) ?_
  refine k_cut2 C (lv' := [(0, _), (1, _), (2, _)]) ⟨rfl, rfl, rfl, trivial⟩ ?_
  exact l_ask M len hl hq C M 0 (by omega) ⟨fun _ _ => rfl, fun i => ⟨fun ⟨r, a, b, _⟩ => by omega, fun _ => rfl⟩⟩
noncomputable def gdV (M : Mem) (len r : Int) : Int := iteP (len < M 13 r) (M 10 (8 * M 14 r + M 4 (12 * r + len))) (M 14 r)
def GdI (M N : Mem) (len row : Int) : Prop := (∀ j, j ≠ 14 → N j = M j) ∧ ∀ r, 0 ≤ r → r < 60 → N 14 r = if r < row then gdV M len r else M 14 r
set_option maxHeartbeats 4000000 in
set_option maxRecDepth 100000 in
theorem l_goDown {K : Kt} (M : Mem) (len : Int) (hl : 0 ≤ len ∧ len < 12) (hq : lvOk M len) (C : Ctx shC nC RX9 cX9_goDown 3 none (lvl 1) (fun _ M' => GdI M M' len 60) K) (N : Mem) (row : Int) (hr : 0 ≤ row ∧ row ≤ 60) (hI : GdI M N len row) : K 2 [(0, .inr 9), (1, .inl len), (2, .inl row)] [] N := by
  have e4 := hI.1 4 (by decide); have e13 := hI.1 13 (by decide); have e10 := hI.1 10 (by decide)
  have hqr := hq row hr.1
  refine k_iload_n C dX9_goDown_2 rfl rfl ?_
  refine k_bipush C dX9_goDown_3 (by decide) ?_
  refine k_icmp_ge C (tgt := 49) dX9_goDown_5 rfl (by omega) (by omega) (fun c5 => ?_) (fun c5 => ?_)
  · exact k_vret C dX9_goDown_49 (fun _ => by rw [show (60 : Int) = row by omega]; exact hI)
  · refine k_aload_n C dX9_goDown_8 rfl rfl ?_
    refine k_getR C (j := 4) okC9 rfl (by decide) (by decide) rfl flX9_21 dX9_goDown_9 ?_
    refine k_iload_n C dX9_goDown_12 rfl rfl ?_
    refine k_iaload C rfl (by decide) (by decide) ⟨by omega, by omega⟩ dX9_goDown_13 (fun ld13 => ?_)
    rw [e13] at ld13 ⊢
    have e14 := hI.2 row hr.1 c5
    rw [if_neg (by omega)] at e14
    refine k_iload_n C dX9_goDown_14 rfl rfl ?_
    refine k_icmp_le C (tgt := 43) dX9_goDown_15 rfl (by omega) (by omega) (fun c15 => ?_) (fun c15 => ?_)
    · refine k_iinc C dX9_goDown_43 (by decide) rfl ?_
      refine k_goto C (tgt := 2) dX9_goDown_46 rfl ?_
      refine k_cut2 C (lv' := [(0, _), (1, _), (2, _)]) ⟨rfl, rfl, rfl, trivial⟩ ?_
      first
      | (refine l_goDown M len hl hq C _ (row + 1) (by omega) ⟨fun j z => by rw [up_ne z, hI.1 j z], fun r a b => ?_⟩
         rw [up_at, hI.2 r a b]
         by_cases e : r = row
         · rw [if_pos e, if_pos (by omega), e]; unfold gdV; rw [iteP_pos c15]
         · rw [if_neg e]
           by_cases e2 : r < row
           · rw [if_pos e2, if_pos (by omega)]
           · rw [if_neg e2, if_neg (by omega)])
      | (refine l_goDown M len hl hq C N (row + 1) (by omega) ⟨hI.1, fun r a b => ?_⟩
         rw [hI.2 r a b]
         by_cases e : r = row
         · subst e; rw [if_neg (by omega), if_pos (by omega)]; unfold gdV; rw [iteP_neg (by omega)]
         · by_cases e2 : r < row
           · rw [if_pos e2, if_pos (by omega)]
           · rw [if_neg e2, if_neg (by omega)])
    · have hqr := hqr c5 c15
      refine k_aload_n C dX9_goDown_18 rfl rfl ?_
      refine k_getR C (j := 5) okC9 rfl (by decide) (by decide) rfl flX9_24 dX9_goDown_19 ?_
      refine k_iload_n C dX9_goDown_22 rfl rfl ?_
      refine k_aload_n C dX9_goDown_23 rfl rfl ?_
      refine k_aload_n C dX9_goDown_24 rfl rfl ?_
      refine k_getR C (j := 5) okC9 rfl (by decide) (by decide) rfl flX9_24 dX9_goDown_25 ?_
      refine k_iload_n C dX9_goDown_28 rfl rfl ?_
      refine k_iaload C rfl (by decide) (by decide) ⟨by omega, by omega⟩ dX9_goDown_29 (fun ld29 => ?_)
      rw [e14] at ld29 ⊢
      refine k_aload_n C dX9_goDown_30 rfl rfl ?_
      refine k_getR C (j := 0) okC9 rfl (by decide) (by decide) rfl flX9_27 dX9_goDown_31 ?_
      refine k_iload_n C dX9_goDown_34 rfl rfl ?_
      refine k_iload_n C dX9_goDown_35 rfl rfl ?_
      refine k_callV C okX9_60 dX9_goDown_36 (c_Book_callAt N row len (by omega) hl) rfl rfl (by decide) rfl (by decide) rfl (Nat.le_of_ble_eq_true rfl) (fun r36 M36 hr36 hp36 => ?_)
      obtain ⟨rfl, rfl⟩ := hp36
      rw [e4] at hr36 ⊢
      refine k_callV C okX9_66 dX9_goDown_39 (c_Tree_childOf N (M 14 row) (M 4 (12 * row + len)) (by omega) (by omega)) rfl rfl (by decide) rfl (by decide) rfl (Nat.le_of_ble_eq_true rfl) (fun r39 M39 hr39 hp39 => ?_)
      obtain ⟨rfl, hp39⟩ := hp39
      rw [e10] at hp39
      have e39 : r39 = M 10 (8 * M 14 row + M 4 (12 * row + len)) := by omega
      subst e39
      refine k_iastore C rfl (by decide) (by decide) ⟨by omega, by omega⟩ (by omega) dX9_goDown_42 ?_
      refine k_iinc C dX9_goDown_43 (by decide) rfl ?_
      refine k_goto C (tgt := 2) dX9_goDown_46 rfl ?_
      refine k_cut2 C (lv' := [(0, _), (1, _), (2, _)]) ⟨rfl, rfl, rfl, trivial⟩ ?_
      first
      | (refine l_goDown M len hl hq C _ (row + 1) (by omega) ⟨fun j z => by rw [up_ne z, hI.1 j z], fun r a b => ?_⟩
         rw [up_at, hI.2 r a b]
         by_cases e : r = row
         · rw [if_pos e, if_pos (by omega), e]; unfold gdV; rw [iteP_pos c15]
         · rw [if_neg e]
           by_cases e2 : r < row
           · rw [if_pos e2, if_pos (by omega)]
           · rw [if_neg e2, if_neg (by omega)])
      | (refine l_goDown M len hl hq C N (row + 1) (by omega) ⟨hI.1, fun r a b => ?_⟩
         rw [hI.2 r a b]
         by_cases e : r = row
         · subst e; rw [if_neg (by omega), if_pos (by omega)]; unfold gdV; rw [iteP_neg (by omega)]
         · by_cases e2 : r < row
           · rw [if_pos e2, if_pos (by omega)]
           · rw [if_neg e2, if_neg (by omega)])
termination_by (60 - row).toNat
decreasing_by all_goals omega
set_option maxHeartbeats 4000000 in
set_option maxRecDepth 100000 in
theorem c_Tree_goDown (M : Mem) (len : Int) (hl : 0 ≤ len ∧ len < 12) (hq : lvOk M len) : Ct shC nC yX9_goDown cX9_goDown 3 none (lvl 1) [.inr 9, .inl len] M (fun _ M' => GdI M M' len 60) := by
  refine Ct_of (by decide +kernel) (Nat.le_of_ble_eq_true rfl) (fun K C => ?_)
  refine k_iconst C dX9_goDown_0 ?_
  refine k_istore_n C dX9_goDown_1 rfl (by decide) ?_
  refine k_cut2 C (lv' := [(0, _), (1, _), (2, _)]) ⟨rfl, rfl, rfl, trivial⟩ ?_
  exact l_goDown M len hl hq C M 0 (by omega) ⟨fun _ _ => rfl, fun r a b => by rw [if_neg (by omega)]⟩
