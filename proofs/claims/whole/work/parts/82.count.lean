/-! UsageDesk.count -/
set_option maxHeartbeats 4000000 in
set_option maxRecDepth 100000 in
theorem c_count (M : Mem) (hB : BkC M) (wh : Int) (hw : inR wh) : Ct shC nC yX10_count cX10_count 2 (some .int) (lvl 5) [.inr 0, .inl wh] M (fun r M' => (wh = 0 ∧ M = M' ∧ r = cntI (M 7) (M 3 6)) ∨ (wh = 1 ∧ M = M' ∧ r = M 3 6) ∨ (wh = 2 ∧ M = M' ∧ r = M 23 2) ∨ (wh = 3 ∧ M = M' ∧ r = cnI (fun i => ¬ M 24 i = -1) 240) ∨ (wh = 4 ∧ M = M' ∧ r = M 1 1) ∨ (wh = 5 ∧ M = M' ∧ r = M 29 1) ∨ (wh = 6 ∧ GrP M M' ∧ r = M' 9 6) ∨ (¬ (0 ≤ wh ∧ wh ≤ 6) ∧ M = M' ∧ r = -1)) := by
  refine Ct_of (by decide +kernel) (Nat.le_of_ble_eq_true rfl) (fun K C => ?_)
  refine k_iload_n C dX10_count_0 rfl rfl ?_
  refine k_table C (tgt := 107) dX10_count_1 hw rfl (fun off t z1 z2 z3 z4 => ?_) (fun z1 z2 => ?_) (fun z => ?_)
  · have ew : wh = 0 ∨ wh = 1 ∨ wh = 2 ∨ wh = 3 ∨ wh = 4 ∨ wh = 5 ∨ wh = 6 := by omega
    rcases ew with rfl | rfl | rfl | rfl | rfl | rfl | rfl
    · have eo : off = 43 := by simpa using z3.symm
      subst eo
      have et : t = 44 := by omega
      subst et
      refine k_aload_n C dX10_count_44 rfl rfl ?_
      refine k_getR C (j := 1) okC10 rfl (by decide) (by decide) rfl flX10_21 dX10_count_45 ?_
      refine k_callV C okX10_217 dX10_count_48 (c_Book_countThere M hB) rfl rfl (by decide) rfl (by decide) rfl (Nat.le_of_ble_eq_true rfl) (fun r48 M48 hr48 hp48 => ?_)
      exact k_iret C dX10_count_51 (by omega) (fun _ => Or.inl ⟨rfl, hp48.1, hp48.2⟩)
    · have eo : off = 51 := by simpa using z3.symm
      subst eo
      have et : t = 52 := by omega
      subst et
      refine k_aload_n C dX10_count_52 rfl rfl ?_
      refine k_getR C (j := 1) okC10 rfl (by decide) (by decide) rfl flX10_21 dX10_count_53 ?_
      refine k_getJ C 6 6 rfl okC0 rfl (by decide) (by decide) rfl flX10_114 dX10_count_56 (fun ld56 => ?_)
      exact k_iret C dX10_count_59 (by omega) (fun _ => Or.inr (Or.inl ⟨rfl, rfl, rfl⟩))
    · have eo : off = 59 := by simpa using z3.symm
      subst eo
      have et : t = 60 := by omega
      subst et
      refine k_aload_n C dX10_count_60 rfl rfl ?_
      refine k_getR C (j := 4) okC10 rfl (by decide) (by decide) rfl flX10_46 dX10_count_61 ?_
      refine k_getJ C 2 2 rfl okC4 rfl (by decide) (by decide) rfl flX10_158 dX10_count_64 (fun ld64 => ?_)
      exact k_iret C dX10_count_67 (by omega) (fun _ => Or.inr (Or.inr (Or.inl ⟨rfl, rfl, rfl⟩)))
    · have eo : off = 67 := by simpa using z3.symm
      subst eo
      have et : t = 68 := by omega
      subst et
      refine k_aload_n C dX10_count_68 rfl rfl ?_
      refine k_getR C (j := 4) okC10 rfl (by decide) (by decide) rfl flX10_46 dX10_count_69 ?_
      refine k_callV C okX10_220 dX10_count_72 (c_Law_countSteps M) rfl rfl (by decide) rfl (by decide) rfl (Nat.le_of_ble_eq_true rfl) (fun r72 M72 hr72 hp72 => ?_)
      exact k_iret C dX10_count_75 (by omega) (fun _ => Or.inr (Or.inr (Or.inr (Or.inl ⟨rfl, hp72.1, hp72.2⟩))))
    · have eo : off = 75 := by simpa using z3.symm
      subst eo
      have et : t = 76 := by omega
      subst et
      refine k_aload_n C dX10_count_76 rfl rfl ?_
      refine k_getR C (j := 0) okC10 rfl (by decide) (by decide) rfl flX10_14 dX10_count_77 ?_
      refine k_getJ C 1 1 rfl okC5 rfl (by decide) (by decide) rfl flX10_106 dX10_count_80 (fun ld80 => ?_)
      exact k_iret C dX10_count_83 (by omega) (fun _ => Or.inr (Or.inr (Or.inr (Or.inr (Or.inl ⟨rfl, rfl, rfl⟩)))))
    · have eo : off = 83 := by simpa using z3.symm
      subst eo
      have et : t = 84 := by omega
      subst et
      refine k_aload_n C dX10_count_84 rfl rfl ?_
      refine k_getR C (j := 6) okC10 rfl (by decide) (by decide) rfl flX10_57 dX10_count_85 ?_
      refine k_getJ C 1 1 rfl okC5 rfl (by decide) (by decide) rfl flX10_106 dX10_count_88 (fun ld88 => ?_)
      exact k_iret C dX10_count_91 (by omega) (fun _ => Or.inr (Or.inr (Or.inr (Or.inr (Or.inr (Or.inl ⟨rfl, rfl, rfl⟩))))))
    · have eo : off = 91 := by simpa using z3.symm
      subst eo
      have et : t = 92 := by omega
      subst et
      refine k_aload_n C dX10_count_92 rfl rfl ?_
      refine k_getR C (j := 2) okC10 rfl (by decide) (by decide) rfl flX10_30 dX10_count_93 ?_
      refine k_callV C okX10_144 dX10_count_96 (c_Tree_grow M hB) rfl rfl (by decide) rfl (by decide) rfl (Nat.le_of_ble_eq_true rfl) (fun r96 M96 hr96 hp96 => ?_)
      refine k_aload_n C dX10_count_99 rfl rfl ?_
      refine k_getR C (j := 2) okC10 rfl (by decide) (by decide) rfl flX10_30 dX10_count_100 ?_
      refine k_getJ C 6 6 rfl okC9 rfl (by decide) (by decide) rfl flX10_175 dX10_count_103 (fun ld103 => ?_)
      exact k_iret C dX10_count_106 (by omega) (fun _ => Or.inr (Or.inr (Or.inr (Or.inr (Or.inr (Or.inr (Or.inl ⟨rfl, hp96, rfl⟩)))))))
  · have ew : wh = 0 ∨ wh = 1 ∨ wh = 2 ∨ wh = 3 ∨ wh = 4 ∨ wh = 5 ∨ wh = 6 := by omega
    rcases ew with rfl | rfl | rfl | rfl | rfl | rfl | rfl
    · exact ⟨43, 44, rfl, rfl⟩
    · exact ⟨51, 52, rfl, rfl⟩
    · exact ⟨59, 60, rfl, rfl⟩
    · exact ⟨67, 68, rfl, rfl⟩
    · exact ⟨75, 76, rfl, rfl⟩
    · exact ⟨83, 84, rfl, rfl⟩
    · exact ⟨91, 92, rfl, rfl⟩
  · refine k_iconst C dX10_count_107 ?_
    exact k_iret C dX10_count_108 (by omega) (fun _ => Or.inr (Or.inr (Or.inr (Or.inr (Or.inr (Or.inr (Or.inr (⟨by omega, rfl, rfl⟩))))))))
