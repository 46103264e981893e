/-! ROUTINES: where a text has its fault, by one pass (open brackets op; st: a star may stand) -/
abbrev mayP (sg op st : Int) : Prop := (sg = 40 ∧ op < 10) ∨ ((sg = 41 ∨ sg = 124) ∧ 0 < op) ∨ (sg = 42 ∧ st = 1) ∨ (97 ≤ sg ∧ sg ≤ 104)
def scf (tx : Int → Int) (n : Int) : Nat → Int → Int → Int → Int
  | 0, _, op, _ => if op = 0 then -1 else n
  | f + 1, i, op, st => if i < n then (if tx i = 32 then scf tx n f (i + 1) op st else if mayP (tx i) op st then scf tx n f (i + 1) (op + (if tx i = 40 then 1 else if tx i = 41 then -1 else 0)) (if tx i = 41 then 1 else 0) else i) else if op = 0 then -1 else n
set_option maxHeartbeats 4000000 in
set_option maxRecDepth 100000 in
theorem l_fault {K : Kt} (M : Mem) (n : Int) (hn : 0 ≤ n ∧ n ≤ 200) (hb : ∀ i, 0 ≤ i → i < 200 → 0 ≤ M 30 i ∧ M 30 i < 256) (C : Ctx shC nC RX8 cX8_faultIn 6 (some .int) (lvl 1) (fun r M' => M = M' ∧ r = scf (M 30) n 201 0 0 0) K) (i op st : Int) (hi : 0 ≤ i ∧ i ≤ n) (ho : 0 ≤ op ∧ op ≤ 10) (hst : st = 0 ∨ st = 1) (f : Nat) (hf : n - i < f) (he : scf (M 30) n 201 0 0 0 = scf (M 30) n f i op st) : K 7 [(0, .inr 30), (1, .inl n), (2, .inl op), (3, .inl st), (4, .inl i)] [] M := by
  obtain ⟨g, rfl⟩ : ∃ g, f = g + 1 := ⟨f - 1, by omega⟩
  have he2 : scf (M 30) n 201 0 0 0 = if i < n then (if M 30 i = 32 then scf (M 30) n g (i + 1) op st else if mayP (M 30 i) op st then scf (M 30) n g (i + 1) (op + (if M 30 i = 40 then 1 else if M 30 i = 41 then -1 else 0)) (if M 30 i = 41 then 1 else 0) else i) else if op = 0 then -1 else n := he
  refine k_iload C dX8_faultIn_7 rfl ?_
  refine k_iload_n C dX8_faultIn_9 rfl rfl ?_
  refine k_icmp_ge C (tgt := 94) dX8_faultIn_10 rfl (by omega) (by omega) (fun c10 => ?_) (fun c10 => ?_)
  · refine k_iload_n C dX8_faultIn_94 rfl rfl ?_
    refine k_if_ne C (tgt := 102) dX8_faultIn_95 rfl (by omega) (fun c95 => ?_) (fun c95 => ?_)
    · refine k_iload_n C dX8_faultIn_102 rfl rfl ?_
      exact k_iret C dX8_faultIn_103 (by omega) (fun _ => ⟨rfl, by rw [he2, if_neg (by omega)]; first | (rw [if_pos c95]; done) | (rw [if_neg c95]; done)⟩)
    · refine k_iconst C dX8_faultIn_98 ?_
      refine k_goto C (tgt := 103) dX8_faultIn_99 rfl ?_
      exact k_iret C dX8_faultIn_103 (by omega) (fun _ => ⟨rfl, by rw [he2, if_neg (by omega)]; first | (rw [if_pos c95]; done) | (rw [if_neg c95]; done)⟩)
  · refine k_iload C dX8_faultIn_13 rfl ?_
    refine k_aload_n C dX8_faultIn_15 rfl rfl ?_
    refine k_len C rfl (by decide) (by decide) dX8_faultIn_16 (fun n16 hn16 => ?_)
    refine k_icmp_ge C (tgt := 94) dX8_faultIn_17 rfl (by omega) (by omega) (fun c17 => ?_) (fun c17 => ?_)
    · refine k_iload_n C dX8_faultIn_94 rfl rfl ?_
      refine k_if_ne C (tgt := 102) dX8_faultIn_95 rfl (by omega) (fun c95 => ?_) (fun c95 => ?_)
      · refine k_iload_n C dX8_faultIn_102 rfl rfl ?_
        exact k_iret C dX8_faultIn_103 (by omega) (fun _ => ⟨rfl, by rw [he2, if_neg (by omega)]; first | (rw [if_pos c95]; done) | (rw [if_neg c95]; done)⟩)
      · refine k_iconst C dX8_faultIn_98 ?_
        refine k_goto C (tgt := 103) dX8_faultIn_99 rfl ?_
        exact k_iret C dX8_faultIn_103 (by omega) (fun _ => ⟨rfl, by rw [he2, if_neg (by omega)]; first | (rw [if_pos c95]; done) | (rw [if_neg c95]; done)⟩)
    · have hbi := hb i hi.1 (by omega)
      rw [if_pos c10] at he2
      refine k_aload_n C dX8_faultIn_20 rfl rfl ?_
      refine k_iload C dX8_faultIn_21 rfl ?_
      refine k_iaload C rfl (by decide) (by decide) ⟨by omega, by omega⟩ dX8_faultIn_23 (fun ld23 => ?_)
      refine k_istore C dX8_faultIn_24 (by decide) ?_
      refine k_iload C dX8_faultIn_26 rfl ?_
      refine k_bipush C dX8_faultIn_28 (by decide) ?_
      refine k_icmp_ne C (tgt := 36) dX8_faultIn_30 rfl (by omega) (by omega) (fun c30 => ?_) (fun c30 => ?_)
      · rw [if_neg c30] at he2
        refine k_iload C dX8_faultIn_36 rfl ?_
        refine k_iload_n C dX8_faultIn_38 rfl rfl ?_
        refine k_iload_n C dX8_faultIn_39 rfl rfl ?_
        refine k_callS C okX8_34 dX8_faultIn_40 (c_mayStand M (M 30 i) op st (by omega) (by omega) hst) rfl (by decide) rfl (Nat.le_of_ble_eq_true rfl) (fun r40 M40 hr40 hp40 => ?_)
        obtain ⟨rfl, hp40⟩ := hp40
        refine k_if_ne C (tgt := 49) dX8_faultIn_43 rfl (by omega) (fun c43 => ?_) (fun c43 => ?_)
        · have hmp : mayP (M 30 i) op st := by rcases hp40 with z | z; exact z.2; omega
          rw [if_pos hmp] at he2
          refine k_iload_n C dX8_faultIn_49 rfl rfl ?_
          refine k_iload C dX8_faultIn_50 rfl ?_
          refine k_bipush C dX8_faultIn_52 (by decide) ?_
          refine k_icmp_ne C (tgt := 61) dX8_faultIn_54 rfl (by omega) (by omega) (fun c54 => ?_) (fun c54 => ?_)
          · refine k_iload C dX8_faultIn_61 rfl ?_
            refine k_bipush C dX8_faultIn_63 (by decide) ?_
            refine k_icmp_ne C (tgt := 72) dX8_faultIn_65 rfl (by omega) (by omega) (fun c65 => ?_) (fun c65 => ?_)
            · refine k_iconst C dX8_faultIn_72 ?_
              refine k_iadd C dX8_faultIn_73 ?_
              refine k_istore_n C dX8_faultIn_74 rfl (by decide) ?_
              refine k_iload C dX8_faultIn_75 rfl ?_
              refine k_bipush C dX8_faultIn_77 (by decide) ?_
              refine k_icmp_ne C (tgt := 86) dX8_faultIn_79 rfl (by omega) (by omega) (fun c79 => ?_) (fun c79 => ?_)
              · refine k_iconst C dX8_faultIn_86 ?_
                refine k_istore_n C dX8_faultIn_87 rfl (by decide) ?_
                refine k_iinc C dX8_faultIn_88 (by decide) rfl ?_
                refine k_goto C (tgt := 7) dX8_faultIn_91 rfl ?_
                refine k_cut2 C (lv' := [(0, _), (1, _), (2, _), (3, _), (4, _)]) ⟨rfl, rfl, rfl, rfl, rfl, trivial⟩ ?_
                first
                | (refine l_fault M n hn hb C (i + 1) op st (by omega) ho hst g (by omega) ?_; rw [he2, if_pos c30]; done)
                | (refine l_fault M n hn hb C (i + 1) _ _ (by omega) (by omega) (by omega) g (by omega) ?_
                   rw [he2]
                   first
                   | (rw [if_pos c54, if_pos c79]; done)
                   | (rw [if_pos c54, if_neg c79]; done)
                   | (rw [if_neg c54, if_pos c65, if_pos c79]; done)
                   | (rw [if_neg c54, if_neg c65, if_neg c79]; done))
                | (exfalso; omega)
              · refine k_iconst C dX8_faultIn_82 ?_
                refine k_goto C (tgt := 87) dX8_faultIn_83 rfl ?_
                refine k_istore_n C dX8_faultIn_87 rfl (by decide) ?_
                refine k_iinc C dX8_faultIn_88 (by decide) rfl ?_
                refine k_goto C (tgt := 7) dX8_faultIn_91 rfl ?_
                refine k_cut2 C (lv' := [(0, _), (1, _), (2, _), (3, _), (4, _)]) ⟨rfl, rfl, rfl, rfl, rfl, trivial⟩ ?_
                first
                | (refine l_fault M n hn hb C (i + 1) op st (by omega) ho hst g (by omega) ?_; rw [he2, if_pos c30]; done)
                | (refine l_fault M n hn hb C (i + 1) _ _ (by omega) (by omega) (by omega) g (by omega) ?_
                   rw [he2]
                   first
                   | (rw [if_pos c54, if_pos c79]; done)
                   | (rw [if_pos c54, if_neg c79]; done)
                   | (rw [if_neg c54, if_pos c65, if_pos c79]; done)
                   | (rw [if_neg c54, if_neg c65, if_neg c79]; done))
                | (exfalso; omega)
            · refine k_iconst C dX8_faultIn_68 ?_
              refine k_goto C (tgt := 73) dX8_faultIn_69 rfl ?_
              refine k_iadd C dX8_faultIn_73 ?_
              refine k_istore_n C dX8_faultIn_74 rfl (by decide) ?_
              refine k_iload C dX8_faultIn_75 rfl ?_
              refine k_bipush C dX8_faultIn_77 (by decide) ?_
              refine k_icmp_ne C (tgt := 86) dX8_faultIn_79 rfl (by omega) (by omega) (fun c79 => ?_) (fun c79 => ?_)
              · refine k_iconst C dX8_faultIn_86 ?_
                refine k_istore_n C dX8_faultIn_87 rfl (by decide) ?_
                refine k_iinc C dX8_faultIn_88 (by decide) rfl ?_
                refine k_goto C (tgt := 7) dX8_faultIn_91 rfl ?_
                refine k_cut2 C (lv' := [(0, _), (1, _), (2, _), (3, _), (4, _)]) ⟨rfl, rfl, rfl, rfl, rfl, trivial⟩ ?_
                first
                | (refine l_fault M n hn hb C (i + 1) op st (by omega) ho hst g (by omega) ?_; rw [he2, if_pos c30]; done)
                | (refine l_fault M n hn hb C (i + 1) _ _ (by omega) (by omega) (by omega) g (by omega) ?_
                   rw [he2]
                   first
                   | (rw [if_pos c54, if_pos c79]; done)
                   | (rw [if_pos c54, if_neg c79]; done)
                   | (rw [if_neg c54, if_pos c65, if_pos c79]; done)
                   | (rw [if_neg c54, if_neg c65, if_neg c79]; done))
                | (exfalso; omega)
              · refine k_iconst C dX8_faultIn_82 ?_
                refine k_goto C (tgt := 87) dX8_faultIn_83 rfl ?_
                refine k_istore_n C dX8_faultIn_87 rfl (by decide) ?_
                refine k_iinc C dX8_faultIn_88 (by decide) rfl ?_
                refine k_goto C (tgt := 7) dX8_faultIn_91 rfl ?_
                refine k_cut2 C (lv' := [(0, _), (1, _), (2, _), (3, _), (4, _)]) ⟨rfl, rfl, rfl, rfl, rfl, trivial⟩ ?_
                first
                | (refine l_fault M n hn hb C (i + 1) op st (by omega) ho hst g (by omega) ?_; rw [he2, if_pos c30]; done)
                | (refine l_fault M n hn hb C (i + 1) _ _ (by omega) (by omega) (by omega) g (by omega) ?_
                   rw [he2]
                   first
                   | (rw [if_pos c54, if_pos c79]; done)
                   | (rw [if_pos c54, if_neg c79]; done)
                   | (rw [if_neg c54, if_pos c65, if_pos c79]; done)
                   | (rw [if_neg c54, if_neg c65, if_neg c79]; done))
                | (exfalso; omega)
          · refine k_iconst C dX8_faultIn_57 ?_
            refine k_goto C (tgt := 73) dX8_faultIn_58 rfl ?_
            refine k_iadd C dX8_faultIn_73 ?_
            refine k_istore_n C dX8_faultIn_74 rfl (by decide) ?_
            refine k_iload C dX8_faultIn_75 rfl ?_
            refine k_bipush C dX8_faultIn_77 (by decide) ?_
            refine k_icmp_ne C (tgt := 86) dX8_faultIn_79 rfl (by omega) (by omega) (fun c79 => ?_) (fun c79 => ?_)
            · refine k_iconst C dX8_faultIn_86 ?_
              refine k_istore_n C dX8_faultIn_87 rfl (by decide) ?_
              refine k_iinc C dX8_faultIn_88 (by decide) rfl ?_
              refine k_goto C (tgt := 7) dX8_faultIn_91 rfl ?_
              refine k_cut2 C (lv' := [(0, _), (1, _), (2, _), (3, _), (4, _)]) ⟨rfl, rfl, rfl, rfl, rfl, trivial⟩ ?_
              first
              | (refine l_fault M n hn hb C (i + 1) op st (by omega) ho hst g (by omega) ?_; rw [he2, if_pos c30]; done)
              | (refine l_fault M n hn hb C (i + 1) _ _ (by omega) (by omega) (by omega) g (by omega) ?_
                 rw [he2]
                 first
                 | (rw [if_pos c54, if_pos c79]; done)
                 | (rw [if_pos c54, if_neg c79]; done)
                 | (rw [if_neg c54, if_pos c65, if_pos c79]; done)
                 | (rw [if_neg c54, if_neg c65, if_neg c79]; done))
              | (exfalso; omega)
            · refine k_iconst C dX8_faultIn_82 ?_
              refine k_goto C (tgt := 87) dX8_faultIn_83 rfl ?_
              refine k_istore_n C dX8_faultIn_87 rfl (by decide) ?_
              refine k_iinc C dX8_faultIn_88 (by decide) rfl ?_
              refine k_goto C (tgt := 7) dX8_faultIn_91 rfl ?_
              refine k_cut2 C (lv' := [(0, _), (1, _), (2, _), (3, _), (4, _)]) ⟨rfl, rfl, rfl, rfl, rfl, trivial⟩ ?_
              first
              | (refine l_fault M n hn hb C (i + 1) op st (by omega) ho hst g (by omega) ?_; rw [he2, if_pos c30]; done)
              | (refine l_fault M n hn hb C (i + 1) _ _ (by omega) (by omega) (by omega) g (by omega) ?_
                 rw [he2]
                 first
                 | (rw [if_pos c54, if_pos c79]; done)
                 | (rw [if_pos c54, if_neg c79]; done)
                 | (rw [if_neg c54, if_pos c65, if_pos c79]; done)
                 | (rw [if_neg c54, if_neg c65, if_neg c79]; done))
              | (exfalso; omega)
        · refine k_iload C dX8_faultIn_46 rfl ?_
          exact k_iret C dX8_faultIn_48 (by omega) (fun _ => ⟨rfl, by rw [he2, if_neg (by rcases hp40 with z | z; omega; exact z.2)]⟩)
      · refine k_goto C (tgt := 88) dX8_faultIn_33 rfl ?_
        refine k_iinc C dX8_faultIn_88 (by decide) rfl ?_
        refine k_goto C (tgt := 7) dX8_faultIn_91 rfl ?_
        refine k_cut2 C (lv' := [(0, _), (1, _), (2, _), (3, _), (4, _)]) ⟨rfl, rfl, rfl, rfl, rfl, trivial⟩ ?_
        first
        | (refine l_fault M n hn hb C (i + 1) op st (by omega) ho hst g (by omega) ?_; rw [he2, if_pos c30]; done)
        | (refine l_fault M n hn hb C (i + 1) _ _ (by omega) (by omega) (by omega) g (by omega) ?_
           rw [he2]
           first
           | (rw [if_pos c54, if_pos c79]; done)
           | (rw [if_pos c54, if_neg c79]; done)
           | (rw [if_neg c54, if_pos c65, if_pos c79]; done)
           | (rw [if_neg c54, if_neg c65, if_neg c79]; done))
        | (exfalso; omega)
termination_by (n - i).toNat
decreasing_by all_goals omega
set_option maxHeartbeats 4000000 in
set_option maxRecDepth 100000 in
theorem c_faultIn (M : Mem) (n : Int) (hn : 0 ≤ n ∧ n ≤ 200) (hb : ∀ i, 0 ≤ i → i < 200 → 0 ≤ M 30 i ∧ M 30 i < 256) : Ct shC nC yX8_faultIn cX8_faultIn 6 (some .int) (lvl 1) [.inr 30, .inl n] M (fun r M' => M = M' ∧ r = scf (M 30) n 201 0 0 0) := by
  refine Ct_of (by decide +kernel) (Nat.le_of_ble_eq_true rfl) (fun K C => ?_)
  refine k_iconst C dX8_faultIn_0 ?_
  refine k_istore_n C dX8_faultIn_1 rfl (by decide) ?_
  refine k_iconst C dX8_faultIn_2 ?_
  refine k_istore_n C dX8_faultIn_3 rfl (by decide) ?_
  refine k_iconst C dX8_faultIn_4 ?_
  refine k_istore C dX8_faultIn_5 (by decide) ?_
  refine k_cut2 C (lv' := [(0, _), (1, _), (2, _), (3, _), (4, _)]) ⟨rfl, rfl, rfl, rfl, rfl, trivial⟩ ?_
  exact l_fault M n hn hb C 0 0 0 (by omega) (by omega) (by omega) 201 (by omega) rfl
