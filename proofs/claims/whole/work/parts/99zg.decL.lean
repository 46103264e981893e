/-! THE LAW: decode rows of its eight wrappers, words of its calls -/
theorem dL_push_0 : decode cL_push 0 = .ok (.aload_n 2, 1) := by decide +kernel
theorem dL_push_1 : decode cL_push 1 = .ok (.iconst 0, 1) := by decide +kernel
theorem dL_push_2 : decode cL_push 2 = .ok (.aload_n 0, 1) := by decide +kernel
theorem dL_push_3 : decode cL_push 3 = .ok (.iload_n 1, 1) := by decide +kernel
theorem dL_push_4 : decode cL_push 4 = .ok (.invokevirtual 7, 3) := by decide +kernel
theorem dL_push_7 : decode cL_push 7 = .ok (.i2l, 1) := by decide +kernel
theorem dL_push_8 : decode cL_push 8 = .ok (.lastore, 1) := by decide +kernel
theorem dL_push_9 : decode cL_push 9 = .ok (.goto 6, 3) := by decide +kernel
theorem dL_push_12 : decode cL_push 12 = .ok (.astore_n 3, 1) := by decide +kernel
theorem dL_push_13 : decode cL_push 13 = .ok (.iconst 1, 1) := by decide +kernel
theorem dL_push_14 : decode cL_push 14 = .ok (.ireturn, 1) := by decide +kernel
theorem dL_push_15 : decode cL_push 15 = .ok (.iconst 0, 1) := by decide +kernel
theorem dL_push_16 : decode cL_push 16 = .ok (.ireturn, 1) := by decide +kernel
theorem dL_drop_0 : decode cL_drop 0 = .ok (.aload_n 2, 1) := by decide +kernel
theorem dL_drop_1 : decode cL_drop 1 = .ok (.iconst 0, 1) := by decide +kernel
theorem dL_drop_2 : decode cL_drop 2 = .ok (.aload_n 0, 1) := by decide +kernel
theorem dL_drop_3 : decode cL_drop 3 = .ok (.iload_n 1, 1) := by decide +kernel
theorem dL_drop_4 : decode cL_drop 4 = .ok (.invokevirtual 15, 3) := by decide +kernel
theorem dL_drop_7 : decode cL_drop 7 = .ok (.ifCond .eq 7, 3) := by decide +kernel
theorem dL_drop_10 : decode cL_drop 10 = .ok (.lconst 1, 1) := by decide +kernel
theorem dL_drop_11 : decode cL_drop 11 = .ok (.goto 4, 3) := by decide +kernel
theorem dL_drop_14 : decode cL_drop 14 = .ok (.lconst 0, 1) := by decide +kernel
theorem dL_drop_15 : decode cL_drop 15 = .ok (.lastore, 1) := by decide +kernel
theorem dL_drop_16 : decode cL_drop 16 = .ok (.goto 6, 3) := by decide +kernel
theorem dL_drop_19 : decode cL_drop 19 = .ok (.astore_n 3, 1) := by decide +kernel
theorem dL_drop_20 : decode cL_drop 20 = .ok (.iconst 1, 1) := by decide +kernel
theorem dL_drop_21 : decode cL_drop 21 = .ok (.ireturn, 1) := by decide +kernel
theorem dL_drop_22 : decode cL_drop 22 = .ok (.iconst 0, 1) := by decide +kernel
theorem dL_drop_23 : decode cL_drop 23 = .ok (.ireturn, 1) := by decide +kernel
theorem dL_told_0 : decode cL_told 0 = .ok (.aload_n 3, 1) := by decide +kernel
theorem dL_told_1 : decode cL_told 1 = .ok (.iconst 0, 1) := by decide +kernel
theorem dL_told_2 : decode cL_told 2 = .ok (.aload_n 0, 1) := by decide +kernel
theorem dL_told_3 : decode cL_told 3 = .ok (.iload_n 1, 1) := by decide +kernel
theorem dL_told_4 : decode cL_told 4 = .ok (.iload_n 2, 1) := by decide +kernel
theorem dL_told_5 : decode cL_told 5 = .ok (.invokevirtual 21, 3) := by decide +kernel
theorem dL_told_8 : decode cL_told 8 = .ok (.i2l, 1) := by decide +kernel
theorem dL_told_9 : decode cL_told 9 = .ok (.lastore, 1) := by decide +kernel
theorem dL_told_10 : decode cL_told 10 = .ok (.goto 11, 3) := by decide +kernel
theorem dL_told_13 : decode cL_told 13 = .ok (.astore 4, 2) := by decide +kernel
theorem dL_told_15 : decode cL_told 15 = .ok (.iconst 1, 1) := by decide +kernel
theorem dL_told_16 : decode cL_told 16 = .ok (.ireturn, 1) := by decide +kernel
theorem dL_told_17 : decode cL_told 17 = .ok (.astore 4, 2) := by decide +kernel
theorem dL_told_19 : decode cL_told 19 = .ok (.iconst 2, 1) := by decide +kernel
theorem dL_told_20 : decode cL_told 20 = .ok (.ireturn, 1) := by decide +kernel
theorem dL_told_21 : decode cL_told 21 = .ok (.iconst 0, 1) := by decide +kernel
theorem dL_told_22 : decode cL_told 22 = .ok (.ireturn, 1) := by decide +kernel
theorem dL_step_0 : decode cL_step 0 = .ok (.aload_n 3, 1) := by decide +kernel
theorem dL_step_1 : decode cL_step 1 = .ok (.iconst 0, 1) := by decide +kernel
theorem dL_step_2 : decode cL_step 2 = .ok (.aload_n 0, 1) := by decide +kernel
theorem dL_step_3 : decode cL_step 3 = .ok (.iload_n 1, 1) := by decide +kernel
theorem dL_step_4 : decode cL_step 4 = .ok (.iload_n 2, 1) := by decide +kernel
theorem dL_step_5 : decode cL_step 5 = .ok (.invokevirtual 25, 3) := by decide +kernel
theorem dL_step_8 : decode cL_step 8 = .ok (.i2l, 1) := by decide +kernel
theorem dL_step_9 : decode cL_step 9 = .ok (.lastore, 1) := by decide +kernel
theorem dL_step_10 : decode cL_step 10 = .ok (.goto 11, 3) := by decide +kernel
theorem dL_step_13 : decode cL_step 13 = .ok (.astore 4, 2) := by decide +kernel
theorem dL_step_15 : decode cL_step 15 = .ok (.iconst 1, 1) := by decide +kernel
theorem dL_step_16 : decode cL_step 16 = .ok (.ireturn, 1) := by decide +kernel
theorem dL_step_17 : decode cL_step 17 = .ok (.astore 4, 2) := by decide +kernel
theorem dL_step_19 : decode cL_step 19 = .ok (.iconst 2, 1) := by decide +kernel
theorem dL_step_20 : decode cL_step 20 = .ok (.ireturn, 1) := by decide +kernel
theorem dL_step_21 : decode cL_step 21 = .ok (.iconst 0, 1) := by decide +kernel
theorem dL_step_22 : decode cL_step 22 = .ok (.ireturn, 1) := by decide +kernel
theorem dL_seen_0 : decode cL_seen 0 = .ok (.aload_n 3, 1) := by decide +kernel
theorem dL_seen_1 : decode cL_seen 1 = .ok (.iconst 0, 1) := by decide +kernel
theorem dL_seen_2 : decode cL_seen 2 = .ok (.aload_n 0, 1) := by decide +kernel
theorem dL_seen_3 : decode cL_seen 3 = .ok (.iload_n 1, 1) := by decide +kernel
theorem dL_seen_4 : decode cL_seen 4 = .ok (.iload_n 2, 1) := by decide +kernel
theorem dL_seen_5 : decode cL_seen 5 = .ok (.invokevirtual 28, 3) := by decide +kernel
theorem dL_seen_8 : decode cL_seen 8 = .ok (.i2l, 1) := by decide +kernel
theorem dL_seen_9 : decode cL_seen 9 = .ok (.lastore, 1) := by decide +kernel
theorem dL_seen_10 : decode cL_seen 10 = .ok (.goto 11, 3) := by decide +kernel
theorem dL_seen_13 : decode cL_seen 13 = .ok (.astore 4, 2) := by decide +kernel
theorem dL_seen_15 : decode cL_seen 15 = .ok (.iconst 1, 1) := by decide +kernel
theorem dL_seen_16 : decode cL_seen 16 = .ok (.ireturn, 1) := by decide +kernel
theorem dL_seen_17 : decode cL_seen 17 = .ok (.astore 4, 2) := by decide +kernel
theorem dL_seen_19 : decode cL_seen 19 = .ok (.iconst 2, 1) := by decide +kernel
theorem dL_seen_20 : decode cL_seen 20 = .ok (.ireturn, 1) := by decide +kernel
theorem dL_seen_21 : decode cL_seen 21 = .ok (.iconst 0, 1) := by decide +kernel
theorem dL_seen_22 : decode cL_seen 22 = .ok (.ireturn, 1) := by decide +kernel
theorem dL_routine_0 : decode cL_routine 0 = .ok (.aload_n 2, 1) := by decide +kernel
theorem dL_routine_1 : decode cL_routine 1 = .ok (.iconst 0, 1) := by decide +kernel
theorem dL_routine_2 : decode cL_routine 2 = .ok (.aload_n 0, 1) := by decide +kernel
theorem dL_routine_3 : decode cL_routine 3 = .ok (.iload_n 1, 1) := by decide +kernel
theorem dL_routine_4 : decode cL_routine 4 = .ok (.invokevirtual 31, 3) := by decide +kernel
theorem dL_routine_7 : decode cL_routine 7 = .ok (.i2l, 1) := by decide +kernel
theorem dL_routine_8 : decode cL_routine 8 = .ok (.lastore, 1) := by decide +kernel
theorem dL_routine_9 : decode cL_routine 9 = .ok (.goto 6, 3) := by decide +kernel
theorem dL_routine_12 : decode cL_routine 12 = .ok (.astore_n 3, 1) := by decide +kernel
theorem dL_routine_13 : decode cL_routine 13 = .ok (.iconst 1, 1) := by decide +kernel
theorem dL_routine_14 : decode cL_routine 14 = .ok (.ireturn, 1) := by decide +kernel
theorem dL_routine_15 : decode cL_routine 15 = .ok (.iconst 0, 1) := by decide +kernel
theorem dL_routine_16 : decode cL_routine 16 = .ok (.ireturn, 1) := by decide +kernel
theorem dL_habit_0 : decode cL_habit 0 = .ok (.aload 4, 2) := by decide +kernel
theorem dL_habit_2 : decode cL_habit 2 = .ok (.iconst 0, 1) := by decide +kernel
theorem dL_habit_3 : decode cL_habit 3 = .ok (.aload_n 0, 1) := by decide +kernel
theorem dL_habit_4 : decode cL_habit 4 = .ok (.iload_n 1, 1) := by decide +kernel
theorem dL_habit_5 : decode cL_habit 5 = .ok (.iload_n 2, 1) := by decide +kernel
theorem dL_habit_6 : decode cL_habit 6 = .ok (.iload_n 3, 1) := by decide +kernel
theorem dL_habit_7 : decode cL_habit 7 = .ok (.invokevirtual 34, 3) := by decide +kernel
theorem dL_habit_10 : decode cL_habit 10 = .ok (.i2l, 1) := by decide +kernel
theorem dL_habit_11 : decode cL_habit 11 = .ok (.lastore, 1) := by decide +kernel
theorem dL_habit_12 : decode cL_habit 12 = .ok (.goto 7, 3) := by decide +kernel
theorem dL_habit_15 : decode cL_habit 15 = .ok (.astore 5, 2) := by decide +kernel
theorem dL_habit_17 : decode cL_habit 17 = .ok (.iconst 1, 1) := by decide +kernel
theorem dL_habit_18 : decode cL_habit 18 = .ok (.ireturn, 1) := by decide +kernel
theorem dL_habit_19 : decode cL_habit 19 = .ok (.iconst 0, 1) := by decide +kernel
theorem dL_habit_20 : decode cL_habit 20 = .ok (.ireturn, 1) := by decide +kernel
theorem dL_rank_0 : decode cL_rank 0 = .ok (.aload_n 3, 1) := by decide +kernel
theorem dL_rank_1 : decode cL_rank 1 = .ok (.iconst 0, 1) := by decide +kernel
theorem dL_rank_2 : decode cL_rank 2 = .ok (.aload_n 0, 1) := by decide +kernel
theorem dL_rank_3 : decode cL_rank 3 = .ok (.iload_n 1, 1) := by decide +kernel
theorem dL_rank_4 : decode cL_rank 4 = .ok (.iload_n 2, 1) := by decide +kernel
theorem dL_rank_5 : decode cL_rank 5 = .ok (.invokevirtual 38, 3) := by decide +kernel
theorem dL_rank_8 : decode cL_rank 8 = .ok (.i2l, 1) := by decide +kernel
theorem dL_rank_9 : decode cL_rank 9 = .ok (.lastore, 1) := by decide +kernel
theorem dL_rank_10 : decode cL_rank 10 = .ok (.goto 7, 3) := by decide +kernel
theorem dL_rank_13 : decode cL_rank 13 = .ok (.astore 4, 2) := by decide +kernel
theorem dL_rank_15 : decode cL_rank 15 = .ok (.iconst 1, 1) := by decide +kernel
theorem dL_rank_16 : decode cL_rank 16 = .ok (.ireturn, 1) := by decide +kernel
theorem dL_rank_17 : decode cL_rank 17 = .ok (.iconst 0, 1) := by decide +kernel
theorem dL_rank_18 : decode cL_rank 18 = .ok (.ireturn, 1) := by decide +kernel
/-- a wrapper's words at a call -/
def okW (index : Nat) (y : MethodName) (cc : ByteArray) (nL : Nat) (hs : List (Nat × Nat × Nat × Nat)) (n : Nat) : Prop :=
  (∀ w ∈ [Cond.methodLink RL index y, Cond.static y, Cond.initialized RL, Cond.codeWith y cc nL (some .int) hs], w ∈ tbg) ∧ (y.cls = RL ∧ y.cls ≠ "java/lang/invoke/MethodHandle" ∧ y.cls ≠ "java/lang/invoke/VarHandle" ∧ (parseMethodDescriptor y.desc).map (fun d => d.parameters.length) = some n)
set_option maxRecDepth 100000 in
theorem okL_15 : okV RL 15 yX10_drop cX10_drop 3 (some .boolean) 1 := ⟨good_l (List.forall_mem_cons.mpr ⟨in_4 70 (by decide +kernel) rfl, List.forall_mem_cons.mpr ⟨in_4 71 (by decide +kernel) rfl, List.forall_mem_cons.mpr ⟨in_4 72 (by decide +kernel) rfl, List.forall_mem_cons.mpr ⟨in_1 1 (by decide +kernel) rfl, List.forall_mem_cons.mpr ⟨in_4 73 (by decide +kernel) rfl, List.forall_mem_nil _⟩⟩⟩⟩⟩), by decide +kernel⟩
set_option maxRecDepth 100000 in
theorem okL_34 : okV RL 34 yX10_habit cX10_habit 4 (some .int) 3 := ⟨good_l (List.forall_mem_cons.mpr ⟨in_4 158 (by decide +kernel) rfl, List.forall_mem_cons.mpr ⟨in_4 159 (by decide +kernel) rfl, List.forall_mem_cons.mpr ⟨in_4 160 (by decide +kernel) rfl, List.forall_mem_cons.mpr ⟨in_1 1 (by decide +kernel) rfl, List.forall_mem_cons.mpr ⟨in_4 161 (by decide +kernel) rfl, List.forall_mem_nil _⟩⟩⟩⟩⟩), by decide +kernel⟩
set_option maxRecDepth 100000 in
theorem okL_45 : okW 45 yL_push cL_push 4 [(0, 9, 12, 13)] 3 := ⟨List.forall_mem_cons.mpr ⟨in_3 230 (by decide +kernel) rfl, List.forall_mem_cons.mpr ⟨in_3 231 (by decide +kernel) rfl, List.forall_mem_cons.mpr ⟨in_1 0 (by decide +kernel) rfl, List.forall_mem_cons.mpr ⟨in_3 232 (by decide +kernel) rfl, List.forall_mem_nil _⟩⟩⟩⟩, by decide +kernel⟩
set_option maxRecDepth 100000 in
theorem okL_50 : okV RL 50 yX11_push cX11_push 2 (some .int) 1 := ⟨good_l (List.forall_mem_cons.mpr ⟨in_5 152 (by decide +kernel) rfl, List.forall_mem_cons.mpr ⟨in_5 153 (by decide +kernel) rfl, List.forall_mem_cons.mpr ⟨in_5 154 (by decide +kernel) rfl, List.forall_mem_cons.mpr ⟨in_1 14 (by decide +kernel) rfl, List.forall_mem_cons.mpr ⟨in_5 155 (by decide +kernel) rfl, List.forall_mem_nil _⟩⟩⟩⟩⟩), by decide +kernel⟩
set_option maxRecDepth 100000 in
theorem okL_51 : okV RL 51 yX11_thrown cX11_thrown 1 (some .int) 0 := ⟨good_l (List.forall_mem_cons.mpr ⟨in_5 148 (by decide +kernel) rfl, List.forall_mem_cons.mpr ⟨in_5 149 (by decide +kernel) rfl, List.forall_mem_cons.mpr ⟨in_5 150 (by decide +kernel) rfl, List.forall_mem_cons.mpr ⟨in_1 14 (by decide +kernel) rfl, List.forall_mem_cons.mpr ⟨in_5 151 (by decide +kernel) rfl, List.forall_mem_nil _⟩⟩⟩⟩⟩), by decide +kernel⟩
set_option maxRecDepth 100000 in
theorem okL_55 : okV RL 55 yX10_empty cX10_empty 2 (some .int) 0 := ⟨good_l (List.forall_mem_cons.mpr ⟨in_2 129 (by decide +kernel) rfl, List.forall_mem_cons.mpr ⟨in_2 130 (by decide +kernel) rfl, List.forall_mem_cons.mpr ⟨in_2 131 (by decide +kernel) rfl, List.forall_mem_cons.mpr ⟨in_1 1 (by decide +kernel) rfl, List.forall_mem_cons.mpr ⟨in_2 132 (by decide +kernel) rfl, List.forall_mem_nil _⟩⟩⟩⟩⟩), by decide +kernel⟩
set_option maxRecDepth 100000 in
theorem okL_58 : okV RL 58 yX11_empty cX11_empty 2 (some .int) 0 := ⟨good_l (List.forall_mem_cons.mpr ⟨in_5 163 (by decide +kernel) rfl, List.forall_mem_cons.mpr ⟨in_5 164 (by decide +kernel) rfl, List.forall_mem_cons.mpr ⟨in_5 165 (by decide +kernel) rfl, List.forall_mem_cons.mpr ⟨in_1 14 (by decide +kernel) rfl, List.forall_mem_cons.mpr ⟨in_5 166 (by decide +kernel) rfl, List.forall_mem_nil _⟩⟩⟩⟩⟩), by decide +kernel⟩
set_option maxRecDepth 100000 in
theorem okL_59 : okV RL 59 yX10_hand cX10_hand 2 (some .int) 1 := ⟨good_l (List.forall_mem_cons.mpr ⟨in_2 133 (by decide +kernel) rfl, List.forall_mem_cons.mpr ⟨in_2 134 (by decide +kernel) rfl, List.forall_mem_cons.mpr ⟨in_2 135 (by decide +kernel) rfl, List.forall_mem_cons.mpr ⟨in_1 1 (by decide +kernel) rfl, List.forall_mem_cons.mpr ⟨in_2 136 (by decide +kernel) rfl, List.forall_mem_nil _⟩⟩⟩⟩⟩), by decide +kernel⟩
set_option maxRecDepth 100000 in
theorem okL_62 : okV RL 62 yX11_hand cX11_hand 2 (some .int) 1 := ⟨good_l (List.forall_mem_cons.mpr ⟨in_5 167 (by decide +kernel) rfl, List.forall_mem_cons.mpr ⟨in_5 168 (by decide +kernel) rfl, List.forall_mem_cons.mpr ⟨in_5 169 (by decide +kernel) rfl, List.forall_mem_cons.mpr ⟨in_1 14 (by decide +kernel) rfl, List.forall_mem_cons.mpr ⟨in_5 170 (by decide +kernel) rfl, List.forall_mem_nil _⟩⟩⟩⟩⟩), by decide +kernel⟩
set_option maxRecDepth 100000 in
theorem okL_63 : okV RL 63 yX10_row cX10_row 3 (some .int) 1 := ⟨good_l (List.forall_mem_cons.mpr ⟨in_2 141 (by decide +kernel) rfl, List.forall_mem_cons.mpr ⟨in_2 142 (by decide +kernel) rfl, List.forall_mem_cons.mpr ⟨in_2 143 (by decide +kernel) rfl, List.forall_mem_cons.mpr ⟨in_1 1 (by decide +kernel) rfl, List.forall_mem_cons.mpr ⟨in_2 144 (by decide +kernel) rfl, List.forall_mem_nil _⟩⟩⟩⟩⟩), by decide +kernel⟩
set_option maxRecDepth 100000 in
theorem okL_67 : okV RL 67 yX11_row cX11_row 3 (some .int) 1 := ⟨good_l (List.forall_mem_cons.mpr ⟨in_5 171 (by decide +kernel) rfl, List.forall_mem_cons.mpr ⟨in_5 172 (by decide +kernel) rfl, List.forall_mem_cons.mpr ⟨in_5 173 (by decide +kernel) rfl, List.forall_mem_cons.mpr ⟨in_1 14 (by decide +kernel) rfl, List.forall_mem_cons.mpr ⟨in_5 174 (by decide +kernel) rfl, List.forall_mem_nil _⟩⟩⟩⟩⟩), by decide +kernel⟩
set_option maxRecDepth 100000 in
theorem okL_68 : okW 68 yL_drop cL_drop 4 [(0, 16, 19, 19)] 3 := ⟨List.forall_mem_cons.mpr ⟨in_4 66 (by decide +kernel) rfl, List.forall_mem_cons.mpr ⟨in_4 67 (by decide +kernel) rfl, List.forall_mem_cons.mpr ⟨in_1 0 (by decide +kernel) rfl, List.forall_mem_cons.mpr ⟨in_4 68 (by decide +kernel) rfl, List.forall_mem_nil _⟩⟩⟩⟩, by decide +kernel⟩
set_option maxRecDepth 100000 in
theorem okL_70 : okV RL 70 yX11_drop cX11_drop 3 (some .boolean) 1 := ⟨good_l (List.forall_mem_cons.mpr ⟨in_5 175 (by decide +kernel) rfl, List.forall_mem_cons.mpr ⟨in_5 176 (by decide +kernel) rfl, List.forall_mem_cons.mpr ⟨in_5 177 (by decide +kernel) rfl, List.forall_mem_cons.mpr ⟨in_1 14 (by decide +kernel) rfl, List.forall_mem_cons.mpr ⟨in_5 178 (by decide +kernel) rfl, List.forall_mem_nil _⟩⟩⟩⟩⟩), by decide +kernel⟩
set_option maxRecDepth 100000 in
theorem okL_71 : okW 71 yL_told cL_told 5 [(0, 10, 13, 19), (0, 10, 17, 13)] 4 := ⟨List.forall_mem_cons.mpr ⟨in_4 91 (by decide +kernel) rfl, List.forall_mem_cons.mpr ⟨in_4 92 (by decide +kernel) rfl, List.forall_mem_cons.mpr ⟨in_1 0 (by decide +kernel) rfl, List.forall_mem_cons.mpr ⟨in_4 93 (by decide +kernel) rfl, List.forall_mem_nil _⟩⟩⟩⟩, by decide +kernel⟩
set_option maxRecDepth 100000 in
theorem okL_74 : okV RL 74 yX11_told cX11_told 3 (some .int) 2 := ⟨good_l (List.forall_mem_cons.mpr ⟨in_5 183 (by decide +kernel) rfl, List.forall_mem_cons.mpr ⟨in_5 184 (by decide +kernel) rfl, List.forall_mem_cons.mpr ⟨in_5 185 (by decide +kernel) rfl, List.forall_mem_cons.mpr ⟨in_1 14 (by decide +kernel) rfl, List.forall_mem_cons.mpr ⟨in_5 186 (by decide +kernel) rfl, List.forall_mem_nil _⟩⟩⟩⟩⟩), by decide +kernel⟩
set_option maxRecDepth 100000 in
theorem okL_75 : okV RL 75 yX10_learn cX10_learn 1 (some .int) 0 := ⟨good_l (List.forall_mem_cons.mpr ⟨in_2 150 (by decide +kernel) rfl, List.forall_mem_cons.mpr ⟨in_2 151 (by decide +kernel) rfl, List.forall_mem_cons.mpr ⟨in_2 152 (by decide +kernel) rfl, List.forall_mem_cons.mpr ⟨in_1 1 (by decide +kernel) rfl, List.forall_mem_cons.mpr ⟨in_2 153 (by decide +kernel) rfl, List.forall_mem_nil _⟩⟩⟩⟩⟩), by decide +kernel⟩
set_option maxRecDepth 100000 in
theorem okL_78 : okV RL 78 yX11_learn cX11_learn 6 (some .int) 0 := ⟨good_l (List.forall_mem_cons.mpr ⟨in_5 199 (by decide +kernel) rfl, List.forall_mem_cons.mpr ⟨in_5 200 (by decide +kernel) rfl, List.forall_mem_cons.mpr ⟨in_5 201 (by decide +kernel) rfl, List.forall_mem_cons.mpr ⟨in_1 14 (by decide +kernel) rfl, List.forall_mem_cons.mpr ⟨in_5 202 (by decide +kernel) rfl, List.forall_mem_nil _⟩⟩⟩⟩⟩), by decide +kernel⟩
set_option maxRecDepth 100000 in
theorem okL_79 : okW 79 yL_step cL_step 5 [(0, 10, 13, 19), (0, 10, 17, 13)] 4 := ⟨List.forall_mem_cons.mpr ⟨in_4 105 (by decide +kernel) rfl, List.forall_mem_cons.mpr ⟨in_4 106 (by decide +kernel) rfl, List.forall_mem_cons.mpr ⟨in_1 0 (by decide +kernel) rfl, List.forall_mem_cons.mpr ⟨in_4 107 (by decide +kernel) rfl, List.forall_mem_nil _⟩⟩⟩⟩, by decide +kernel⟩
set_option maxRecDepth 100000 in
theorem okL_81 : okV RL 81 yX11_step cX11_step 3 (some .int) 2 := ⟨good_l (List.forall_mem_cons.mpr ⟨in_5 231 (by decide +kernel) rfl, List.forall_mem_cons.mpr ⟨in_5 232 (by decide +kernel) rfl, List.forall_mem_cons.mpr ⟨in_5 233 (by decide +kernel) rfl, List.forall_mem_cons.mpr ⟨in_1 14 (by decide +kernel) rfl, List.forall_mem_cons.mpr ⟨in_5 234 (by decide +kernel) rfl, List.forall_mem_nil _⟩⟩⟩⟩⟩), by decide +kernel⟩
set_option maxRecDepth 100000 in
theorem okL_82 : okW 82 yL_seen cL_seen 5 [(0, 10, 13, 19), (0, 10, 17, 13)] 4 := ⟨List.forall_mem_cons.mpr ⟨in_4 118 (by decide +kernel) rfl, List.forall_mem_cons.mpr ⟨in_4 119 (by decide +kernel) rfl, List.forall_mem_cons.mpr ⟨in_1 0 (by decide +kernel) rfl, List.forall_mem_cons.mpr ⟨in_4 120 (by decide +kernel) rfl, List.forall_mem_nil _⟩⟩⟩⟩, by decide +kernel⟩
set_option maxRecDepth 100000 in
theorem okL_84 : okV RL 84 yX11_seen cX11_seen 3 (some .int) 2 := ⟨good_l (List.forall_mem_cons.mpr ⟨in_5 239 (by decide +kernel) rfl, List.forall_mem_cons.mpr ⟨in_6 0 (by decide +kernel) rfl, List.forall_mem_cons.mpr ⟨in_6 1 (by decide +kernel) rfl, List.forall_mem_cons.mpr ⟨in_1 14 (by decide +kernel) rfl, List.forall_mem_cons.mpr ⟨in_6 2 (by decide +kernel) rfl, List.forall_mem_nil _⟩⟩⟩⟩⟩), by decide +kernel⟩
set_option maxRecDepth 100000 in
theorem okL_85 : okV RL 85 yX10_doubt cX10_doubt 2 (some .int) 1 := ⟨good_l (List.forall_mem_cons.mpr ⟨in_3 56 (by decide +kernel) rfl, List.forall_mem_cons.mpr ⟨in_3 57 (by decide +kernel) rfl, List.forall_mem_cons.mpr ⟨in_3 58 (by decide +kernel) rfl, List.forall_mem_cons.mpr ⟨in_1 1 (by decide +kernel) rfl, List.forall_mem_cons.mpr ⟨in_3 59 (by decide +kernel) rfl, List.forall_mem_nil _⟩⟩⟩⟩⟩), by decide +kernel⟩
set_option maxRecDepth 100000 in
theorem okL_88 : okV RL 88 yX11_doubt cX11_doubt 4 (some .int) 1 := ⟨good_l (List.forall_mem_cons.mpr ⟨in_6 3 (by decide +kernel) rfl, List.forall_mem_cons.mpr ⟨in_6 4 (by decide +kernel) rfl, List.forall_mem_cons.mpr ⟨in_6 5 (by decide +kernel) rfl, List.forall_mem_cons.mpr ⟨in_1 14 (by decide +kernel) rfl, List.forall_mem_cons.mpr ⟨in_6 6 (by decide +kernel) rfl, List.forall_mem_nil _⟩⟩⟩⟩⟩), by decide +kernel⟩
set_option maxRecDepth 100000 in
theorem okL_89 : okV RL 89 yX10_takes cX10_takes 3 (some .int) 0 := ⟨good_l (List.forall_mem_cons.mpr ⟨in_3 64 (by decide +kernel) rfl, List.forall_mem_cons.mpr ⟨in_3 65 (by decide +kernel) rfl, List.forall_mem_cons.mpr ⟨in_3 66 (by decide +kernel) rfl, List.forall_mem_cons.mpr ⟨in_1 1 (by decide +kernel) rfl, List.forall_mem_cons.mpr ⟨in_3 67 (by decide +kernel) rfl, List.forall_mem_nil _⟩⟩⟩⟩⟩), by decide +kernel⟩
set_option maxRecDepth 100000 in
theorem okL_92 : okV RL 92 yX11_takes cX11_takes 3 (some .int) 0 := ⟨good_l (List.forall_mem_cons.mpr ⟨in_6 7 (by decide +kernel) rfl, List.forall_mem_cons.mpr ⟨in_6 8 (by decide +kernel) rfl, List.forall_mem_cons.mpr ⟨in_6 9 (by decide +kernel) rfl, List.forall_mem_cons.mpr ⟨in_1 14 (by decide +kernel) rfl, List.forall_mem_cons.mpr ⟨in_6 10 (by decide +kernel) rfl, List.forall_mem_nil _⟩⟩⟩⟩⟩), by decide +kernel⟩
set_option maxRecDepth 100000 in
theorem okL_93 : okV RL 93 yX10_least cX10_least 1 (some .int) 0 := ⟨good_l (List.forall_mem_cons.mpr ⟨in_3 69 (by decide +kernel) rfl, List.forall_mem_cons.mpr ⟨in_3 70 (by decide +kernel) rfl, List.forall_mem_cons.mpr ⟨in_3 71 (by decide +kernel) rfl, List.forall_mem_cons.mpr ⟨in_1 1 (by decide +kernel) rfl, List.forall_mem_cons.mpr ⟨in_3 72 (by decide +kernel) rfl, List.forall_mem_nil _⟩⟩⟩⟩⟩), by decide +kernel⟩
set_option maxRecDepth 100000 in
theorem okL_96 : okV RL 96 yX11_least cX11_least 3 (some .int) 0 := ⟨good_l (List.forall_mem_cons.mpr ⟨in_6 11 (by decide +kernel) rfl, List.forall_mem_cons.mpr ⟨in_6 12 (by decide +kernel) rfl, List.forall_mem_cons.mpr ⟨in_6 13 (by decide +kernel) rfl, List.forall_mem_cons.mpr ⟨in_1 14 (by decide +kernel) rfl, List.forall_mem_cons.mpr ⟨in_6 14 (by decide +kernel) rfl, List.forall_mem_nil _⟩⟩⟩⟩⟩), by decide +kernel⟩
set_option maxRecDepth 100000 in
theorem okL_97 : okV RL 97 yX10_feed cX10_feed 6 (some .int) 5 := ⟨good_l (List.forall_mem_cons.mpr ⟨in_3 114 (by decide +kernel) rfl, List.forall_mem_cons.mpr ⟨in_3 115 (by decide +kernel) rfl, List.forall_mem_cons.mpr ⟨in_3 116 (by decide +kernel) rfl, List.forall_mem_cons.mpr ⟨in_1 1 (by decide +kernel) rfl, List.forall_mem_cons.mpr ⟨in_3 117 (by decide +kernel) rfl, List.forall_mem_nil _⟩⟩⟩⟩⟩), by decide +kernel⟩
set_option maxRecDepth 100000 in
theorem okL_101 : okV RL 101 yX11_feed cX11_feed 9 (some .int) 5 := ⟨good_l (List.forall_mem_cons.mpr ⟨in_6 23 (by decide +kernel) rfl, List.forall_mem_cons.mpr ⟨in_6 24 (by decide +kernel) rfl, List.forall_mem_cons.mpr ⟨in_6 25 (by decide +kernel) rfl, List.forall_mem_cons.mpr ⟨in_1 14 (by decide +kernel) rfl, List.forall_mem_cons.mpr ⟨in_6 26 (by decide +kernel) rfl, List.forall_mem_nil _⟩⟩⟩⟩⟩), by decide +kernel⟩
set_option maxRecDepth 100000 in
theorem okL_102 : okW 102 yL_routine cL_routine 4 [(0, 9, 12, 13)] 3 := ⟨List.forall_mem_cons.mpr ⟨in_4 129 (by decide +kernel) rfl, List.forall_mem_cons.mpr ⟨in_4 130 (by decide +kernel) rfl, List.forall_mem_cons.mpr ⟨in_1 0 (by decide +kernel) rfl, List.forall_mem_cons.mpr ⟨in_4 131 (by decide +kernel) rfl, List.forall_mem_nil _⟩⟩⟩⟩, by decide +kernel⟩
set_option maxRecDepth 100000 in
theorem okL_104 : okV RL 104 yX11_routine cX11_routine 4 (some .int) 1 := ⟨good_l (List.forall_mem_cons.mpr ⟨in_6 27 (by decide +kernel) rfl, List.forall_mem_cons.mpr ⟨in_6 28 (by decide +kernel) rfl, List.forall_mem_cons.mpr ⟨in_6 29 (by decide +kernel) rfl, List.forall_mem_cons.mpr ⟨in_1 14 (by decide +kernel) rfl, List.forall_mem_cons.mpr ⟨in_6 30 (by decide +kernel) rfl, List.forall_mem_nil _⟩⟩⟩⟩⟩), by decide +kernel⟩
set_option maxRecDepth 100000 in
theorem okL_105 : okV RL 105 yX10_hold cX10_hold 1 (some .int) 0 := ⟨good_l (List.forall_mem_cons.mpr ⟨in_3 126 (by decide +kernel) rfl, List.forall_mem_cons.mpr ⟨in_3 127 (by decide +kernel) rfl, List.forall_mem_cons.mpr ⟨in_3 128 (by decide +kernel) rfl, List.forall_mem_cons.mpr ⟨in_1 1 (by decide +kernel) rfl, List.forall_mem_cons.mpr ⟨in_3 129 (by decide +kernel) rfl, List.forall_mem_nil _⟩⟩⟩⟩⟩), by decide +kernel⟩
set_option maxRecDepth 100000 in
theorem okL_108 : okV RL 108 yX11_hold cX11_hold 5 (some .int) 0 := ⟨good_l (List.forall_mem_cons.mpr ⟨in_6 51 (by decide +kernel) rfl, List.forall_mem_cons.mpr ⟨in_6 52 (by decide +kernel) rfl, List.forall_mem_cons.mpr ⟨in_6 53 (by decide +kernel) rfl, List.forall_mem_cons.mpr ⟨in_1 14 (by decide +kernel) rfl, List.forall_mem_cons.mpr ⟨in_6 54 (by decide +kernel) rfl, List.forall_mem_nil _⟩⟩⟩⟩⟩), by decide +kernel⟩
set_option maxRecDepth 100000 in
theorem okL_109 : okV RL 109 yX10_broken cX10_broken 2 (some .int) 1 := ⟨good_l (List.forall_mem_cons.mpr ⟨in_3 169 (by decide +kernel) rfl, List.forall_mem_cons.mpr ⟨in_3 170 (by decide +kernel) rfl, List.forall_mem_cons.mpr ⟨in_3 171 (by decide +kernel) rfl, List.forall_mem_cons.mpr ⟨in_1 1 (by decide +kernel) rfl, List.forall_mem_cons.mpr ⟨in_3 172 (by decide +kernel) rfl, List.forall_mem_nil _⟩⟩⟩⟩⟩), by decide +kernel⟩
set_option maxRecDepth 100000 in
theorem okL_112 : okV RL 112 yX11_broken cX11_broken 2 (some .int) 1 := ⟨good_l (List.forall_mem_cons.mpr ⟨in_6 76 (by decide +kernel) rfl, List.forall_mem_cons.mpr ⟨in_6 77 (by decide +kernel) rfl, List.forall_mem_cons.mpr ⟨in_6 78 (by decide +kernel) rfl, List.forall_mem_cons.mpr ⟨in_1 14 (by decide +kernel) rfl, List.forall_mem_cons.mpr ⟨in_6 79 (by decide +kernel) rfl, List.forall_mem_nil _⟩⟩⟩⟩⟩), by decide +kernel⟩
set_option maxRecDepth 100000 in
theorem okL_113 : okV RL 113 yX10_mend cX10_mend 2 (some .int) 0 := ⟨good_l (List.forall_mem_cons.mpr ⟨in_3 173 (by decide +kernel) rfl, List.forall_mem_cons.mpr ⟨in_3 174 (by decide +kernel) rfl, List.forall_mem_cons.mpr ⟨in_3 175 (by decide +kernel) rfl, List.forall_mem_cons.mpr ⟨in_1 1 (by decide +kernel) rfl, List.forall_mem_cons.mpr ⟨in_3 176 (by decide +kernel) rfl, List.forall_mem_nil _⟩⟩⟩⟩⟩), by decide +kernel⟩
set_option maxRecDepth 100000 in
theorem okL_116 : okV RL 116 yX11_mend cX11_mend 8 (some .int) 0 := ⟨good_l (List.forall_mem_cons.mpr ⟨in_6 80 (by decide +kernel) rfl, List.forall_mem_cons.mpr ⟨in_6 81 (by decide +kernel) rfl, List.forall_mem_cons.mpr ⟨in_6 82 (by decide +kernel) rfl, List.forall_mem_cons.mpr ⟨in_1 14 (by decide +kernel) rfl, List.forall_mem_cons.mpr ⟨in_6 83 (by decide +kernel) rfl, List.forall_mem_nil _⟩⟩⟩⟩⟩), by decide +kernel⟩
set_option maxRecDepth 100000 in
theorem okL_117 : okW 117 yL_habit cL_habit 6 [(0, 12, 15, 13)] 5 := ⟨List.forall_mem_cons.mpr ⟨in_4 155 (by decide +kernel) rfl, List.forall_mem_cons.mpr ⟨in_4 156 (by decide +kernel) rfl, List.forall_mem_cons.mpr ⟨in_1 0 (by decide +kernel) rfl, List.forall_mem_cons.mpr ⟨in_4 157 (by decide +kernel) rfl, List.forall_mem_nil _⟩⟩⟩⟩, by decide +kernel⟩
set_option maxRecDepth 100000 in
theorem okL_120 : okV RL 120 yX11_habit cX11_habit 4 (some .int) 3 := ⟨good_l (List.forall_mem_cons.mpr ⟨in_6 84 (by decide +kernel) rfl, List.forall_mem_cons.mpr ⟨in_6 85 (by decide +kernel) rfl, List.forall_mem_cons.mpr ⟨in_6 86 (by decide +kernel) rfl, List.forall_mem_cons.mpr ⟨in_1 14 (by decide +kernel) rfl, List.forall_mem_cons.mpr ⟨in_6 87 (by decide +kernel) rfl, List.forall_mem_nil _⟩⟩⟩⟩⟩), by decide +kernel⟩
set_option maxRecDepth 100000 in
theorem okL_121 : okW 121 yL_rank cL_rank 5 [(0, 10, 13, 13)] 4 := ⟨List.forall_mem_cons.mpr ⟨in_4 187 (by decide +kernel) rfl, List.forall_mem_cons.mpr ⟨in_4 188 (by decide +kernel) rfl, List.forall_mem_cons.mpr ⟨in_1 0 (by decide +kernel) rfl, List.forall_mem_cons.mpr ⟨in_4 189 (by decide +kernel) rfl, List.forall_mem_nil _⟩⟩⟩⟩, by decide +kernel⟩
set_option maxRecDepth 100000 in
theorem okL_123 : okV RL 123 yX11_rank cX11_rank 6 (some .int) 2 := ⟨good_l (List.forall_mem_cons.mpr ⟨in_6 92 (by decide +kernel) rfl, List.forall_mem_cons.mpr ⟨in_6 93 (by decide +kernel) rfl, List.forall_mem_cons.mpr ⟨in_6 94 (by decide +kernel) rfl, List.forall_mem_cons.mpr ⟨in_1 14 (by decide +kernel) rfl, List.forall_mem_cons.mpr ⟨in_6 95 (by decide +kernel) rfl, List.forall_mem_nil _⟩⟩⟩⟩⟩), by decide +kernel⟩
set_option maxRecDepth 100000 in
theorem okL_124 : okV RL 124 yX10_count cX10_count 2 (some .int) 1 := ⟨good_l (List.forall_mem_cons.mpr ⟨in_3 218 (by decide +kernel) rfl, List.forall_mem_cons.mpr ⟨in_3 219 (by decide +kernel) rfl, List.forall_mem_cons.mpr ⟨in_3 220 (by decide +kernel) rfl, List.forall_mem_cons.mpr ⟨in_1 1 (by decide +kernel) rfl, List.forall_mem_cons.mpr ⟨in_3 221 (by decide +kernel) rfl, List.forall_mem_nil _⟩⟩⟩⟩⟩), by decide +kernel⟩
set_option maxRecDepth 100000 in
theorem okL_127 : okV RL 127 yX11_count cX11_count 4 (some .int) 1 := ⟨good_l (List.forall_mem_cons.mpr ⟨in_6 100 (by decide +kernel) rfl, List.forall_mem_cons.mpr ⟨in_6 101 (by decide +kernel) rfl, List.forall_mem_cons.mpr ⟨in_6 102 (by decide +kernel) rfl, List.forall_mem_cons.mpr ⟨in_1 14 (by decide +kernel) rfl, List.forall_mem_cons.mpr ⟨in_6 103 (by decide +kernel) rfl, List.forall_mem_nil _⟩⟩⟩⟩⟩), by decide +kernel⟩
set_option maxRecDepth 100000 in
theorem okL_7 : okV RL 7 yX10_push cX10_push 2 (some .int) 1 := ⟨good_l (List.forall_mem_cons.mpr ⟨in_3 234 (by decide +kernel) rfl, List.forall_mem_cons.mpr ⟨in_3 235 (by decide +kernel) rfl, List.forall_mem_cons.mpr ⟨in_3 236 (by decide +kernel) rfl, List.forall_mem_cons.mpr ⟨in_1 1 (by decide +kernel) rfl, List.forall_mem_cons.mpr ⟨in_3 237 (by decide +kernel) rfl, List.forall_mem_nil _⟩⟩⟩⟩⟩), by decide +kernel⟩
set_option maxRecDepth 100000 in
theorem okL_38 : okV RL 38 yX10_rank cX10_rank 4 (some .int) 2 := ⟨good_l (List.forall_mem_cons.mpr ⟨in_4 190 (by decide +kernel) rfl, List.forall_mem_cons.mpr ⟨in_4 191 (by decide +kernel) rfl, List.forall_mem_cons.mpr ⟨in_4 192 (by decide +kernel) rfl, List.forall_mem_cons.mpr ⟨in_1 1 (by decide +kernel) rfl, List.forall_mem_cons.mpr ⟨in_4 193 (by decide +kernel) rfl, List.forall_mem_nil _⟩⟩⟩⟩⟩), by decide +kernel⟩
set_option maxRecDepth 100000 in
theorem okL_31 : okV RL 31 yX10_routine cX10_routine 3 (some .int) 1 := ⟨good_l (List.forall_mem_cons.mpr ⟨in_4 132 (by decide +kernel) rfl, List.forall_mem_cons.mpr ⟨in_4 133 (by decide +kernel) rfl, List.forall_mem_cons.mpr ⟨in_4 134 (by decide +kernel) rfl, List.forall_mem_cons.mpr ⟨in_1 1 (by decide +kernel) rfl, List.forall_mem_cons.mpr ⟨in_4 135 (by decide +kernel) rfl, List.forall_mem_nil _⟩⟩⟩⟩⟩), by decide +kernel⟩
set_option maxRecDepth 100000 in
theorem okL_28 : okV RL 28 yX10_seen cX10_seen 3 (some .int) 2 := ⟨good_l (List.forall_mem_cons.mpr ⟨in_4 121 (by decide +kernel) rfl, List.forall_mem_cons.mpr ⟨in_4 122 (by decide +kernel) rfl, List.forall_mem_cons.mpr ⟨in_4 123 (by decide +kernel) rfl, List.forall_mem_cons.mpr ⟨in_1 1 (by decide +kernel) rfl, List.forall_mem_cons.mpr ⟨in_4 124 (by decide +kernel) rfl, List.forall_mem_nil _⟩⟩⟩⟩⟩), by decide +kernel⟩
set_option maxRecDepth 100000 in
theorem okL_25 : okV RL 25 yX10_step cX10_step 3 (some .int) 2 := ⟨good_l (List.forall_mem_cons.mpr ⟨in_4 108 (by decide +kernel) rfl, List.forall_mem_cons.mpr ⟨in_4 109 (by decide +kernel) rfl, List.forall_mem_cons.mpr ⟨in_4 110 (by decide +kernel) rfl, List.forall_mem_cons.mpr ⟨in_1 1 (by decide +kernel) rfl, List.forall_mem_cons.mpr ⟨in_4 111 (by decide +kernel) rfl, List.forall_mem_nil _⟩⟩⟩⟩⟩), by decide +kernel⟩
set_option maxRecDepth 100000 in
theorem okL_21 : okV RL 21 yX10_told cX10_told 3 (some .int) 2 := ⟨good_l (List.forall_mem_cons.mpr ⟨in_4 94 (by decide +kernel) rfl, List.forall_mem_cons.mpr ⟨in_4 95 (by decide +kernel) rfl, List.forall_mem_cons.mpr ⟨in_4 96 (by decide +kernel) rfl, List.forall_mem_cons.mpr ⟨in_1 1 (by decide +kernel) rfl, List.forall_mem_cons.mpr ⟨in_4 97 (by decide +kernel) rfl, List.forall_mem_nil _⟩⟩⟩⟩⟩), by decide +kernel⟩
set_option maxRecDepth 100000 in
theorem clL_13 : Cond.classLink RL 13 xIA ∈ tbg := in_3 233 (by decide +kernel) rfl
set_option maxRecDepth 100000 in
theorem clL_19 : Cond.classLink RL 19 xIO ∈ tbg := in_4 69 (by decide +kernel) rfl
