/-! THE LAW FROM ITS ENTRY -/
theorem mL_R : Rg mL := by
  intro k i
  unfold mL
  refine Rg.up ?_ (by decide) k i
  intro k i
  unfold fillM
  split
  · decide
  · exact mZ_R k i
theorem mC0_R : Rg mC0 := by
  intro k i
  unfold mC0
  split
  · exact mL_R 0 i
  · exact mL_R 1 i
  · exact mL_R 2 i
  · exact (by decide : inR 0)
theorem mN0_R : Rg mN0 := by
  intro k i
  unfold mN0
  refine Rg.up ?_ (by decide) k i
  intro k i
  unfold fillM
  split
  · decide
  · exact mM1_R k i
def R_law : String := "UsageDeskLaw"
def lw_P (b : Addr) (xs : List Int32) (args : Array Value) (s : State) : Prop := args = #[.ref b] ∧ s.IntsAt b xs ∧ xs.length ≤ 3072 ∧ (Jvm.Cond.and given_1 narrow_1).before args s = true
def lw_Q (_ : Array Value) (s : State) (o : Outcome) (t : State) : Prop := o = .returned (some (.int 1)) ∧ Framed s o t [] 601024 7293034
def lw_Z (below : List Frame) (a : Array Value) (s : State) : State → Prop := fun t => ∃ o, t.status = .running ∧ Ended t below o ∧ lw_Q a s o t
/-- the law's own end, with 1 on the stack, nothing written that was there before, its room as the claim has it -/
theorem lw_ret {p : Program} {l : Launch} {e : Env} {s : State} {m : MethodId} {below : List Frame} {meth : Method} {c : Code} {b : Nat} (hx : p.tables.exec = Jvm.exec) (hb : c.code = code) (hr : meth.sig.returnType = ret) (hlocks : meth.locks = false) {pc : Nat} {H : Heap} {ls : Array Slot} (hdg : decode code pc = .ok (.ireturn, 1)) : W p l e room_1 s m #[Value.ref b] below meth c H [] 601024 7293034 (lw_Z below #[Value.ref b] s) (F0 m pc ls [.int 1]) := by
  intro T hT X
  obtain ⟨fs, hret, hrun, hended, hW, hframe⟩ := X.leave (v := some (.int 1)) (hlocks := hlocks) (fun h => by rw [hr] at h; cases h)
  have hmeth' : T.vm.method? m = some meth := X.method'
  refine ⟨T.setFrames fs, ?_, .returned (some (.int 1)), hrun, hended, rfl, ⟨_, rfl⟩, hW, hframe⟩
  jvm_step X.here [X.here.top, hx, hb, hdg, hmeth', hr, ret, narrow_b1]
  (try refine ⟨rfl, ?_⟩); (try refine ⟨rfl, ?_⟩)
  first | (intro acts; rw [hret _ acts rfl rfl rfl]) | rw [hret _ _ rfl rfl rfl]
  exact Steps.refl _
/-- what holds at the law's entry: the machine, the code, the tables' words (any of lw_tbl by 'hts w (by decide +kernel)'), the script of L ints xs at the cell b, what the Statement gives of the start (any of its parts by flat_of_before) -/
def lw_At (p : Program) (s : State) (m : MethodId) (meth : Method) (c : Code) (b L : Nat) (xs : Nat → Int32) : Prop :=
  p.tables.exec = Jvm.exec ∧ c.code = code ∧ meth.sig.returnType = ret ∧ c.maxLocals = 7 ∧ s.vm.findClass R_law = some m.cls ∧ (∀ w ∈ lw_tbl, w.before #[Value.ref b] s = true) ∧ va_X b L xs s s.heap ∧ b < s.heap.size ∧ meth.locks = false ∧ (Jvm.Cond.and given_1 narrow_1).before #[Value.ref b] s = true
theorem adr_or {a b : va_W} {q : Nat} (h : adr (a ++ b) q) : adr a q ∨ adr b q := by
  obtain ⟨k, e, h⟩ := h
  rcases List.mem_append.mp (List.mem_of_getElem? h) with z | z
  · obtain ⟨k, z⟩ := List.mem_iff_getElem?.mp z; exact Or.inl ⟨k, e, z⟩
  · obtain ⟨k, z⟩ := List.mem_iff_getElem?.mp z; exact Or.inr ⟨k, e, z⟩
theorem adr_l {a b : va_W} {q : Nat} (h : adr a q) : adr (a ++ b) q := by
  obtain ⟨k, e, h⟩ := h
  exact ⟨k, e, ap_l h⟩
theorem adr_r {a b : va_W} {q : Nat} (h : adr b q) : adr (a ++ b) q := by
  obtain ⟨k, e, h⟩ := h
  exact ⟨a.length + k, e, ap_r h⟩
theorem P_3 {D : va_G} {a b c : va_W} {H : Heap} (h : va_P D vwCl ((a ++ b) ++ c) H) : va_P D vwCl ((a ++ c) ++ b) H := va_P.app (va_P.app (P_l (P_l h)) (P_r h)) (P_r (P_l h))
theorem D_3 {A : Nat → Prop} {a b c : va_W} (h : va_D A ((a ++ b) ++ c)) : va_D A ((a ++ c) ++ b) := by
  refine D_app (D_app (D_l (D_l h)) (D_r h) (fun q x y => D_x h (adr_l x) y)) (D_r (D_l h)) (fun q x y => ?_)
  rcases adr_or x with x | x
  · exact D_x (D_l h) x y
  · exact D_x h (adr_r y) x
theorem cw_astore {p : Program} {l : Launch} {e : Env} {s : State} {m : MethodId} {args : Array Value} {below : List Frame} {meth : Method} {c : Code} {D : va_G} {cI cZ cB : ClassId} {A : Nat → Prop} {own : String} {cc : ByteArray} {nL : Nat} {ret : Option FieldType} {R : Room} {Q : State → Prop} {ce sn pc : Nat} {lv : List (Nat × Value)} {stk : List Value} {ws : va_W} (F : FX p s m args meth c D cI cZ cB A own cc nL ret) {k : Fin 4} {x : Nat} (lv' : List (Nat × Value)) (hn : (k : Nat) < nL) (hl' : ((k : Nat), Value.ref x) :: lv.filter (fun q => !(q.1 == (k : Nat)) && !(q.1 + 1 == (k : Nat) && q.2.category == 2)) = lv') (hd : decode cc pc = .ok (.astore_n k, 1)) (kk : CW nL R p l e s m args below meth c D A Q ce sn (pc + 1) lv' stk ws) : CW nL R p l e s m args below meth c D A Q ce sn pc lv (.ref x :: stk) ws := by
  intro H locs ls hP hD hS hl
  exact lv_astore_n F.1.1 F.1.2.1 hd rfl hl hn hl' (fun ls2 hl2 => kk H locs ls2 hP hD hS hl2)
set_option maxHeartbeats 4000000 in
set_option maxRecDepth 100000 in
/-- from the entry, for every script of at most 3072 ints, the law comes to its end with true -/
theorem whole_start {p : Program} {e : Env} {s : State} {m : MethodId} {below : List Frame} {meth : Method} {c : Code} (l : Launch) (htr : l.stackTraces = false) {b L : Nat} {xs : Nat → Int32} (hL : L ≤ 3072) (C0 : lw_At p s m meth c b L xs) : W p l e room_1 s m #[Value.ref b] below meth c s.heap [] 0 0 (lw_Z below #[Value.ref b] s) (entryFrame m ([Value.ref b] : List Value).toArray 7) := by
  obtain ⟨hx, hb, hr, hml, hown, hts, hX, hbl, hlocks, hgv⟩ := id C0
  have htg : ∀ w ∈ tbg, w.before #[Value.ref b] s = true := fun w hw => hts w (List.mem_filter.mp hw).1
  have hNS := NS_of hts
  have hTh := ThW_of hts hgv
  obtain ⟨D, cI, cZ, cB, cJ, hK⟩ := K_of hts
  have hA : ∀ q : Nat, s.heap.size ≤ q → (fun q : Nat => s.heap.size ≤ q) q := fun _ h => h
  have F : FX p s m #[Value.ref b] meth c D cI cZ cB (fun q : Nat => s.heap.size ≤ q) RL code 7 ret := ⟨⟨hx, hb, hml, hown, htg⟩, ⟨hr, hlocks, hNS⟩, K_l hK, hA⟩
  have X : LCx p l s m c b L xs D cI cZ cB cJ (fun q : Nat => s.heap.size ≤ q) := ⟨⟨⟨hx, hb, hml, hown, htg⟩, hNS, hK, hA⟩, htr, hTh, fun q cell h _ => Nat.not_le.mpr (Array.getElem?_eq_some_iff.mp h).1, ⟨hX, hbl, Nat.not_le.mpr hbl⟩, hL⟩
  have hl := lv_entry ([.ref b]) (n := 7) (Nat.le_of_ble_eq_true rfl)
  rw [lg_entry_eq]
  generalize (lg_sl ([.ref b]) ++ List.replicate (7 - (lg_sl ([.ref b])).length) Slot.unset).toArray = ls at hl ⊢
  have hl : lv_has ls 7 [(0, .ref b)] := hl
  have key : CW 7 room_1 p l e s m #[Value.ref b] below meth c D (fun q : Nat => s.heap.size ≤ q) (lw_Z below #[Value.ref b] s) 0 0 0 [(0, .ref b)] [] [] := by
    refine cw_new F (fs := nlX10) okC10 clL_8 ins_X10 ini_X10 (by decide +kernel) ⟨Nat.le_of_ble_eq_true rfl, Nat.le_of_ble_eq_true rfl⟩ dL_law_0 (fun qd => ?_)
    refine cw_dup F dL_law_3 ?_
    refine cw_call (ws := []) (q := qd) (As := []) F ciL_41 dL_law_4 cn_X10 ⟨Nat.le_of_ble_eq_true rfl, Nat.le_of_ble_eq_true rfl⟩ ⟨Nat.le_of_ble_eq_true rfl, Nat.le_of_ble_eq_true rfl⟩ rfl (Nat.le_of_ble_eq_true rfl) rfl (fun uC => ?_)
    refine cw_eq (ws2 := rsX10 cI cZ cB qd uC) rfl ?_
    refine cw_astore F [(1, .ref qd), (0, .ref b)] (by decide) rfl dL_law_7 ?_
    refine cw_new F (fs := nlX11) okC11 clL_42 ins_X11 ini_X11 (by decide +kernel) ⟨Nat.le_of_ble_eq_true rfl, Nat.le_of_ble_eq_true rfl⟩ dL_law_8 (fun qm => ?_)
    refine cw_dup F dL_law_11 ?_
    refine cw_call (ws := rsX10 cI cZ cB qd uC) (q := qm) (As := []) F ciL_44 dL_law_12 cn_X11 ⟨Nat.le_of_ble_eq_true rfl, Nat.le_of_ble_eq_true rfl⟩ ⟨Nat.le_of_ble_eq_true rfl, Nat.le_of_ble_eq_true rfl⟩ rfl (Nat.le_of_ble_eq_true rfl) rfl (fun uM => ?_)
    refine cw_astore F [(2, .ref qm), (1, .ref qd), (0, .ref b)] (by decide) rfl dL_law_15 ?_
    refine cw_iconst F 1 (by decide) dL_law_16 ?_
    intro H locs ls hP hD hS hl
    refine va_newa (atype := .long) (ty := .long) (n := 1) (N' := 1) (a0 := (1, .inr (.inl (fun _ => 0)))) hx hb (hts (.arrayClass .long) (tb_6 104 (by decide +kernel))) rfl hK hP hD hS hA (fun cA => rfl) (by decide) (by decide) (by decide) (Nat.le_of_ble_eq_true rfl) (Nat.le_of_ble_eq_true rfl) dL_law_17 (fun ao cA H1 hK1 hP1 hD1 hS1 => ?_)
    have eA : cA = cJ := by
      have a := (hK1.2 3 (cJ, .long) rfl).2
      have b := (hK1.2 4 (cA, .long) rfl).2
      exact Option.some.inj (b.symm.trans a)
    subst eA
    refine lv_astore_n (lv' := [(3, .ref ao), (2, .ref qm), (1, .ref qd), (0, .ref b)]) hx hb dL_law_19 rfl hl (by decide) rfl (fun ls2 hl2 => ?_)
    refine lv_iconst (v := Int32.ofInt (6 * ((0 : Nat) : Int))) hx hb dL_law_20 (by decide) ?_
    refine lv_istore (lv' := [(4, .int (Int32.ofInt (6 * ((0 : Nat) : Int)))), (3, .ref ao), (2, .ref qm), (1, .ref qd), (0, .ref b)]) hx hb dL_law_21 hl2 (by decide) rfl (fun ls3 hl3 => ?_)
    refine W.widen (k := 300 + 0 + 2 * 64) (n := 300000 + 6 * 0 + 2 * 64) (Nat.le_of_ble_eq_true rfl) (Nat.le_of_ble_eq_true rfl) ?_
    refine law_loop (adC := adQ qd uC) (ao := ao) (ma := qm) X ?_ 513 0 (adQ qm uM) mC0 mN0 64 (fun _ => 0) H1 locs _ _ ls3 rfl rfl ⟨rel0, ⟨by decide, by decide⟩, mC0_R, mN0_R, P_3 hP1, D_3 hD1, hS1⟩ (lv_sub hl3 [4, 3, 2, 1, 0] rfl) rfl rfl
    intro H9 locs9 ls9 ce9 sn9 hS9 h1 h2
    refine va_forget (fun q hq => hS9.2.2 q hq) ?_
    refine W.widen (k := 601024) (n := 7293034) h1 h2 ?_
    refine lv_iconst (v := 1) hx hb dL_law_961 (by decide) ?_
    exact lw_ret hx hb hr hlocks dL_law_962
  exact key s.heap [] ls (fun k q h => by simp at h) ⟨fun i j p q h => by simp at h, fun k q h => by simp at h⟩ va_S.rf hl
