/-! A WORLD THAT GROWS: a new array of ints; the reference's broken array is another one -/
def FX (p : Program) (s : State) (m : MethodId) (args : Array Value) (meth : Method) (c : Code) (D : va_G) (cI cZ cB : ClassId) (A : Nat → Prop) (own : String) (cc : ByteArray) (nL : Nat) (ret : Option FieldType) : Prop :=
  (p.tables.exec = Jvm.exec ∧ c.code = cc ∧ c.maxLocals = nL ∧ s.vm.findClass own = some m.cls ∧ (∀ w ∈ tbg, w.before args s = true)) ∧ (meth.sig.returnType = ret ∧ meth.locks = false ∧ NS s) ∧ va_K D vwCl (tyl cI cZ cB) s ∧ (∀ q, s.heap.size ≤ q → A q)
section GX
variable {p : Program} {l : Launch} {e : Env} {s : State} {m : MethodId} {args : Array Value} {below : List Frame} {meth : Method} {c : Code} {D : va_G} {cI cZ cB : ClassId} {A : Nat → Prop} {own : String} {cc : ByteArray} {nL : Nat} {ret : Option FieldType} {R : Room} {Q : State → Prop}
variable {sh sh' : Nat → Sh} {N : Nat} {ad : Nat → Nat} {ce sn pc : Nat} {lv : Lv} {stk : List V} {M : Mem}
theorem FX.g (F : FX p s m args meth c D cI cZ cB A own cc nL ret) (hD : ∀ M, va_D A (wsOf sh N cI cZ cB ad M)) (hcs : ce ≤ R.cells ∧ sn ≤ R.slots) : CtxG sh N own cc nL ret R (KK sh N nL R p l e s m args below meth c D cI cZ cB ad A ce sn Q) :=
  ⟨p, l, e, s, m, args, below, meth, c, D, cI, cZ, cB, ad, A, ce, sn, Q, F.1, F.2.1, F.2.2.1, F.2.2.2, hD, hcs, rfl⟩
def adN (ad : Nat → Nat) (N q : Nat) : Nat → Nat := fun k => if k = N then q else ad k
def mN (M : Mem) (N : Nat) : Mem := fun k i => if k = N then 0 else M k i
theorem adN_lt {N q k : Nat} (h : k < N) : adN ad N q k = ad k := by unfold adN; rw [if_neg (by omega)]
theorem adN_at {N q : Nat} : adN ad N q N = q := by unfold adN; rw [if_pos rfl]
/-- every cell that is named lies in the world -/
def clo (sh : Nat → Sh) (N : Nat) : Prop := ∀ k, k < N → ∀ ci fs, sh k = .inr (ci, fs) → ∀ (j r : Nat), fs[j]? = some (some r) → r < N
theorem fs_cg {ad ad' : Nat → Nat} {M M' : Mem} {k : Nat} {fs : List (Option Nat)} (h : ∀ (j r : Nat), fs[j]? = some (some r) → ad' r = ad r) (hm : M' k = M k) : fs.mapIdx (fun j f => fv ad' M' k j f) = fs.mapIdx (fun j f => fv ad M k j f) := by
  apply List.ext_getElem?
  intro j
  rw [List.getElem?_mapIdx, List.getElem?_mapIdx]
  cases hj : fs[j]? with
  | none => rfl
  | some f =>
    cases f with
    | none => show some (Value.int (Int32.ofInt (M' k j))) = some (Value.int (Int32.ofInt (M k j))); rw [hm]
    | some r => show some (Value.ref (ad' r)) = some (Value.ref (ad r)); rw [h j r hj]
theorem ws_new (hc : clo sh N) (hs : ∀ k, k < N → sh' k = sh k) {n : Nat} (hN : sh' N = .inl (.int, n)) {q : Nat} {M2 : Mem} (hm : ∀ k, k < N → M2 k = M k) : wsOf sh' (N + 1) cI cZ cB (adN ad N q) M2 = wsOf sh N cI cZ cB ad M ++ [(q, .inl (cI, n, .inl (fun j => Int32.ofInt (M2 N j))))] := by
  unfold wsOf
  rw [List.range_succ, List.map_append]
  congr 1
  · apply List.map_congr_left
    intro k hk
    have hk : k < N := List.mem_range.mp hk
    rw [adN_lt hk, hs k hk]
    cases hsk : sh k with
    | inl a =>
      obtain ⟨ty, n'⟩ := a
      show (ad k, Sum.inl (cA cI cZ cB ty, n', Sum.inl fun j : Nat => Int32.ofInt (M2 k j))) = (ad k, Sum.inl (cA cI cZ cB ty, n', Sum.inl fun j : Nat => Int32.ofInt (M k j)))
      rw [hm k hk]
    | inr a =>
      obtain ⟨ci, fs⟩ := a
      show (ad k, Sum.inr (ci, fs.mapIdx (fun j f => fv (adN ad N q) M2 k j f))) = (ad k, Sum.inr (ci, fs.mapIdx (fun j f => fv ad M k j f)))
      rw [fs_cg (ad := ad) (ad' := adN ad N q) (M := M) (M' := M2) (fun j r h => adN_lt (hc k hk ci fs hsk j r h)) (hm k hk)]
  · show [(adN ad N q N, cellOf cI cZ cB (adN ad N q) M2 N (sh' N))] = _
    rw [adN_at, hN]; rfl
theorem lm_new {q : Nat} (h : ∀ x ∈ lv, ∀ r, x.2 = .inr r → r < N) : lm (adN ad N q) lv = lm ad lv := by
  unfold lm
  apply List.map_congr_left
  intro x hx
  obtain ⟨i, v⟩ := x
  cases v with
  | inl z => rfl
  | inr r => show (i, Value.ref (adN ad N q r)) = (i, Value.ref (ad r)); rw [adN_lt (h _ hx r rfl)]
theorem gx_new (F : FX p s m args meth c D cI cZ cB A own cc nL ret) (hD : ∀ M, va_D A (wsOf sh N cI cZ cB ad M)) {n : Nat} (hn : n < 100000000) (hcs : ce + 1 ≤ R.cells ∧ sn + n ≤ R.slots) (hc : clo sh N) (hs : ∀ k, k < N → sh' k = sh k) (hN : sh' N = .inl (.int, n)) (harr : Cond.arrayClass .int ∈ tbg) (hlv : ∀ x ∈ lv, ∀ r, x.2 = .inr r → r < N) (hd : decode cc pc = .ok (.newarray .int, 2))
    (kk : ∀ q, (∀ M, va_D A (wsOf sh' (N + 1) cI cZ cB (adN ad N q) M)) → KK sh' (N + 1) nL R p l e s m args below meth c D cI cZ cB (adN ad N q) A (ce + 1) (sn + n) Q (pc + 2) lv [.inr N] (mN M N)) : KK sh N nL R p l e s m args below meth c D cI cZ cB ad A ce sn Q pc lv [.inl (n : Int)] M := by
  obtain ⟨⟨hx, hb, hml, hown, hts⟩, ⟨hr, hlk, hns⟩, hK, hA⟩ := F
  intro hM H locs ls hP hS hl
  have h32 : (Int32.ofInt (n : Int)).toInt = n := by rw [Int32.toInt_ofInt_of_le (by omega) (by omega)]
  refine va_newa (atype := .int) (ty := .int) (n := Int32.ofInt (n : Int)) (N' := n) (a0 := (n, .inl (fun _ => 0))) hx hb (hts _ harr) rfl hK hP (hD M) hS hA (fun cA => rfl) ?_ ?_ (by show n * 4 ≤ 536870912; omega) hcs.1 hcs.2 hd (fun q cA H1 hK1 hP1 hD1 hS1 => ?_)
  · rw [Int32.lt_iff_toInt_lt, h32]; show ¬ (n : Int) < 0; omega
  · show (Int32.ofInt (n : Int)).toInt.toNat = n
    rw [h32]; omega
  · have eA : cA = cI := by
      have a := (hK1.2 0 (cI, .int) rfl).2
      have b := (hK1.2 3 (cA, .int) rfl).2
      exact Option.some.inj (b.symm.trans a)
    subst eA
    have e1 := ws_new (cI := cA) (cZ := cZ) (cB := cB) (ad := ad) (M := M) (q := q) hc hs hN (M2 := mN M N) (fun k hk => by funext i; unfold mN; rw [if_neg (by omega)])
    have e2 : (fun j : Nat => Int32.ofInt (mN M N N (j : Int))) = fun _ => (0 : Int32) := by funext j; unfold mN; rw [if_pos rfl]; rfl
    rw [e2] at e1
    have Dv : va_D A (wsOf sh' (N + 1) cA cZ cB (adN ad N q) (mN M N)) := by rw [e1]; exact hD1
    have w := kk q (fun M' => wsOf_D Dv M') (fun k i => by unfold mN; split; exact ⟨by decide, by decide⟩; exact hM k i) H1 locs ls (by rw [e1]; exact hP1) hS1 (by rw [lm_new hlv]; exact hl)
    have e3 : List.map (vv (adN ad N q)) [.inr N] = [Value.ref q] := by show [Value.ref (adN ad N q N)] = _; rw [adN_at]
    rw [e3] at w
    exact w
/-! the field broken names the new array: the old one is left behind -/
def shG (bl : Nat) : Nat → Sh := fun k => if k = 39 then .inl (.int, 2 * bl) else shM bl k
def ad3 (ad : Nat → Nat) : Nat → Nat := fun k => if k = 34 then ad 39 else ad k
def mB (M : Mem) : Mem := fun k => if k = 34 then M 39 else M k
theorem shM_arr (bl : Nat) : ∀ k, k < 39 → k ≠ 0 → ∃ ty n, shM bl k = .inl (ty, n)
  | 1, _, _ => ⟨_, _, rfl⟩
  | 2, _, _ => ⟨_, _, rfl⟩
  | 3, _, _ => ⟨_, _, rfl⟩
  | 4, _, _ => ⟨_, _, rfl⟩
  | 5, _, _ => ⟨_, _, rfl⟩
  | 6, _, _ => ⟨_, _, rfl⟩
  | 7, _, _ => ⟨_, _, rfl⟩
  | 8, _, _ => ⟨_, _, rfl⟩
  | 9, _, _ => ⟨_, _, rfl⟩
  | 10, _, _ => ⟨_, _, rfl⟩
  | 11, _, _ => ⟨_, _, rfl⟩
  | 12, _, _ => ⟨_, _, rfl⟩
  | 13, _, _ => ⟨_, _, rfl⟩
  | 14, _, _ => ⟨_, _, rfl⟩
  | 15, _, _ => ⟨_, _, rfl⟩
  | 16, _, _ => ⟨_, _, rfl⟩
  | 17, _, _ => ⟨_, _, rfl⟩
  | 18, _, _ => ⟨_, _, rfl⟩
  | 19, _, _ => ⟨_, _, rfl⟩
  | 20, _, _ => ⟨_, _, rfl⟩
  | 21, _, _ => ⟨_, _, rfl⟩
  | 22, _, _ => ⟨_, _, rfl⟩
  | 23, _, _ => ⟨_, _, rfl⟩
  | 24, _, _ => ⟨_, _, rfl⟩
  | 25, _, _ => ⟨_, _, rfl⟩
  | 26, _, _ => ⟨_, _, rfl⟩
  | 27, _, _ => ⟨_, _, rfl⟩
  | 28, _, _ => ⟨_, _, rfl⟩
  | 29, _, _ => ⟨_, _, rfl⟩
  | 30, _, _ => ⟨_, _, rfl⟩
  | 31, _, _ => ⟨_, _, rfl⟩
  | 32, _, _ => ⟨_, _, rfl⟩
  | 33, _, _ => ⟨_, _, rfl⟩
  | 34, _, _ => ⟨_, _, rfl⟩
  | 35, _, _ => ⟨_, _, rfl⟩
  | 36, _, _ => ⟨_, _, rfl⟩
  | 37, _, _ => ⟨_, _, rfl⟩
  | 38, _, _ => ⟨_, _, rfl⟩
  | 0, _, h => absurd rfl h
  | k + 39, h, _ => absurd h (by omega)
theorem shM_in (bl : Nat) : clo (shM bl) 39 := by
  intro k hk ci fs h j r hr
  by_cases z : k = 0
  · subst z
    have e : fs = [none, some 1, none, some 2, some 3, some 4, some 5, none, some 6, some 7, some 8, some 9, some 10, none, some 11, some 12, some 13, some 14, some 15, some 16, none, some 17, some 18, some 19, some 20, none, some 21, some 22, some 23, some 24, none, none, none, none, some 25, some 26, some 27, none, none, none, some 28, some 29, some 30, none, none, none, some 31, some 32, some 33, some 34, none, some 35, some 36, some 37, some 38] := by
      have h2 : shM bl 0 = .inr (ci, fs) := h
      exact (congrArg Prod.snd (Sum.inr.inj h2)).symm
    rw [e] at hr
    have m := List.mem_of_getElem? hr
    have al : ∀ x ∈ ([none, some 1, none, some 2, some 3, some 4, some 5, none, some 6, some 7, some 8, some 9, some 10, none, some 11, some 12, some 13, some 14, some 15, some 16, none, some 17, some 18, some 19, some 20, none, some 21, some 22, some 23, some 24, none, none, none, none, some 25, some 26, some 27, none, none, none, some 28, some 29, some 30, none, none, none, some 31, some 32, some 33, some 34, none, some 35, some 36, some 37, some 38] : List (Option Nat)), ∀ r, x = some r → r < 39 := by
      intro x hx r e
      subst e
      revert r
      simp only [List.mem_cons, List.not_mem_nil, or_false, reduceCtorEq, Option.some.injEq, false_or]
      intro r h
      omega
    exact al _ m r rfl
  · exfalso
    obtain ⟨ty, n', q⟩ := shM_arr bl k hk z
    rw [q] at h
    cases h
theorem shM_ne (bl : Nat) {k : Nat} (h : k ≠ 34) : shM (2 * bl) k = shM bl k := by
  unfold shM
  split <;> first | rfl | exact absurd rfl h
def ixB (k : Nat) : Nat := if k = 34 then 39 else k
def fs0 : List (Option Nat) := [none, some 1, none, some 2, some 3, some 4, some 5, none, some 6, some 7, some 8, some 9, some 10, none, some 11, some 12, some 13, some 14, some 15, some 16, none, some 17, some 18, some 19, some 20, none, some 21, some 22, some 23, some 24, none, none, none, none, some 25, some 26, some 27, none, none, none, some 28, some 29, some 30, none, none, none, some 31, some 32, some 33, some 34, none, some 35, some 36, some 37, some 38]
theorem fs0_34 : ∀ j : Fin 55, fs0[j.val]? = some (some 34) → j.val = 49 := by decide
theorem fs0_B : fs0.mapIdx (fun j f => fv (ad3 ad) (mB M) 0 j f) = (fs0.mapIdx (fun j f => fv ad M 0 j f)).set 49 (.ref (ad 39)) := by
  apply List.ext_getElem?
  intro j
  by_cases z : j = 49
  · subst z
    rw [List.getElem?_set_self (by rw [List.length_mapIdx]; decide), List.getElem?_mapIdx]
    rfl
  · rw [List.getElem?_set_ne (fun q => z q.symm), List.getElem?_mapIdx, List.getElem?_mapIdx]
    cases hj : fs0[j]? with
    | none => rfl
    | some f =>
      cases f with
      | none => rfl
      | some r =>
        have r34 : r ≠ 34 := fun e => by
          subst e
          have lt : j < 55 := (List.getElem?_eq_some_iff.mp hj).1
          exact z (fs0_34 ⟨j, lt⟩ hj)
        show some (Value.ref (ad3 ad r)) = some (Value.ref (ad r))
        unfold ad3; rw [if_neg r34]
theorem ws_B {bl : Nat} {k : Nat} (hk : k < 39) : (wsOf (shM (2 * bl)) 39 cI cZ cB (ad3 ad) (mB M))[k]? = ((wsOf (shG bl) 40 cI cZ cB ad M).set 0 (ad 0, .inr (11, (fs0.mapIdx (fun j f => fv ad M 0 j f)).set 49 (.ref (ad 39)))))[ixB k]? := by
  rw [wsOf_at hk]
  by_cases z : k = 0
  · subst z
    show _ = ((wsOf (shG bl) 40 cI cZ cB ad M).set 0 _)[0]?
    rw [List.getElem?_set_self (by rw [wsOf_len]; decide), ← fs0_B]
    rfl
  · by_cases y : k = 34
    · subst y
      show _ = ((wsOf (shG bl) 40 cI cZ cB ad M).set 0 _)[39]?
      rw [List.getElem?_set_ne (by decide), wsOf_at (by decide)]
      rfl
    · have ek : ixB k = k := by unfold ixB; rw [if_neg y]
      rw [ek, List.getElem?_set_ne (fun q => z q.symm), wsOf_at (by omega)]
      have e1 : ad3 ad k = ad k := by unfold ad3; rw [if_neg y]
      have e2 : mB M k = M k := by unfold mB; rw [if_neg y]
      have e3 : shG bl k = shM bl k := by unfold shG; rw [if_neg (by omega)]
      rw [e1, e3, shM_ne bl y]
      cases hs : shM bl k with
      | inl a =>
        obtain ⟨ty, n'⟩ := a
        show some (ad k, Sum.inl (cA cI cZ cB ty, n', Sum.inl fun j : Nat => Int32.ofInt (mB M k j))) = some (ad k, Sum.inl (cA cI cZ cB ty, n', Sum.inl fun j : Nat => Int32.ofInt (M k j)))
        rw [e2]
      | inr a =>
        exfalso
        have := shM_arr bl k hk z
        rw [hs] at this
        obtain ⟨ty, n', q⟩ := this
        cases q
theorem gx_put (F : FX p s m args meth c D cI cZ cB A RX11 cc nL ret) {bl : Nat} (hD : ∀ M, va_D A (wsOf (shG bl) 40 cI cZ cB ad M)) (hw : Cond.fieldLink RX11 111 (TX11 49).1 (TX11 49).2.1 (TX11 49).2.2.1 ∈ tbg) (hlv : ∀ x ∈ lv, ∀ r, x.2 = .inr r → r ≠ 34) (hd : decode cc pc = .ok (.putfield 111, 3))
    (kk : (∀ M, va_D A (wsOf (shM (2 * bl)) 39 cI cZ cB (ad3 ad) M)) → KK (shM (2 * bl)) 39 nL R p l e s m args below meth c D cI cZ cB (ad3 ad) A ce sn Q (pc + 3) lv [] (mB M)) : KK (shG bl) 40 nL R p l e s m args below meth c D cI cZ cB ad A ce sn Q pc lv [.inr 39, .inr 0] M := by
  obtain ⟨⟨hx, hb, hml, hown, hts⟩, ⟨hr, hlk, hns⟩, hK, hA⟩ := F
  intro hM H locs ls hP hS hl
  have he := wsOf_at (sh := shG bl) (N := 40) (cI := cI) (cZ := cZ) (cB := cB) (ad := ad) (M := M) (k := 0) (by decide)
  have e0 : cellOf cI cZ cB ad M 0 (shG bl 0) = .inr (11, fs0.mapIdx (fun j f => fv ad M 0 j f)) := rfl
  rw [e0] at he
  refine va_put (v := .ref (ad 39)) (ty := tyX11 49) hx hb hts okC11.2.1 tyX11 okC11.2.2.1 okC11.2.2.2 hown hK hP (hD M) hS 0 he okC11.1 49 (by decide) (hts _ hw) (fun _ h => h) rfl (okC11.2.2.1 49 (by decide)) rfl rfl (by rw [List.length_mapIdx]; decide) hd (fun H1 locs1 hP1 hD1 hS1 => ?_)
  have Dv : va_D A (wsOf (shM (2 * bl)) 39 cI cZ cB (ad3 ad) (mB M)) := by
    have lt : ∀ (k : Nat) (x : Nat × va_E), (wsOf (shM (2 * bl)) 39 cI cZ cB (ad3 ad) (mB M))[k]? = some x → k < 39 := fun k x hx => by
      have := (List.getElem?_eq_some_iff.mp hx).1
      rw [wsOf_len] at this; exact this
    refine ⟨fun i j x y hi hj hxy => ?_, fun k x hx => ?_⟩
    · have li := lt i x hi
      have lj := lt j y hj
      rw [ws_B li] at hi
      rw [ws_B lj] at hj
      have e := hD1.1 _ _ x y hi hj hxy
      unfold ixB at e
      split at e <;> split at e <;> omega
    · have lk := lt k x hx
      rw [ws_B lk] at hx
      exact hD1.2 _ x hx
  have w := kk (fun M' => wsOf_D Dv M') (fun k i => by unfold mB; split; exact hM 39 i; exact hM k i) H1 locs1 ls (fun k x hx => ?_) hS1 ?_
  · exact w
  · have lk : k < 39 := by
      have := (List.getElem?_eq_some_iff.mp hx).1
      rw [wsOf_len] at this; exact this
    rw [ws_B lk] at hx
    exact hP1 _ x hx
  · have e : lm (ad3 ad) lv = lm ad lv := by
      unfold lm
      apply List.map_congr_left
      intro x hx
      obtain ⟨i, v⟩ := x
      cases v with
      | inl z => rfl
      | inr r => show (i, Value.ref (ad3 ad r)) = (i, Value.ref (ad r)); unfold ad3; rw [if_neg (hlv _ hx r rfl)]
    rw [e]; exact hl
end GX
