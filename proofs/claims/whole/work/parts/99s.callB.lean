/-! THE REFERENCE: the call of breaksOn where its array grows -/
section CB
variable {p : Program} {l : Launch} {e : Env} {s : State} {m : MethodId} {args : Array Value} {below : List Frame} {meth : Method} {c : Code} {D : va_G} {cI cZ cB : ClassId} {A : Nat → Prop} {cc : ByteArray} {nL : Nat} {ret : Option FieldType} {R : Room} {Q : State → Prop}
variable {ad : Nat → Nat} {ce sn pc : Nat} {lv : Lv} {M : Mem}
theorem gx_callB (F : FX p s m args meth c D cI cZ cB A RX11 cc nL ret) {bl : Nat} (hD : ∀ M, va_D A (wsOf (shM bl) 39 cI cZ cB ad M)) {index : Nat} (hw : okV RX11 index yX11_breaksOn cX11_breaksOn 4 none 1) (hcs : ce + 1 ≤ R.cells ∧ sn + 2 * bl ≤ R.slots) (hR : 1 ≤ R.frames ∧ 200 ≤ R.locals) {x : Int} (hc : CtB bl M x) (hlv : ∀ q ∈ lv, ∀ r, q.2 = .inr r → r = 0) (hd : decode cc pc = .ok (.invokevirtual index, 3))
    (kk : ∀ M' ad', ad' 0 = ad 0 → BoP M M' x → (∀ M, va_D A (wsOf (shM (2 * bl)) 39 cI cZ cB ad' M)) → KK (shM (2 * bl)) 39 nL R p l e s m args below meth c D cI cZ cB ad' A (ce + 1) (sn + 2 * bl) Q (pc + 3) lv [] M') : KK (shM bl) 39 nL R p l e s m args below meth c D cI cZ cB ad A ce sn Q pc lv [.inl x, .inr 0] M := by
  obtain ⟨⟨hx, hb, hml, hown, hts⟩, ⟨hr, hlk, hns⟩, hK, hA⟩ := F
  intro hM H locs ls hP hS hl
  have he := wsOf_at (sh := shM bl) (N := 39) (cI := cI) (cZ := cZ) (cB := cB) (ad := ad) (M := M) (k := 0) (by decide)
  have hcode : Cond.code yX11_breaksOn cX11_breaksOn 4 none ∈ tbg := (hw.1 _ (by simp [wsV])).1
  have hG : GoodIn tbg (wsV RX11 index yX11_breaksOn.cls yX11_breaksOn (.code yX11_breaksOn cX11_breaksOn 4 none :: tbg)) := by
    intro w hw'
    rcases List.mem_append.mp hw' with h | h
    · exact hw.1 w (List.mem_append_left _ h)
    · exact good_code hcode w h
  have hF : ∀ q, va_A (wsOf (shM bl) 39 cI cZ cB ad M) H.size q → A q := by
    intro q h
    rcases h with ⟨k, e, h⟩ | h
    · exact (hD M).2 k _ h
    · exact hA q (Nat.le_trans hS.1 h)
  have run := va_runV (C := yX11_breaksOn.cls) (As := [.inl x].map (vv ad)) (rest := []) (g := F0 m pc ls [.int (Int32.ofInt x), .ref (ad 0)]) (e := e) (below := below) (meth := meth) (locs := locs) (cells := ce) (slots := sn) ⟨hx, hb, hml, hown, hts⟩ (hc l D cI cZ cB ad H.size) (cwV 1 hts hG rfl rfl rfl ⟨rfl, hw.2⟩ ⟨hR.1, by show 8 + (4 + 11) + 0 ≤ R.locals; omega⟩) ⟨fun a U g mk q => ⟨q.1, q.2.1, q.2.2.1.same rfl, wd_K (u := U) (U := U.calling g mk a) rfl (Vm.Alike.refl U.vm) q.2.2.2⟩, va_recv hK hP okC11.1 he, fun U hU hW => ⟨rfl, by rw [hU], hns.warm hW, hM, by rw [hU]; exact hP, va_K.moved hW.alike hK, (hD M).weaken (fun _ _ _ _ => trivial)⟩⟩ rfl rfl hl.1 rfl (lv_room (by decide)) hd hcs
  refine va_callv run hS (fun q _ h => hF q h) hF (fun u t H1 locs1 ht hvm hp hB hz1 hk1 hS1 => ?_)
  have Dv : ∀ M', va_D A (wsOf (shM (2 * bl)) 39 cI cZ cB u.2 M') := fun M' => wsOf_D (hB.2.2.2.weaken (fun k q _ h => hF _ h)) M'
  refine kk u.1 u.2 hp.2 hp.1 Dv hB.1 H1 locs1 ls (by rw [← ht]; exact hB.2.1) hS1 ?_
  have e1 : lm u.2 lv = lm ad lv := by
    unfold lm
    apply List.map_congr_left
    intro q hq
    obtain ⟨i, v⟩ := q
    cases v with
    | inl z => rfl
    | inr r => show (i, Value.ref (u.2 r)) = (i, Value.ref (ad r)); rw [hlv _ hq r rfl, hp.2]
  rw [e1]; exact hl
end CB
