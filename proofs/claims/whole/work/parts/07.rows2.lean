/-! rows: branches, fields, arrays, ends, calls -/
section ROWS2
variable {sh : Nat → Sh} {N : Nat} {own : String} {cc : ByteArray} {nL : Nat} {ret : Option FieldType} {R : Room} {post : Int → Mem → Prop} {K : Kt}
variable {pc : Nat} {lv : Lv} {stk : List V} {M : Mem}
theorem k_icmp_eq (C : Ctx sh N own cc nL ret R post K) {a b : Int} {off : Int} {tgt : Nat} (hd : decode cc pc = .ok (.if_icmp .eq off, 3)) (ht : (pc : Int) + off = (tgt : Int)) (ha : inR a) (hb' : inR b) (kt : a = b → K tgt lv stk M) (kf : ¬ a = b → K (pc + 3) lv stk M) : K pc lv (.inl b :: .inl a :: stk) M := by
  obtain ⟨p, l, e, s, m, args, below, meth, c, D, cI, cZ, cB, ad, A, ⟨hx, hb, hml, hown, hts⟩, ⟨hr, hlk, hns⟩, hK, hA, hD, rfl⟩ := C
  intro hM H locs ls hP hS hl
  exact lv_icmp_eq hx hb hd ht (fun h => kt ((oI_eq ha hb').mp h) hM H locs ls hP hS hl) (fun h => kf (fun q => h ((oI_eq ha hb').mpr q)) hM H locs ls hP hS hl)
theorem k_if_eq (C : Ctx sh N own cc nL ret R post K) {a : Int} {off : Int} {tgt : Nat} (hd : decode cc pc = .ok (.ifCond .eq off, 3)) (ht : (pc : Int) + off = (tgt : Int)) (ha : inR a) (kt : a = 0 → K tgt lv stk M) (kf : ¬ a = 0 → K (pc + 3) lv stk M) : K pc lv (.inl a :: stk) M := by
  obtain ⟨p, l, e, s, m, args, below, meth, c, D, cI, cZ, cB, ad, A, ⟨hx, hb, hml, hown, hts⟩, ⟨hr, hlk, hns⟩, hK, hA, hD, rfl⟩ := C
  intro hM H locs ls hP hS hl
  have r0 : inR 0 := by decide
  exact lv_if_eq hx hb hd ht (fun h => kt ((oI_eq ha r0).mp h) hM H locs ls hP hS hl) (fun h => kf (fun q => h ((oI_eq ha r0).mpr q)) hM H locs ls hP hS hl)
theorem k_icmp_ne (C : Ctx sh N own cc nL ret R post K) {a b : Int} {off : Int} {tgt : Nat} (hd : decode cc pc = .ok (.if_icmp .ne off, 3)) (ht : (pc : Int) + off = (tgt : Int)) (ha : inR a) (hb' : inR b) (kt : ¬ a = b → K tgt lv stk M) (kf : a = b → K (pc + 3) lv stk M) : K pc lv (.inl b :: .inl a :: stk) M := by
  obtain ⟨p, l, e, s, m, args, below, meth, c, D, cI, cZ, cB, ad, A, ⟨hx, hb, hml, hown, hts⟩, ⟨hr, hlk, hns⟩, hK, hA, hD, rfl⟩ := C
  intro hM H locs ls hP hS hl
  exact lv_icmp_ne hx hb hd ht (fun h => kt (fun q => h ((oI_eq ha hb').mpr q)) hM H locs ls hP hS hl) (fun h => kf ((oI_eq ha hb').mp h) hM H locs ls hP hS hl)
theorem k_if_ne (C : Ctx sh N own cc nL ret R post K) {a : Int} {off : Int} {tgt : Nat} (hd : decode cc pc = .ok (.ifCond .ne off, 3)) (ht : (pc : Int) + off = (tgt : Int)) (ha : inR a) (kt : ¬ a = 0 → K tgt lv stk M) (kf : a = 0 → K (pc + 3) lv stk M) : K pc lv (.inl a :: stk) M := by
  obtain ⟨p, l, e, s, m, args, below, meth, c, D, cI, cZ, cB, ad, A, ⟨hx, hb, hml, hown, hts⟩, ⟨hr, hlk, hns⟩, hK, hA, hD, rfl⟩ := C
  intro hM H locs ls hP hS hl
  have r0 : inR 0 := by decide
  exact lv_if_ne hx hb hd ht (fun h => kt (fun q => h ((oI_eq ha r0).mpr q)) hM H locs ls hP hS hl) (fun h => kf ((oI_eq ha r0).mp h) hM H locs ls hP hS hl)
theorem k_icmp_lt (C : Ctx sh N own cc nL ret R post K) {a b : Int} {off : Int} {tgt : Nat} (hd : decode cc pc = .ok (.if_icmp .lt off, 3)) (ht : (pc : Int) + off = (tgt : Int)) (ha : inR a) (hb' : inR b) (kt : a < b → K tgt lv stk M) (kf : b ≤ a → K (pc + 3) lv stk M) : K pc lv (.inl b :: .inl a :: stk) M := by
  obtain ⟨p, l, e, s, m, args, below, meth, c, D, cI, cZ, cB, ad, A, ⟨hx, hb, hml, hown, hts⟩, ⟨hr, hlk, hns⟩, hK, hA, hD, rfl⟩ := C
  intro hM H locs ls hP hS hl
  exact lv_icmp_lt hx hb hd ht (fun h => kt ((oI_lt ha hb').mp h) hM H locs ls hP hS hl) (fun h => kf (Int.not_lt.mp (fun q => h ((oI_lt ha hb').mpr q))) hM H locs ls hP hS hl)
theorem k_if_lt (C : Ctx sh N own cc nL ret R post K) {a : Int} {off : Int} {tgt : Nat} (hd : decode cc pc = .ok (.ifCond .lt off, 3)) (ht : (pc : Int) + off = (tgt : Int)) (ha : inR a) (kt : a < 0 → K tgt lv stk M) (kf : 0 ≤ a → K (pc + 3) lv stk M) : K pc lv (.inl a :: stk) M := by
  obtain ⟨p, l, e, s, m, args, below, meth, c, D, cI, cZ, cB, ad, A, ⟨hx, hb, hml, hown, hts⟩, ⟨hr, hlk, hns⟩, hK, hA, hD, rfl⟩ := C
  intro hM H locs ls hP hS hl
  have r0 : inR 0 := by decide
  exact lv_if_lt hx hb hd ht (fun h => kt ((oI_lt ha r0).mp h) hM H locs ls hP hS hl) (fun h => kf (Int.not_lt.mp (fun q => h ((oI_lt ha r0).mpr q))) hM H locs ls hP hS hl)
theorem k_icmp_ge (C : Ctx sh N own cc nL ret R post K) {a b : Int} {off : Int} {tgt : Nat} (hd : decode cc pc = .ok (.if_icmp .ge off, 3)) (ht : (pc : Int) + off = (tgt : Int)) (ha : inR a) (hb' : inR b) (kt : b ≤ a → K tgt lv stk M) (kf : a < b → K (pc + 3) lv stk M) : K pc lv (.inl b :: .inl a :: stk) M := by
  obtain ⟨p, l, e, s, m, args, below, meth, c, D, cI, cZ, cB, ad, A, ⟨hx, hb, hml, hown, hts⟩, ⟨hr, hlk, hns⟩, hK, hA, hD, rfl⟩ := C
  intro hM H locs ls hP hS hl
  exact lv_icmp_ge hx hb hd ht (fun h => kt ((oI_le hb' ha).mp h) hM H locs ls hP hS hl) (fun h => kf (Int.not_le.mp (fun q => h ((oI_le hb' ha).mpr q))) hM H locs ls hP hS hl)
theorem k_if_ge (C : Ctx sh N own cc nL ret R post K) {a : Int} {off : Int} {tgt : Nat} (hd : decode cc pc = .ok (.ifCond .ge off, 3)) (ht : (pc : Int) + off = (tgt : Int)) (ha : inR a) (kt : 0 ≤ a → K tgt lv stk M) (kf : a < 0 → K (pc + 3) lv stk M) : K pc lv (.inl a :: stk) M := by
  obtain ⟨p, l, e, s, m, args, below, meth, c, D, cI, cZ, cB, ad, A, ⟨hx, hb, hml, hown, hts⟩, ⟨hr, hlk, hns⟩, hK, hA, hD, rfl⟩ := C
  intro hM H locs ls hP hS hl
  have r0 : inR 0 := by decide
  exact lv_if_ge hx hb hd ht (fun h => kt ((oI_le r0 ha).mp h) hM H locs ls hP hS hl) (fun h => kf (Int.not_le.mp (fun q => h ((oI_le r0 ha).mpr q))) hM H locs ls hP hS hl)
theorem k_icmp_gt (C : Ctx sh N own cc nL ret R post K) {a b : Int} {off : Int} {tgt : Nat} (hd : decode cc pc = .ok (.if_icmp .gt off, 3)) (ht : (pc : Int) + off = (tgt : Int)) (ha : inR a) (hb' : inR b) (kt : b < a → K tgt lv stk M) (kf : a ≤ b → K (pc + 3) lv stk M) : K pc lv (.inl b :: .inl a :: stk) M := by
  obtain ⟨p, l, e, s, m, args, below, meth, c, D, cI, cZ, cB, ad, A, ⟨hx, hb, hml, hown, hts⟩, ⟨hr, hlk, hns⟩, hK, hA, hD, rfl⟩ := C
  intro hM H locs ls hP hS hl
  exact lv_icmp_gt hx hb hd ht (fun h => kt ((oI_lt hb' ha).mp h) hM H locs ls hP hS hl) (fun h => kf (Int.not_lt.mp (fun q => h ((oI_lt hb' ha).mpr q))) hM H locs ls hP hS hl)
theorem k_if_gt (C : Ctx sh N own cc nL ret R post K) {a : Int} {off : Int} {tgt : Nat} (hd : decode cc pc = .ok (.ifCond .gt off, 3)) (ht : (pc : Int) + off = (tgt : Int)) (ha : inR a) (kt : 0 < a → K tgt lv stk M) (kf : a ≤ 0 → K (pc + 3) lv stk M) : K pc lv (.inl a :: stk) M := by
  obtain ⟨p, l, e, s, m, args, below, meth, c, D, cI, cZ, cB, ad, A, ⟨hx, hb, hml, hown, hts⟩, ⟨hr, hlk, hns⟩, hK, hA, hD, rfl⟩ := C
  intro hM H locs ls hP hS hl
  have r0 : inR 0 := by decide
  exact lv_if_gt hx hb hd ht (fun h => kt ((oI_lt r0 ha).mp h) hM H locs ls hP hS hl) (fun h => kf (Int.not_lt.mp (fun q => h ((oI_lt r0 ha).mpr q))) hM H locs ls hP hS hl)
theorem k_icmp_le (C : Ctx sh N own cc nL ret R post K) {a b : Int} {off : Int} {tgt : Nat} (hd : decode cc pc = .ok (.if_icmp .le off, 3)) (ht : (pc : Int) + off = (tgt : Int)) (ha : inR a) (hb' : inR b) (kt : a ≤ b → K tgt lv stk M) (kf : b < a → K (pc + 3) lv stk M) : K pc lv (.inl b :: .inl a :: stk) M := by
  obtain ⟨p, l, e, s, m, args, below, meth, c, D, cI, cZ, cB, ad, A, ⟨hx, hb, hml, hown, hts⟩, ⟨hr, hlk, hns⟩, hK, hA, hD, rfl⟩ := C
  intro hM H locs ls hP hS hl
  exact lv_icmp_le hx hb hd ht (fun h => kt ((oI_le ha hb').mp h) hM H locs ls hP hS hl) (fun h => kf (Int.not_le.mp (fun q => h ((oI_le ha hb').mpr q))) hM H locs ls hP hS hl)
theorem k_if_le (C : Ctx sh N own cc nL ret R post K) {a : Int} {off : Int} {tgt : Nat} (hd : decode cc pc = .ok (.ifCond .le off, 3)) (ht : (pc : Int) + off = (tgt : Int)) (ha : inR a) (kt : a ≤ 0 → K tgt lv stk M) (kf : 0 < a → K (pc + 3) lv stk M) : K pc lv (.inl a :: stk) M := by
  obtain ⟨p, l, e, s, m, args, below, meth, c, D, cI, cZ, cB, ad, A, ⟨hx, hb, hml, hown, hts⟩, ⟨hr, hlk, hns⟩, hK, hA, hD, rfl⟩ := C
  intro hM H locs ls hP hS hl
  have r0 : inR 0 := by decide
  exact lv_if_le hx hb hd ht (fun h => kt ((oI_le ha r0).mp h) hM H locs ls hP hS hl) (fun h => kf (Int.not_le.mp (fun q => h ((oI_le ha r0).mpr q))) hM H locs ls hP hS hl)
theorem k_iaload (C : Ctx sh N own cc nL ret R post K) {k n : Nat} {i : Int} (hs : sh k = .inl (.int, n)) (hk : k < N) (hn : n < 2147483648) (hi : 0 ≤ i ∧ i < n) (hd : decode cc pc = .ok (.iaload, 1)) (kk : inR (M k i) → K (pc + 1) lv (.inl (M k i) :: stk) M) : K pc lv (.inl i :: .inr k :: stk) M := by
  obtain ⟨p, l, e, s, m, args, below, meth, c, D, cI, cZ, cB, ad, A, ⟨hx, hb, hml, hown, hts⟩, ⟨hr, hlk, hns⟩, hK, hA, hD, rfl⟩ := C
  intro hM H locs ls hP hS hl
  obtain ⟨h1, h2⟩ := oI_in hi.1 hi.2 hn
  have hc := wsOf_at (sh := sh) (cI := cI) (cZ := cZ) (cB := cB) (ad := ad) (M := M) hk
  rw [hs] at hc
  refine va_iald hx hb hK hP k 0 hc rfl h1 hd ?_
  have h := kk (hM k i) hM H locs ls hP hS hl
  simp only [h2]
  exact h
theorem k_zaload (C : Ctx sh N own cc nL ret R post K) {k n : Nat} {i : Int} (hs : sh k = .inl (.boolean, n)) (hk : k < N) (hn : n < 2147483648) (hi : 0 ≤ i ∧ i < n) (hd : decode cc pc = .ok (.baload, 1)) (kk : inR (M k i) → K (pc + 1) lv (.inl (M k i) :: stk) M) : K pc lv (.inl i :: .inr k :: stk) M := by
  obtain ⟨p, l, e, s, m, args, below, meth, c, D, cI, cZ, cB, ad, A, ⟨hx, hb, hml, hown, hts⟩, ⟨hr, hlk, hns⟩, hK, hA, hD, rfl⟩ := C
  intro hM H locs ls hP hS hl
  obtain ⟨h1, h2⟩ := oI_in hi.1 hi.2 hn
  have hc := wsOf_at (sh := sh) (cI := cI) (cZ := cZ) (cB := cB) (ad := ad) (M := M) hk
  rw [hs] at hc
  refine va_zald hx hb hK hP k 1 hc rfl h1 hd ?_
  have h := kk (hM k i) hM H locs ls hP hS hl
  simp only [h2]
  exact h
theorem k_baload (C : Ctx sh N own cc nL ret R post K) {k n : Nat} {i : Int} (hs : sh k = .inl (.byte, n)) (hk : k < N) (hn : n < 2147483648) (hi : 0 ≤ i ∧ i < n) (hd : decode cc pc = .ok (.baload, 1)) (kk : inR (M k i) → K (pc + 1) lv (.inl (M k i) :: stk) M) : K pc lv (.inl i :: .inr k :: stk) M := by
  obtain ⟨p, l, e, s, m, args, below, meth, c, D, cI, cZ, cB, ad, A, ⟨hx, hb, hml, hown, hts⟩, ⟨hr, hlk, hns⟩, hK, hA, hD, rfl⟩ := C
  intro hM H locs ls hP hS hl
  obtain ⟨h1, h2⟩ := oI_in hi.1 hi.2 hn
  have hc := wsOf_at (sh := sh) (cI := cI) (cZ := cZ) (cB := cB) (ad := ad) (M := M) hk
  rw [hs] at hc
  refine va_bald hx hb hK hP k 2 hc rfl h1 hd ?_
  have h := kk (hM k i) hM H locs ls hP hS hl
  simp only [h2]
  exact h
theorem upd_M {M : Mem} {k : Nat} {i v : Int} {x : Int32} {j : Nat} (hj : (j : Int) = i) (hx : x = Int32.ofInt v) : upd (fun (j : Nat) => Int32.ofInt (M k j)) j x = fun (j : Nat) => Int32.ofInt (up M k i v k j) := by
  funext q
  unfold upd
  subst hx
  by_cases h : q = j
  · subst h; rw [if_pos rfl, up_at, if_pos hj]
  · rw [if_neg h, up_at, if_neg (by omega)]
theorem k_iastore (C : Ctx sh N own cc nL ret R post K) {k n : Nat} {i v : Int} (hs : sh k = .inl (.int, n)) (hk : k < N) (hn : n < 2147483648) (hi : 0 ≤ i ∧ i < n) (hv : inR v) (hd : decode cc pc = .ok (.iastore, 1)) (kk : K (pc + 1) lv stk (up M k i v)) : K pc lv (.inl v :: .inl i :: .inr k :: stk) M := by
  obtain ⟨p, l, e, s, m, args, below, meth, c, D, cI, cZ, cB, ad, A, ⟨hx, hb, hml, hown, hts⟩, ⟨hr, hlk, hns⟩, hK, hA, hD, rfl⟩ := C
  intro hM H locs ls hP hS hl
  obtain ⟨h1, h2⟩ := oI_in hi.1 hi.2 hn
  have hc := wsOf_at (sh := sh) (cI := cI) (cZ := cZ) (cB := cB) (ad := ad) (M := M) hk
  rw [hs] at hc
  refine va_iast hx hb hK hP (hD M) hS k 0 hc rfl h1 hd (fun H1 locs1 hP1 _ hS1 => ?_)
  rw [upd_M h2 rfl, wsOf_set (M' := up M k i v) hk (by rw [hs]; rfl) (fun j hj => up_ne hj)] at hP1
  exact kk (hM.up hv) H1 locs1 ls hP1 hS1 hl
theorem nar_z {v : Int} (h : v = 0 ∨ v = 1) : vp_nar .boolean (Int32.ofInt v) = Int32.ofInt v := by
  rcases h with rfl | rfl <;> decide
theorem k_zastore (C : Ctx sh N own cc nL ret R post K) {k n : Nat} {i v : Int} (hs : sh k = .inl (.boolean, n)) (hk : k < N) (hn : n < 2147483648) (hi : 0 ≤ i ∧ i < n) (hv : v = 0 ∨ v = 1) (hd : decode cc pc = .ok (.bastore, 1)) (kk : K (pc + 1) lv stk (up M k i v)) : K pc lv (.inl v :: .inl i :: .inr k :: stk) M := by
  obtain ⟨p, l, e, s, m, args, below, meth, c, D, cI, cZ, cB, ad, A, ⟨hx, hb, hml, hown, hts⟩, ⟨hr, hlk, hns⟩, hK, hA, hD, rfl⟩ := C
  intro hM H locs ls hP hS hl
  obtain ⟨h1, h2⟩ := oI_in hi.1 hi.2 hn
  have hc := wsOf_at (sh := sh) (cI := cI) (cZ := cZ) (cB := cB) (ad := ad) (M := M) hk
  rw [hs] at hc
  refine va_zast hx hb hK hP (hD M) hS k 1 hc rfl h1 hd (fun H1 locs1 hP1 _ hS1 => ?_)
  rw [upd_M h2 (nar_z hv), wsOf_set (M' := up M k i v) hk (by rw [hs]; rfl) (fun j hj => up_ne hj)] at hP1
  exact kk (hM.up (by omega)) H1 locs1 ls hP1 hS1 hl
theorem k_bastore (C : Ctx sh N own cc nL ret R post K) {k n : Nat} {i v : Int} (hs : sh k = .inl (.byte, n)) (hk : k < N) (hn : n < 2147483648) (hi : 0 ≤ i ∧ i < n) (hv : -128 ≤ v ∧ v < 128) (hd : decode cc pc = .ok (.bastore, 1)) (kk : K (pc + 1) lv stk (up M k i v)) : K pc lv (.inl v :: .inl i :: .inr k :: stk) M := by
  obtain ⟨p, l, e, s, m, args, below, meth, c, D, cI, cZ, cB, ad, A, ⟨hx, hb, hml, hown, hts⟩, ⟨hr, hlk, hns⟩, hK, hA, hD, rfl⟩ := C
  intro hM H locs ls hP hS hl
  obtain ⟨h1, h2⟩ := oI_in hi.1 hi.2 hn
  have hc := wsOf_at (sh := sh) (cI := cI) (cZ := cZ) (cB := cB) (ad := ad) (M := M) hk
  rw [hs] at hc
  have hr : inR v := by omega
  have hn8 : vp_nar .byte (Int32.ofInt v) = Int32.ofInt v := by
    rw [vp_nar_byte]
    apply Int32.toInt_inj.mp
    rw [Int8.toInt_toInt32, Int32.toInt_toInt8, tI hr]
    exact Int.bmod_eq_of_le (by simp; omega) (by simp; omega)
  refine va_bast hx hb hK hP (hD M) hS k 2 hc rfl h1 hd (fun H1 locs1 hP1 _ hS1 => ?_)
  rw [upd_M h2 hn8, wsOf_set (M' := up M k i v) hk (by rw [hs]; rfl) (fun j hj => up_ne hj)] at hP1
  exact kk (hM.up hr) H1 locs1 ls hP1 hS1 hl
theorem k_alen (C : Ctx sh N own cc nL ret R post K) {k n : Nat} {ty : FieldType} (hs : sh k = .inl (ty, n)) (hk : k < N) (hty : ty = .int ∨ ty = .boolean ∨ ty = .byte) (hd : decode cc pc = .ok (.arraylength, 1)) (kk : K (pc + 1) lv (.inl (n : Int) :: stk) M) : K pc lv (.inr k :: stk) M := by
  obtain ⟨p, l, e, s, m, args, below, meth, c, D, cI, cZ, cB, ad, A, ⟨hx, hb, hml, hown, hts⟩, ⟨hr, hlk, hns⟩, hK, hA, hD, rfl⟩ := C
  intro hM H locs ls hP hS hl
  have hc := wsOf_at (sh := sh) (cI := cI) (cZ := cZ) (cB := cB) (ad := ad) (M := M) hk
  rw [hs] at hc
  rcases hty with rfl | rfl | rfl
  · exact va_alen hx hb hK hP k 0 hc rfl rfl hd (kk hM H locs ls hP hS hl)
  · exact va_alen hx hb hK hP k 1 hc rfl rfl hd (kk hM H locs ls hP hS hl)
  · exact va_alen hx hb hK hP k 2 hc rfl rfl hd (kk hM H locs ls hP hS hl)
/-- what a class's own table says: its words are among the tables' -/
def okC (ci : Nat) (C : String) (T : u_T) (n : Nat) (ty : Nat → FieldType) : Prop := vwCl[ci]? = some (C, T, n) ∧ (∀ w ∈ u_ws C T n, w ∈ tbg) ∧ (∀ k, k < n → parseFieldDescriptor (T k).2.2.1 = some (ty k)) ∧ ∀ a, a < n → ∀ b, b < n → a ≠ b → (T a).2.1 ≠ (T b).2.1
theorem k_getR (C : Ctx sh N own cc nL ret R post K) {k r ci j n index : Nat} {fs : List (Option Nat)} {CC : String} {T : u_T} {ty : Nat → FieldType} (hc : okC ci CC T n ty) (hs : sh k = .inr (ci, fs)) (hk : k < N) (hj : j < n) (hf : fs[j]? = some (some r)) (hw : Cond.fieldLink own index (T j).1 (T j).2.1 (T j).2.2.1 ∈ tbg) (hd : decode cc pc = .ok (.getfield index, 3)) (kk : K (pc + 3) lv (.inr r :: stk) M) : K pc lv (.inr k :: stk) M := by
  obtain ⟨p, l, e, s, m, args, below, meth, c, D, cI, cZ, cB, ad, A, ⟨hx, hb, hml, hown, hts⟩, ⟨hr, hlk, hns⟩, hK, hA, hD, rfl⟩ := C
  intro hM H locs ls hP hS hl
  have he := wsOf_at (sh := sh) (cI := cI) (cZ := cZ) (cB := cB) (ad := ad) (M := M) hk
  rw [hs] at he
  exact va_get (v := .ref (ad r)) hx hb hts hc.2.1 hown hK hP k he hc.1 j hj (hts _ hw) (fun _ h => h) (by rw [List.getElem?_mapIdx, hf]; rfl) hd (kk hM H locs ls hP hS hl)
theorem k_getI (C : Ctx sh N own cc nL ret R post K) {k ci j n index : Nat} {fs : List (Option Nat)} {CC : String} {T : u_T} {ty : Nat → FieldType} (hc : okC ci CC T n ty) (hs : sh k = .inr (ci, fs)) (hk : k < N) (hj : j < n) (hf : fs[j]? = some none) (hw : Cond.fieldLink own index (T j).1 (T j).2.1 (T j).2.2.1 ∈ tbg) (hd : decode cc pc = .ok (.getfield index, 3)) (kk : inR (M k j) → K (pc + 3) lv (.inl (M k j) :: stk) M) : K pc lv (.inr k :: stk) M := by
  obtain ⟨p, l, e, s, m, args, below, meth, c, D, cI, cZ, cB, ad, A, ⟨hx, hb, hml, hown, hts⟩, ⟨hr, hlk, hns⟩, hK, hA, hD, rfl⟩ := C
  intro hM H locs ls hP hS hl
  have he := wsOf_at (sh := sh) (cI := cI) (cZ := cZ) (cB := cB) (ad := ad) (M := M) hk
  rw [hs] at he
  exact va_get (v := .int (Int32.ofInt (M k j))) hx hb hts hc.2.1 hown hK hP k he hc.1 j hj (hts _ hw) (fun _ h => h) (by rw [List.getElem?_mapIdx, hf]; rfl) hd (kk (hM k j) hM H locs ls hP hS hl)
theorem set_M {M : Mem} {ad : Nat → Nat} {k j : Nat} {v : Int} {fs : List (Option Nat)} (hf : fs[j]? = some none) : (fs.mapIdx (fun j f => fv ad M k j f)).set j (.int (Int32.ofInt v)) = fs.mapIdx (fun i f => fv ad (up M k j v) k i f) := by
  apply List.ext_getElem?
  intro i
  by_cases hi : i = j
  · subst hi
    rw [List.getElem?_set_self (by rw [List.length_mapIdx]; exact (List.getElem?_eq_some_iff.mp hf).1), List.getElem?_mapIdx, hf]
    simp [fv, up]
  · rw [List.getElem?_set_ne (Ne.symm hi), List.getElem?_mapIdx, List.getElem?_mapIdx]
    cases fs[i]? with
    | none => rfl
    | some f => cases f with
      | none => simp only [Option.map_some, fv, up]; rw [if_neg (by omega)]
      | some r => rfl
theorem k_putI (C : Ctx sh N own cc nL ret R post K) {k ci j n index : Nat} {fs : List (Option Nat)} {CC : String} {T : u_T} {ty : Nat → FieldType} {v : Int} (hc : okC ci CC T n ty) (hs : sh k = .inr (ci, fs)) (hk : k < N) (hj : j < n) (hf : fs[j]? = some none) (hfin : (T j).2.2.2 = false) (hty : ty j = .int) (hv : inR v) (hw : Cond.fieldLink own index (T j).1 (T j).2.1 (T j).2.2.1 ∈ tbg) (hd : decode cc pc = .ok (.putfield index, 3)) (kk : K (pc + 3) lv stk (up M k j v)) : K pc lv (.inl v :: .inr k :: stk) M := by
  obtain ⟨p, l, e, s, m, args, below, meth, c, D, cI, cZ, cB, ad, A, ⟨hx, hb, hml, hown, hts⟩, ⟨hr, hlk, hns⟩, hK, hA, hD, rfl⟩ := C
  intro hM H locs ls hP hS hl
  have he := wsOf_at (sh := sh) (cI := cI) (cZ := cZ) (cB := cB) (ad := ad) (M := M) hk
  rw [hs] at he
  refine va_put (v := .int (Int32.ofInt v)) (ty := .int) hx hb hts hc.2.1 ty hc.2.2.1 hc.2.2.2 hown hK hP (hD M) hS k he hc.1 j hj (hts _ hw) (fun _ h => h) hfin (by rw [hc.2.2.1 j hj, hty]) rfl rfl (by rw [List.length_mapIdx]; exact (List.getElem?_eq_some_iff.mp hf).1) hd (fun H1 locs1 hP1 _ hS1 => ?_)
  rw [set_M hf, wsOf_set (M' := up M k j v) hk (by rw [hs]; rfl) (fun j hj => up_ne hj)] at hP1
  exact kk (hM.up hv) H1 locs1 ls hP1 hS1 hl
theorem k_putZ (C : Ctx sh N own cc nL ret R post K) {k ci j n index : Nat} {fs : List (Option Nat)} {CC : String} {T : u_T} {ty : Nat → FieldType} {v : Int} (hc : okC ci CC T n ty) (hs : sh k = .inr (ci, fs)) (hk : k < N) (hj : j < n) (hf : fs[j]? = some none) (hfin : (T j).2.2.2 = false) (hty : ty j = .boolean) (hv : v = 0 ∨ v = 1) (hw : Cond.fieldLink own index (T j).1 (T j).2.1 (T j).2.2.1 ∈ tbg) (hd : decode cc pc = .ok (.putfield index, 3)) (kk : K (pc + 3) lv stk (up M k j v)) : K pc lv (.inl v :: .inr k :: stk) M := by
  obtain ⟨p, l, e, s, m, args, below, meth, c, D, cI, cZ, cB, ad, A, ⟨hx, hb, hml, hown, hts⟩, ⟨hr, hlk, hns⟩, hK, hA, hD, rfl⟩ := C
  intro hM H locs ls hP hS hl
  have he := wsOf_at (sh := sh) (cI := cI) (cZ := cZ) (cB := cB) (ad := ad) (M := M) hk
  rw [hs] at he
  refine va_put (v := .int (Int32.ofInt v)) (ty := .boolean) hx hb hts hc.2.1 ty hc.2.2.1 hc.2.2.2 hown hK hP (hD M) hS k he hc.1 j hj (hts _ hw) (fun _ h => h) hfin (by rw [hc.2.2.1 j hj, hty]) (by rcases hv with rfl | rfl <;> decide) (by rcases hv with rfl | rfl <;> decide) (by rw [List.length_mapIdx]; exact (List.getElem?_eq_some_iff.mp hf).1) hd (fun H1 locs1 hP1 _ hS1 => ?_)
  rw [set_M hf, wsOf_set (M' := up M k j v) hk (by rw [hs]; rfl) (fun j hj => up_ne hj)] at hP1
  exact kk (hM.up (by omega)) H1 locs1 ls hP1 hS1 hl
theorem k_iret (C : Ctx sh N own cc nL (some .int) R post K) {z : Int} (hd : decode cc pc = .ok (.ireturn, 1)) (hz : inR z) (hp : Rg M → post z M) : K pc lv [.inl z] M := by
  obtain ⟨p, l, e, s, m, args, below, meth, c, D, cI, cZ, cB, ad, A, ⟨hx, hb, hml, hown, hts⟩, ⟨hr, hlk, hns⟩, hK, hA, hD, rfl⟩ := C
  intro hM H locs ls hP hS hl
  exact W.iret (v := Int32.ofInt z) hx hb hr (fun t ht hW => ⟨⟨Int32.ofInt z, M, rfl, ⟨z, rfl, hz, hp hM⟩, hM, by rw [ht]; exact hP, va_K.moved hW.alike hK, hD M⟩, hS.F ht⟩) hS.2.2 hd hlk
theorem k_zret (C : Ctx sh N own cc nL (some .boolean) R post K) {z : Int} (hd : decode cc pc = .ok (.ireturn, 1)) (hz : z = 0 ∨ z = 1) (hp : Rg M → post z M) : K pc lv [.inl z] M := by
  obtain ⟨p, l, e, s, m, args, below, meth, c, D, cI, cZ, cB, ad, A, ⟨hx, hb, hml, hown, hts⟩, ⟨hr, hlk, hns⟩, hK, hA, hD, rfl⟩ := C
  intro hM H locs ls hP hS hl
  exact W.zret (v := Int32.ofInt z) hx hb hr (by rcases hz with rfl | rfl <;> decide) (fun t ht hW => ⟨⟨Int32.ofInt z, M, rfl, ⟨z, rfl, by omega, hp hM⟩, hM, by rw [ht]; exact hP, va_K.moved hW.alike hK, hD M⟩, hS.F ht⟩) hS.2.2 hd hlk
theorem k_vret (C : Ctx sh N own cc nL none R post K) (hd : decode cc pc = .ok (.return_, 1)) (hp : Rg M → post 0 M) : K pc lv [] M := by
  obtain ⟨p, l, e, s, m, args, below, meth, c, D, cI, cZ, cB, ad, A, ⟨hx, hb, hml, hown, hts⟩, ⟨hr, hlk, hns⟩, hK, hA, hD, rfl⟩ := C
  intro hM H locs ls hP hS hl
  exact W.vret hx hb hr (fun t ht hW => ⟨⟨M, rfl, hp hM, hM, by rw [ht]; exact hP, va_K.moved hW.alike hK, hD M⟩, hS.F ht⟩) hS.2.2 hd hlk
end ROWS2
