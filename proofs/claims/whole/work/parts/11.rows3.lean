/-! more rows: division, remainder, switches, bits -/
theorem oI_div {a b : Int} (ha : 0 ≤ a ∧ a < 2147483648) (hb : 0 < b ∧ b < 2147483648) : Int32.ofInt a / Int32.ofInt b = Int32.ofInt (a / b) := by
  have hd : inR (a / b) := by
    have h1 := Int.ediv_nonneg ha.1 (by omega : 0 ≤ b)
    have h2 : a / b ≤ a := Int.ediv_le_self b ha.1
    constructor <;> omega
  apply Int32.toInt_inj.mp
  rw [Int32.toInt_div, tI (by omega), tI (by omega), tI hd, Int.tdiv_eq_ediv_of_nonneg ha.1]
  exact Int.bmod_eq_of_le (by simp; omega) (by simp; omega)
section ROWS3
variable {sh : Nat → Sh} {N : Nat} {own : String} {cc : ByteArray} {nL : Nat} {ret : Option FieldType} {R : Room} {post : Int → Mem → Prop} {K : Kt}
variable {pc : Nat} {lv : Lv} {stk : List V} {M : Mem}
theorem k_idiv (C : Ctx sh N own cc nL ret R post K) {a b : Int} (hd : decode cc pc = .ok (.idiv, 1)) (ha : 0 ≤ a ∧ a < 2147483648) (hb0 : 0 < b ∧ b < 2147483648) (kk : K (pc + 1) lv (.inl (a / b) :: stk) M) : K pc lv (.inl b :: .inl a :: stk) M := by
  obtain ⟨p, l, e, s, m, args, below, meth, c, D, cI, cZ, cB, ad, A, ⟨hx, hb, hml, hown, hts⟩, ⟨hr, hlk, hns⟩, hK, hA, hD, rfl⟩ := C
  intro hM H locs ls hP hS hl
  have h := kk hM H locs ls hP hS hl
  simp only [List.map_cons, vv, ← oI_div ha hb0] at h
  exact lv_idiv hx hb hd (fun q => by rw [oI_0, oI_eq (by omega) (by omega)] at q; omega) h
theorem k_irem (C : Ctx sh N own cc nL ret R post K) {a b : Int} (hd : decode cc pc = .ok (.irem, 1)) (ha : 0 ≤ a ∧ a < 2147483648) (hb0 : 0 < b ∧ b < 2147483648) (kk : K (pc + 1) lv (.inl (a % b) :: stk) M) : K pc lv (.inl b :: .inl a :: stk) M := by
  obtain ⟨p, l, e, s, m, args, below, meth, c, D, cI, cZ, cB, ad, A, ⟨hx, hb, hml, hown, hts⟩, ⟨hr, hlk, hns⟩, hK, hA, hD, rfl⟩ := C
  intro hM H locs ls hP hS hl
  have h := kk hM H locs ls hP hS hl
  refine lv_irem hx hb hd (fun q => by rw [oI_0, oI_eq (by omega) (by omega)] at q; omega) ?_
  have e1 : Int32.ofInt a - Int32.ofInt a / Int32.ofInt b * Int32.ofInt b = Int32.ofInt (a % b) := by
    rw [oI_div ha hb0, ← Int32.ofInt_mul, ← Int32.ofInt_sub]
    congr 1
    have := Int.mul_ediv_add_emod a b
    rw [Int.mul_comm] at this
    omega
  rw [e1]
  exact h
theorem k_table (C : Ctx sh N own cc nL ret R post K) {a : Int} {dflt lo hi : Int} {offs : Array Int} {len : Nat} (hd : decode cc pc = .ok (.tableswitch dflt lo hi offs, len)) (ha : inR a) {tgt : Nat} (ht : (pc : Int) + dflt = (tgt : Int))
    (kin : ∀ (off : Int) (t : Nat), lo ≤ a → a ≤ hi → offs[(a - lo).toNat]? = some off → (pc : Int) + off = (t : Int) → K t lv stk M) (hin : lo ≤ a → a ≤ hi → ∃ (off : Int) (t : Nat), offs[(a - lo).toNat]? = some off ∧ (pc : Int) + off = (t : Int)) (kout : a < lo ∨ hi < a → K tgt lv stk M) : K pc lv (.inl a :: stk) M := by
  obtain ⟨p, l, e, s, m, args, below, meth, c, D, cI, cZ, cB, ad, A, ⟨hx, hb, hml, hown, hts⟩, ⟨hr, hlk, hns⟩, hK, hA, hD, rfl⟩ := C
  intro hM H locs ls hP hS hl
  by_cases h : lo ≤ a ∧ a ≤ hi
  · obtain ⟨off, t, h1, h2⟩ := hin h.1 h.2
    exact lv_tableIn hx hb hd (by rw [tI ha]; omega) (by rw [tI ha]; omega) (by rw [tI ha]; exact h1) h2 (kin off t h.1 h.2 h1 h2 hM H locs ls hP hS hl)
  · exact lv_tableOut hx hb hd (by rw [tI ha]; omega) ht (kout (by omega) hM H locs ls hP hS hl)
theorem k_lookup (C : Ctx sh N own cc nL ret R post K) {a : Int} {dflt : Int} {ps : Array (Int × Int)} {len : Nat} (hd : decode cc pc = .ok (.lookupswitch dflt ps, len)) (ha : inR a) (hp : (ps.toList.zip (ps.toList.drop 1)).all (fun (a, next) => a.1 < next.1) = true) {off : Int} {tgt : Nat} (ho : Op.lookupswitch.offset ps.toList dflt a = off) (ht : (pc : Int) + off = (tgt : Int)) (kk : K tgt lv stk M) : K pc lv (.inl a :: stk) M := by
  obtain ⟨p, l, e, s, m, args, below, meth, c, D, cI, cZ, cB, ad, A, ⟨hx, hb, hml, hown, hts⟩, ⟨hr, hlk, hns⟩, hK, hA, hD, rfl⟩ := C
  intro hM H locs ls hP hS hl
  exact lv_lookup hx hb hd hp (by rw [tI ha]; exact ho) ht (kk hM H locs ls hP hS hl)
end ROWS3
