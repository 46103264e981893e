/-! LEAST, pure: nodes get states in all ways; g: the steps that stand, so: the states of the nodes below nd -/
def canP (W : (Int → Int) → Prop) (pr lc : Int → Int) (m : Int) : Nat → Int → (Int → Int) → (Int → Int) → Int → Prop
  | 0, _, _, _, _ => True
  | f + 1, nd, g, so, u => (¬ g (8 * so (pr nd) + lc nd) = -1 ∧ canP W pr lc m f (nd + 1) g (updI so nd (g (8 * so (pr nd) + lc nd))) u) ∨
    (g (8 * so (pr nd) + lc nd) = -1 ∧ ∃ s, 0 ≤ s ∧ s < m ∧ s ≤ u ∧ ¬ W (updI g (8 * so (pr nd) + lc nd) s) ∧ canP W pr lc m f (nd + 1) (updI g (8 * so (pr nd) + lc nd) s) (updI so nd s) (if s = u then u + 1 else u))
/-- row w lacks the step s at its last call alone -/
def lkd (g ca sz : Int → Int) (w s : Int) : Prop := 1 ≤ sz w ∧ ¬ wkf (fun x => x) g ca w (sz w - 1).toNat = -1 ∧ s = 8 * wkf (fun x => x) g ca w (sz w - 1).toNat + ca (12 * w + (sz w - 1)) ∧ g s = -1
theorem rt_id (x : Int) : rt (fun x => x) x = x := rt_self rfl
theorem wkf_ext {g g' ca : Int → Int} {w : Int} (h : ∀ i, ¬ g i = -1 → g' i = g i) : ∀ l : Nat, ¬ wkf (fun x => x) g ca w l = -1 → wkf (fun x => x) g' ca w l = wkf (fun x => x) g ca w l
  | 0, _ => rfl
  | l + 1, hl => by
    rw [wkf] at hl ⊢
    rw [wkf]
    by_cases e : wkf (fun x => x) g ca w l = -1
    · rw [if_pos e] at hl; exact absurd rfl hl
    · rw [if_neg e] at hl ⊢
      rw [wkf_ext h l e, if_neg e]
      by_cases e2 : g (8 * wkf (fun x => x) g ca w l + ca (12 * w + l)) = -1
      · rw [if_pos e2] at hl; exact absurd rfl hl
      · rw [if_neg e2, h _ e2, if_neg e2]
theorem canP_nb {n : Int} {sz ri th ca pr lc : Int → Int} {m : Int} : ∀ (f : Nat) (nd : Int) (g so : Int → Int) (u : Int), canP (TW n sz ri th ca (fun x => x)) pr lc m f nd g so u → ∀ k w, nd ≤ k → k < nd + f → pr k < nd → ask n sz ri th ca w → ¬ lkd g ca sz w (8 * so (pr k) + lc k)
  | 0, nd, g, so, u, _, k, w, h1, h2, _, _, _ => by omega
  | f + 1, nd, g, so, u, h, k, w, h1, h2, h3, ha, hl => by
    obtain ⟨l1, l2, l3, l4⟩ := id hl
    rcases h with ⟨e, q⟩ | ⟨e, s, s1, s2, s3, s4, q⟩
    · have kn : k ≠ nd := fun z => by rw [z] at l4; exact e l4
      have := canP_nb f (nd + 1) g _ u q k w (by omega) (by omega) (by omega) ha
      rw [updI_ne (by omega)] at this
      exact this hl
    · by_cases z : 8 * so (pr k) + lc k = 8 * so (pr nd) + lc nd
      · refine s4 ⟨w, ha, ?_⟩
        unfold tkn
        have ext := wkf_ext (ca := ca) (w := w) (g := g) (g' := updI g (8 * so (pr nd) + lc nd) s) (fun i hi => by rw [updI_ne (fun y => hi (by rw [y]; exact e))]) (sz w - 1).toNat l2
        have st := wkf_s (it := fun x => x) (ch := updI g (8 * so (pr nd) + lc nd) s) (ca := ca) (r := w) (k := sz w - 1) (by omega) (by rw [ext]; exact l2) (by rw [ext, ← l3, z, updI_at]; omega)
        rw [show sz w - 1 + 1 = sz w by omega] at st
        rw [st, rt_id, ext, ← l3, z, updI_at]; omega
      · have kn : k ≠ nd := fun y => z (by rw [y])
        have := canP_nb f (nd + 1) _ _ _ q k w (by omega) (by omega) (by omega) ha
        rw [updI_ne (show pr k ≠ nd by omega)] at this
        refine this ?_
        have ext := wkf_ext (ca := ca) (w := w) (g := g) (g' := updI g (8 * so (pr nd) + lc nd) s) (fun i hi => by rw [updI_ne (fun y => hi (by rw [y]; exact e))]) (sz w - 1).toNat l2
        exact ⟨l1, by rw [ext]; exact l2, by rw [ext]; exact l3, by rw [updI_ne z]; exact l4⟩
theorem updI_chok {g : Int → Int} {e s : Int} (h : ChOk 3 g) (hs : 0 ≤ s ∧ s < 3) : ChOk 3 (updI g e s) := by
  intro i a b
  unfold updI
  split
  · exact Or.inr hs
  · exact h i a b
theorem canP_cg {n : Int} {sz ri th ca pr lc pr' lc' : Int → Int} {m : Int} (hB : BkOk n sz ri th ca) (hm : m ≤ 3) : ∀ (f : Nat) (nd : Int) (g so g' so' : Int → Int) (u : Int), (∀ k, nd ≤ k → k < nd + f → (0 ≤ pr k ∧ pr k < k) ∧ (0 ≤ lc k ∧ lc k < 8) ∧ pr' k = pr k ∧ lc' k = lc k) → ChOk 3 g → (∀ i, 0 ≤ i → i < 24 → g' i = g i) → (∀ k, 0 ≤ k → k < nd → (0 ≤ so k ∧ so k < 3) ∧ so' k = so k) → canP (TW n sz ri th ca (fun x => x)) pr lc m f nd g so u → canP (TW n sz ri th ca (fun x => x)) pr' lc' m f nd g' so' u
  | 0, _, _, _, _, _, _, _, _, _, _, _ => trivial
  | f + 1, nd, g, so, g', so', u, hp, hc, hg, hs, h => by
    obtain ⟨p1, p2, p3, p4⟩ := hp nd (by omega) (by omega)
    obtain ⟨q1, q2⟩ := hs (pr nd) p1.1 p1.2
    have ee : 8 * so' (pr' nd) + lc' nd = 8 * so (pr nd) + lc nd := by rw [p3, p4, q2]
    have ei := hg (8 * so (pr nd) + lc nd) (by omega) (by omega)
    have eo := hc (8 * so (pr nd) + lc nd) (by omega) (by omega)
    rcases h with ⟨e, q⟩ | ⟨e, s, s1, s2, s3, s4, q⟩
    · left
      rw [ee, ei]
      refine ⟨e, canP_cg hB hm f (nd + 1) g _ g' _ u (fun k a b => hp k (by omega) (by omega)) hc hg (fun k a b => ?_) q⟩
      unfold updI
      by_cases z : k = nd
      · rw [if_pos z, if_pos z]; exact ⟨by omega, rfl⟩
      · rw [if_neg z, if_neg z]; exact hs k a (by omega)
    · right
      rw [ee, ei]
      have hc2 := updI_chok (e := 8 * so (pr nd) + lc nd) hc ⟨s1, by omega⟩
      have hg2 : ∀ i, 0 ≤ i → i < 24 → updI g' (8 * so (pr nd) + lc nd) s i = updI g (8 * so (pr nd) + lc nd) s i := fun i a b => by
        unfold updI
        split
        · rfl
        · exact hg i a b
      refine ⟨e, s, s1, s2, s3, fun w => s4 ((TW_cg (m := 3) hB (fun x a b => ⟨a, Int.le_refl x⟩) hc2 (by omega) (fun x a b => rfl) (fun i a b => hg2 i a (by omega))).1 w), canP_cg hB hm f (nd + 1) _ _ _ _ _ (fun k a b => hp k (by omega) (by omega)) hc2 hg2 (fun k a b => ?_) q⟩
      unfold updI
      by_cases z : k = nd
      · rw [if_pos z, if_pos z]; exact ⟨by omega, rfl⟩
      · rw [if_neg z, if_neg z]; exact hs k a (by omega)
/-! bits -/
theorem oI_or {a b : Nat} (ha : a < 2 ^ 31) (hb : b < 2 ^ 31) : Int32.ofInt (a : Int) ||| Int32.ofInt (b : Int) = Int32.ofInt ((a ||| b : Nat) : Int) := by
  apply oI_of_nat
  have h := Nat.or_lt_two_pow ha hb
  rw [Int32.toBitVec_or, BitVec.toNat_or, oI_nat, oI_nat, show ((a : Int) % 4294967296).toNat = a by omega, show ((b : Int) % 4294967296).toNat = b by omega]
  omega
theorem fb_bit_set (n j i : Nat) : (n ||| 2 ^ j).testBit i = (n.testBit i || decide (i = j)) := by
  rw [Nat.testBit_or]
  by_cases h : j = i
  · subst h; simp
  · have h2 : ¬ i = j := fun e => h e.symm
    first | (simp [Nat.testBit_two_pow, h, h2]; done) | (simp [Nat.testBit_two_pow_of_ne h, h2]; done)
theorem shl_q : ∀ k : Fin 24, Int32.ofInt 1 <<< (Int32.ofInt (k.val : Int) &&& 31) = Int32.ofInt ((2 ^ k.val : Nat) : Int) := by decide +kernel
theorem ush_k : ∀ k : Fin 24, (((Int32.ofInt (k.val : Int)).toUInt32 &&& Int32.toUInt32 31).toBitVec % 32).toNat = k.val := by decide +kernel
theorem ush_n {a k : Nat} (ha : a < 2 ^ 31) (hk : k < 24) : ((Int32.ofInt (a : Int)).toUInt32 >>> ((Int32.ofInt (k : Int)).toUInt32 &&& Int32.toUInt32 31)).toInt32 = Int32.ofInt ((a / 2 ^ k : Nat) : Int) := by
  apply oI_of_nat
  rw [pk_ushr _ _ k (ush_k ⟨k, hk⟩), oI_nat, show ((a : Int) % 4294967296).toNat = a by omega]
  have : a / 2 ^ k ≤ a := Nat.div_le_self _ _
  generalize a / 2 ^ k = q at this ⊢
  omega
theorem oI_and1 {a : Nat} (ha : a < 2 ^ 31) : Int32.ofInt (a : Int) &&& Int32.ofInt 1 = Int32.ofInt ((a % 2 : Nat) : Int) := by
  rw [pk_and (Int32.ofInt (a : Int)) (m := Int32.ofInt 1) 1 (by decide), oI_nat, show ((a : Int) % 4294967296).toNat = a by omega]
  rfl
section BITROWS
variable {sh : Nat → Sh} {N : Nat} {own : String} {cc : ByteArray} {nL : Nat} {ret : Option FieldType} {R : Room} {post : Int → Mem → Prop} {K : Kt} {pc : Nat} {lv : Lv} {stk : List V} {M : Mem}
theorem k_ior (C : Ctx sh N own cc nL ret R post K) {a b : Nat} (ha : a < 2 ^ 31) (hb : b < 2 ^ 31) (hd : decode cc pc = .ok (.ior, 1)) (kk : K (pc + 1) lv (.inl ((a ||| b : Nat) : Int) :: stk) M) : K pc lv (.inl (b : Int) :: .inl (a : Int) :: stk) M := by
  obtain ⟨p, l, e, s, m, args, below, meth, c, D, cI, cZ, cB, ad, A, ⟨hx, hb2, hml, hown, hts⟩, ⟨hr, hlk, hns⟩, hK, hA, hD, rfl⟩ := C
  intro hM H locs ls hP hS hl
  have h := kk hM H locs ls hP hS hl
  simp only [List.map_cons, vv, ← oI_or ha hb] at h
  exact lv_ior hx hb2 hd h
theorem k_ishl1 (C : Ctx sh N own cc nL ret R post K) {k : Nat} (hk : k < 24) (hd : decode cc pc = .ok (.ishl, 1)) (kk : K (pc + 1) lv (.inl ((2 ^ k : Nat) : Int) :: stk) M) : K pc lv (.inl (k : Int) :: .inl 1 :: stk) M := by
  obtain ⟨p, l, e, s, m, args, below, meth, c, D, cI, cZ, cB, ad, A, ⟨hx, hb2, hml, hown, hts⟩, ⟨hr, hlk, hns⟩, hK, hA, hD, rfl⟩ := C
  intro hM H locs ls hP hS hl
  have h := kk hM H locs ls hP hS hl
  simp only [List.map_cons, vv, ← shl_q ⟨k, hk⟩] at h
  exact lv_ishl hx hb2 hd h
theorem k_iushrN (C : Ctx sh N own cc nL ret R post K) {a k : Nat} (ha : a < 2 ^ 31) (hk : k < 24) (hd : decode cc pc = .ok (.iushr, 1)) (kk : K (pc + 1) lv (.inl ((a / 2 ^ k : Nat) : Int) :: stk) M) : K pc lv (.inl (k : Int) :: .inl (a : Int) :: stk) M := by
  obtain ⟨p, l, e, s, m, args, below, meth, c, D, cI, cZ, cB, ad, A, ⟨hx, hb2, hml, hown, hts⟩, ⟨hr, hlk, hns⟩, hK, hA, hD, rfl⟩ := C
  intro hM H locs ls hP hS hl
  exact lv_iushr hx hb2 hd (ush_n ha hk) (kk hM H locs ls hP hS hl)
theorem k_iand1 (C : Ctx sh N own cc nL ret R post K) {a : Nat} (ha : a < 2 ^ 31) (hd : decode cc pc = .ok (.iand, 1)) (kk : K (pc + 1) lv (.inl ((a % 2 : Nat) : Int) :: stk) M) : K pc lv (.inl 1 :: .inl (a : Int) :: stk) M := by
  obtain ⟨p, l, e, s, m, args, below, meth, c, D, cI, cZ, cB, ad, A, ⟨hx, hb2, hml, hown, hts⟩, ⟨hr, hlk, hns⟩, hK, hA, hD, rfl⟩ := C
  intro hM H locs ls hP hS hl
  have h := kk hM H locs ls hP hS hl
  simp only [List.map_cons, vv, ← oI_and1 ha] at h
  exact lv_iand hx hb2 hd h
end BITROWS
