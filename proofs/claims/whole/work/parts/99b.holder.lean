/-! UsageDesk$Holder: meet, enterBracket, spread, closeGroup, breaks -/
def chn (sE : Int → Int) (p : Int) : Nat → Int
  | 0 => p
  | k + 1 => sE (chn sE p k)
/-- the moves of the class's text without a call, and by one -/
def CEp (n : Int) (tx sE pt bh rp : Int → Int) (p q : Int) : Prop := (0 ≤ p ∧ p < n) ∧ ((tx p = 32 ∧ q = p + 1) ∨ (tx p = 40 ∧ ((∃ k : Nat, (∀ j : Nat, j ≤ k → chn sE p j < pt p) ∧ q = chn sE p k + 1) ∨ (rp (pt p) = 1 ∧ q = bh (pt p)))) ∨ (tx p = 124 ∧ q = pt p) ∨ (tx p = 41 ∧ (q = bh p ∨ (rp p = 1 ∧ q = pt p))))
def CSt (n : Int) (tx : Int → Int) (p c q : Int) : Prop := (0 ≤ p ∧ p < n) ∧ (0 ≤ c ∧ c < 8) ∧ tx p = 97 + c ∧ q = p + 1
/-- what the search needs of the text's tables -/
def TxO (n : Int) (tx sE pt bh rp : Int → Int) : Prop := (0 ≤ n ∧ n ≤ 200) ∧ (∀ p, 0 ≤ p → p < 200 → 0 ≤ tx p ∧ tx p < 256) ∧ ∀ p, 0 ≤ p → p < n →
  (tx p = 40 → (p < pt p ∧ pt p < n) ∧ (rp (pt p) = 0 ∨ rp (pt p) = 1) ∧ (0 ≤ bh (pt p) ∧ bh (pt p) ≤ n) ∧ ∀ k : Nat, (∀ j : Nat, j ≤ k → chn sE p j < pt p) → chn sE p k < sE (chn sE p k)) ∧
  (tx p = 124 → 0 ≤ pt p ∧ pt p ≤ n) ∧ (tx p = 41 → (rp p = 0 ∨ rp p = 1) ∧ (0 ≤ bh p ∧ bh p ≤ n) ∧ (0 ≤ pt p ∧ pt p ≤ n))
theorem chn_up {n p : Int} {tx sE pt bh rp : Int → Int} (h : TxO n tx sE pt bh rp) (hp : 0 ≤ p ∧ p < n) (e : tx p = 40) : ∀ k : Nat, (∀ j : Nat, j < k → chn sE p j < pt p) → p + k ≤ chn sE p k
  | 0, _ => by show p + ((0 : Nat) : Int) ≤ p; omega
  | k + 1, hk => by
    have ih := chn_up h hp e k (fun j hj => hk j (by omega))
    have := ((h.2.2 p hp.1 hp.2).1 e).2.2.2 k (fun j hj => hk j (by omega))
    show p + ((k + 1 : Nat) : Int) ≤ sE (chn sE p k)
    omega
theorem CEp_rg {n p q : Int} {tx sE pt bh rp : Int → Int} (h : TxO n tx sE pt bh rp) (e : CEp n tx sE pt bh rp p q) : 0 ≤ q ∧ q ≤ n := by
  obtain ⟨hp, e⟩ := e
  obtain ⟨h1, h2, h3⟩ := h.2.2 p hp.1 hp.2
  rcases e with ⟨e, e2⟩ | ⟨e, e2⟩ | ⟨e, e2⟩ | ⟨e, e2⟩
  · omega
  · have := h1 e
    rcases e2 with ⟨k, k1, k2⟩ | e2
    · have u := chn_up h hp e k (fun j hj => k1 j (by omega))
      have v := k1 k (Nat.le_refl k)
      omega
    · omega
  · have := h2 e; omega
  · have := h3 e; omega
abbrev EpC (M : Mem) : Int → Int → Prop := CEp (M 31 7) (M 32) (M 33) (M 34) (M 35) (M 36)
abbrev StC (M : Mem) : Int → Int → Int → Prop := CSt (M 31 7) (M 32)
abbrev TxC (M : Mem) : Prop := TxO (M 31 7) (M 32) (M 33) (M 34) (M 35) (M 36)
def PIv (n : Int) (pa me : Int → Int) (ps : Int) : Prop := 0 ≤ ps ∧ (∀ i, 0 ≤ i → i < ps → 0 ≤ pa i ∧ pa i < 30 * (n + 1) ∧ me (pa i) = 1) ∧ (∀ x, 0 ≤ x → x < 30 * (n + 1) → me x = 0 ∨ (me x = 1 ∧ GIn pa ps x)) ∧ ∀ i j, 0 ≤ i → i < j → j < ps → pa i ≠ pa j
theorem PIv_cap {n ps : Int} {pa me : Int → Int} (h : PIv n pa me ps) (hn : 0 ≤ n) : ps ≤ 30 * (n + 1) := by
  have := fb_holes (30 * (n + 1)).toNat ps.toNat (fun i => (pa i).toNat) (fun i hi => by have := h.2.1 i (by omega) (by omega); omega) (fun i j hij hj => by
    have a := h.2.1 i (by omega) (by omega)
    have b := h.2.1 j (by omega) (by omega)
    have c := h.2.2.2 i j (by omega) (by omega) (by omega)
    omega)
  omega
theorem PIv_add {n ps x : Int} {pa me pa' me' : Int → Int} (h : PIv n pa me ps) (hx : 0 ≤ x ∧ x < 30 * (n + 1)) (h0 : me x = 0) (hp : ∀ i, pa' i = if i = ps then x else pa i) (hm : ∀ i, me' i = if i = x then 1 else me i) : PIv n pa' me' (ps + 1) := by
  obtain ⟨a, b, c, d⟩ := h
  have nx : ∀ i, 0 ≤ i → i < ps → pa i ≠ x := fun i p q e => by have := (b i p q).2.2; rw [e] at this; omega
  refine ⟨by omega, fun i p q => ?_, fun y p q => ?_, fun i j p q r => ?_⟩
  · rw [hp]
    by_cases e : i = ps
    · rw [if_pos e, hm, if_pos rfl]; exact ⟨hx.1, hx.2, rfl⟩
    · rw [if_neg e, hm]
      have := b i p (by omega)
      refine ⟨this.1, this.2.1, ?_⟩
      split
      · rfl
      · exact this.2.2
  · rw [hm]
    by_cases e : y = x
    · right; rw [if_pos e]; exact ⟨rfl, ps, a, by omega, by rw [hp, if_pos rfl, e]⟩
    · rw [if_neg e]
      rcases c y p q with z | ⟨z, i, z1, z2, z3⟩
      · exact Or.inl z
      · exact Or.inr ⟨z, i, z1, by omega, by rw [hp, if_neg (by omega)]; exact z3⟩
  · rw [hp, hp, if_neg (by omega)]
    by_cases e : j = ps
    · rw [if_pos e]; exact nx i p (by omega)
    · rw [if_neg e]; exact d i j p q (by omega)
theorem PIv_room {n ps x : Int} {pa me : Int → Int} (h : PIv n pa me ps) (hn : 0 ≤ n) (hx : 0 ≤ x ∧ x < 30 * (n + 1)) (h0 : me x = 0) : ps < 30 * (n + 1) := by
  have := PIv_cap (PIv_add h hx h0 (pa' := fun i => if i = ps then x else pa i) (me' := fun i => if i = x then 1 else me i) (fun _ => rfl) (fun _ => rfl)) hn
  omega
abbrev PIc (N : Mem) : Prop := PIv (N 31 7) (N 40) (N 41) (N 39 8)
/-- pairs are added, each as Q says -/
def PX (N N' : Mem) (Q : Int → Prop) : Prop := (∀ j, j ≠ 39 → j ≠ 40 → j ≠ 41 → N' j = N j) ∧ (∀ i, i ≠ 8 → N' 39 i = N 39 i) ∧ PIc N' ∧ N 39 8 ≤ N' 39 8 ∧ (∀ i, 0 ≤ i → i < N 39 8 → N' 40 i = N 40 i) ∧ ∀ i, N 39 8 ≤ i → i < N' 39 8 → Q (N' 40 i)
theorem PX.r {N : Mem} {Q : Int → Prop} (h : PIc N) : PX N N Q := ⟨fun _ _ _ _ => rfl, fun _ _ => rfl, h, Int.le_refl _, fun _ _ _ => rfl, fun i a b => by omega⟩
theorem PX.t {N L N' : Mem} {Q : Int → Prop} (h0 : 0 ≤ N 39 8) (h : PX N L Q) (g : PX L N' Q) : PX N N' Q := by
  obtain ⟨a, b, c, d, e, f⟩ := h
  obtain ⟨a', b', c', d', e', f'⟩ := g
  refine ⟨fun j p q r => by rw [a' j p q r, a j p q r], fun i p => by rw [b' i p, b i p], c', by omega, fun i p q => by rw [e' i p (by omega), e i p q], fun i p q => ?_⟩
  by_cases z : i < L 39 8
  · rw [e' i (by omega) z]; exact f i p z
  · exact f' i (by omega) q
theorem PX.w {N N' : Mem} {Q Q' : Int → Prop} (h : PX N N' Q) (hq : ∀ x, Q x → Q' x) : PX N N' Q' := ⟨h.1, h.2.1, h.2.2.1, h.2.2.2.1, h.2.2.2.2.1, fun i a b => hq _ (h.2.2.2.2.2 i a b)⟩
abbrev InC (N : Mem) (x : Int) : Prop := GIn (N 40) (N 39 8) x
theorem PX.i {N N' : Mem} {Q : Int → Prop} (h : PX N N' Q) {x : Int} (hx : InC N x) : InC N' x := by
  obtain ⟨i, a, b, c⟩ := hx
  exact ⟨i, a, by have := h.2.2.2.1; omega, by rw [h.2.2.2.2.1 i a b]; exact c⟩
theorem PX.e {N N' : Mem} {Q : Int → Prop} (h : PX N N' Q) : N' 23 = N 23 ∧ N' 24 = N 24 ∧ N' 31 = N 31 ∧ N' 32 = N 32 ∧ N' 33 = N 33 ∧ N' 34 = N 34 ∧ N' 35 = N 35 ∧ N' 36 = N 36 ∧ N' 42 = N 42 :=
  ⟨h.1 23 (by decide) (by decide) (by decide), h.1 24 (by decide) (by decide) (by decide), h.1 31 (by decide) (by decide) (by decide), h.1 32 (by decide) (by decide) (by decide), h.1 33 (by decide) (by decide) (by decide), h.1 34 (by decide) (by decide) (by decide), h.1 35 (by decide) (by decide) (by decide), h.1 36 (by decide) (by decide) (by decide), h.1 42 (by decide) (by decide) (by decide)⟩
theorem PX.tx {N N' : Mem} {Q : Int → Prop} (h : PX N N' Q) : TxC N' = TxC N ∧ EpC N' = EpC N ∧ StC N' = StC N := by
  obtain ⟨-, -, a, b, c, d, e, f, -⟩ := h.e
  unfold TxC EpC StC
  rw [a, b, c, d, e, f]; exact ⟨rfl, rfl, rfl⟩
set_option maxHeartbeats 4000000 in
set_option maxRecDepth 100000 in
theorem c_meet (N : Mem) (hn : 0 ≤ N 31 7 ∧ N 31 7 ≤ 200) (hP : PIc N) (p s : Int) (hp : 0 ≤ p ∧ p ≤ N 31 7) (hs : 0 ≤ s ∧ s < 30) : Ct shC nC yX3_meet cX3_meet 4 none (lvl 0) [.inr 39, .inl p, .inl s] N (fun _ M' => PX N M' (fun x => x = 30 * p + s) ∧ InC M' (30 * p + s)) := by
  refine Ct_of (by decide +kernel) (Nat.le_of_ble_eq_true rfl) (fun K C => ?_)
  have me1 := hP.2.2.1 (30 * p + s) (by omega) (by omega)
  have cap := PIv_cap hP hn.1
  have h0 := hP.1
  refine k_iload_n C dX3_meet_0 rfl rfl ?_
  refine k_if_lt C (tgt := 21) dX3_meet_1 rfl (by omega) (fun c1 => ?_) (fun c1 => ?_)
  · exfalso; omega
  · refine k_iload_n C dX3_meet_4 rfl rfl ?_
    refine k_sipush C dX3_meet_5 (by decide) ?_
    refine k_icmp_gt C (tgt := 21) dX3_meet_8 rfl (by omega) (by omega) (fun c8 => ?_) (fun c8 => ?_)
    · exfalso; omega
    · refine k_iload_n C dX3_meet_11 rfl rfl ?_
      refine k_if_lt C (tgt := 21) dX3_meet_12 rfl (by omega) (fun c12 => ?_) (fun c12 => ?_)
      · exfalso; omega
      · refine k_iload_n C dX3_meet_15 rfl rfl ?_
        refine k_bipush C dX3_meet_16 (by decide) ?_
        refine k_icmp_lt C (tgt := 22) dX3_meet_18 rfl (by omega) (by omega) (fun c18 => ?_) (fun c18 => ?_)
        · refine k_iload_n C dX3_meet_22 rfl rfl ?_
          refine k_bipush C dX3_meet_23 (by decide) ?_
          refine k_imul C dX3_meet_25 ?_
          refine k_iload_n C dX3_meet_26 rfl rfl ?_
          refine k_iadd C dX3_meet_27 ?_
          rw [show p * 30 + s = 30 * p + s by omega]
          refine k_istore_n C dX3_meet_28 rfl (by decide) ?_
          refine k_aload_n C dX3_meet_29 rfl rfl ?_
          refine k_getR C (j := 3) okC3 rfl (by decide) (by decide) rfl flX3_15 dX3_meet_30 ?_
          refine k_iload_n C dX3_meet_33 rfl rfl ?_
          refine k_zaload C rfl (by decide) (by decide) ⟨by omega, by omega⟩ dX3_meet_34 (fun ld34 => ?_)
          refine k_if_ne C (tgt := 75) dX3_meet_35 rfl (by omega) (fun c35 => ?_) (fun c35 => ?_)
          · exact k_vret C dX3_meet_75 (fun _ => by
      first
      | (rcases me1 with z | z
         · exfalso; omega
         · exact ⟨PX.r hP, z.2⟩)
      | (exfalso; omega)
      | (have e8 : up (up (up N 41 (30 * p + s) 1) 40 (N 39 8) (30 * p + s)) 39 8 (N 39 8 + 1) 39 8 = N 39 8 + 1 := up_same
         have e40 : ∀ i, up (up (up N 41 (30 * p + s) 1) 40 (N 39 8) (30 * p + s)) 39 8 (N 39 8 + 1) 40 i = if i = N 39 8 then 30 * p + s else N 40 i := fun i => by rw [up_ne (by decide), up_at, up_ne (by decide)]
         have e41 : ∀ i, up (up (up N 41 (30 * p + s) 1) 40 (N 39 8) (30 * p + s)) 39 8 (N 39 8 + 1) 41 i = if i = 30 * p + s then 1 else N 41 i := fun i => by rw [up_ne (by decide), up_ne (by decide), up_at]
         have eo : ∀ j, j ≠ 39 → j ≠ 40 → j ≠ 41 → up (up (up N 41 (30 * p + s) 1) 40 (N 39 8) (30 * p + s)) 39 8 (N 39 8 + 1) j = N j := fun j a b c => by rw [up_ne a, up_ne b, up_ne c]
         have e39 : ∀ i, i ≠ 8 → up (up (up N 41 (30 * p + s) 1) 40 (N 39 8) (30 * p + s)) 39 8 (N 39 8 + 1) 39 i = N 39 i := fun i hi => by rw [up_at, if_neg hi, up_ne (by decide), up_ne (by decide)]
         generalize up (up (up N 41 (30 * p + s) 1) 40 (N 39 8) (30 * p + s)) 39 8 (N 39 8 + 1) = L at *
         refine ⟨⟨eo, e39, ?_, by omega, fun i a b => by rw [e40, if_neg (by omega)], fun i a b => by rw [e40, if_pos (by omega)]⟩, N 39 8, by have := hP.1; omega, by omega, by rw [e40, if_pos rfl]⟩
         unfold PIc
         rw [e8, eo 31 (by decide) (by decide) (by decide)]
         exact PIv_add hP (by omega) m0 e40 e41))
          · have m0 : N 41 (30 * p + s) = 0 := by omega
            have rm := PIv_room hP hn.1 (by omega) m0
            refine k_aload_n C dX3_meet_38 rfl rfl ?_
            refine k_getJ C 8 8 rfl okC3 rfl (by decide) (by decide) rfl flX3_51 dX3_meet_39 (fun ld39 => ?_)
            refine k_sipush C dX3_meet_42 (by decide) ?_
            refine k_icmp_ge C (tgt := 75) dX3_meet_45 rfl (by omega) (by omega) (fun c45 => ?_) (fun c45 => ?_)
            · exact k_vret C dX3_meet_75 (fun _ => by
      first
      | (rcases me1 with z | z
         · exfalso; omega
         · exact ⟨PX.r hP, z.2⟩)
      | (exfalso; omega)
      | (have e8 : up (up (up N 41 (30 * p + s) 1) 40 (N 39 8) (30 * p + s)) 39 8 (N 39 8 + 1) 39 8 = N 39 8 + 1 := up_same
         have e40 : ∀ i, up (up (up N 41 (30 * p + s) 1) 40 (N 39 8) (30 * p + s)) 39 8 (N 39 8 + 1) 40 i = if i = N 39 8 then 30 * p + s else N 40 i := fun i => by rw [up_ne (by decide), up_at, up_ne (by decide)]
         have e41 : ∀ i, up (up (up N 41 (30 * p + s) 1) 40 (N 39 8) (30 * p + s)) 39 8 (N 39 8 + 1) 41 i = if i = 30 * p + s then 1 else N 41 i := fun i => by rw [up_ne (by decide), up_ne (by decide), up_at]
         have eo : ∀ j, j ≠ 39 → j ≠ 40 → j ≠ 41 → up (up (up N 41 (30 * p + s) 1) 40 (N 39 8) (30 * p + s)) 39 8 (N 39 8 + 1) j = N j := fun j a b c => by rw [up_ne a, up_ne b, up_ne c]
         have e39 : ∀ i, i ≠ 8 → up (up (up N 41 (30 * p + s) 1) 40 (N 39 8) (30 * p + s)) 39 8 (N 39 8 + 1) 39 i = N 39 i := fun i hi => by rw [up_at, if_neg hi, up_ne (by decide), up_ne (by decide)]
         generalize up (up (up N 41 (30 * p + s) 1) 40 (N 39 8) (30 * p + s)) 39 8 (N 39 8 + 1) = L at *
         refine ⟨⟨eo, e39, ?_, by omega, fun i a b => by rw [e40, if_neg (by omega)], fun i a b => by rw [e40, if_pos (by omega)]⟩, N 39 8, by have := hP.1; omega, by omega, by rw [e40, if_pos rfl]⟩
         unfold PIc
         rw [e8, eo 31 (by decide) (by decide) (by decide)]
         exact PIv_add hP (by omega) m0 e40 e41))
            · refine k_aload_n C dX3_meet_48 rfl rfl ?_
              refine k_getR C (j := 3) okC3 rfl (by decide) (by decide) rfl flX3_15 dX3_meet_49 ?_
              refine k_iload_n C dX3_meet_52 rfl rfl ?_
              refine k_iconst C dX3_meet_53 ?_
              refine k_zastore C rfl (by decide) (by decide) ⟨by omega, by omega⟩ (by omega) dX3_meet_54 ?_
              refine k_aload_n C dX3_meet_55 rfl rfl ?_
              refine k_getR C (j := 2) okC3 rfl (by decide) (by decide) rfl flX3_9 dX3_meet_56 ?_
              refine k_aload_n C dX3_meet_59 rfl rfl ?_
              refine k_getJ C 8 8 rfl okC3 rfl (by decide) (by decide) rfl flX3_51 dX3_meet_60 (fun ld60 => ?_)
              rw [up_ne (show (39 : Nat) ≠ 41 by decide)]
              refine k_iload_n C dX3_meet_63 rfl rfl ?_
              refine k_iastore C rfl (by decide) (by decide) ⟨by omega, by omega⟩ (by omega) dX3_meet_64 ?_
              refine k_aload_n C dX3_meet_65 rfl rfl ?_
              refine k_dup C dX3_meet_66 ?_
              refine k_getJ C 8 8 rfl okC3 rfl (by decide) (by decide) rfl flX3_51 dX3_meet_67 (fun ld67 => ?_)
              rw [up_ne (show (39 : Nat) ≠ 40 by decide), up_ne (show (39 : Nat) ≠ 41 by decide)]
              refine k_iconst C dX3_meet_70 ?_
              refine k_iadd C dX3_meet_71 ?_
              refine k_putJ C 8 8 rfl okC3 rfl (by decide) (by decide) rfl rfl rfl (by omega) flX3_51 dX3_meet_72 ?_
              exact k_vret C dX3_meet_75 (fun _ => by
      first
      | (rcases me1 with z | z
         · exfalso; omega
         · exact ⟨PX.r hP, z.2⟩)
      | (exfalso; omega)
      | (have e8 : up (up (up N 41 (30 * p + s) 1) 40 (N 39 8) (30 * p + s)) 39 8 (N 39 8 + 1) 39 8 = N 39 8 + 1 := up_same
         have e40 : ∀ i, up (up (up N 41 (30 * p + s) 1) 40 (N 39 8) (30 * p + s)) 39 8 (N 39 8 + 1) 40 i = if i = N 39 8 then 30 * p + s else N 40 i := fun i => by rw [up_ne (by decide), up_at, up_ne (by decide)]
         have e41 : ∀ i, up (up (up N 41 (30 * p + s) 1) 40 (N 39 8) (30 * p + s)) 39 8 (N 39 8 + 1) 41 i = if i = 30 * p + s then 1 else N 41 i := fun i => by rw [up_ne (by decide), up_ne (by decide), up_at]
         have eo : ∀ j, j ≠ 39 → j ≠ 40 → j ≠ 41 → up (up (up N 41 (30 * p + s) 1) 40 (N 39 8) (30 * p + s)) 39 8 (N 39 8 + 1) j = N j := fun j a b c => by rw [up_ne a, up_ne b, up_ne c]
         have e39 : ∀ i, i ≠ 8 → up (up (up N 41 (30 * p + s) 1) 40 (N 39 8) (30 * p + s)) 39 8 (N 39 8 + 1) 39 i = N 39 i := fun i hi => by rw [up_at, if_neg hi, up_ne (by decide), up_ne (by decide)]
         generalize up (up (up N 41 (30 * p + s) 1) 40 (N 39 8) (30 * p + s)) 39 8 (N 39 8 + 1) = L at *
         refine ⟨⟨eo, e39, ?_, by omega, fun i a b => by rw [e40, if_neg (by omega)], fun i a b => by rw [e40, if_pos (by omega)]⟩, N 39 8, by have := hP.1; omega, by omega, by rw [e40, if_pos rfl]⟩
         unfold PIc
         rw [e8, eo 31 (by decide) (by decide) (by decide)]
         exact PIv_add hP (by omega) m0 e40 e41))
        · exfalso; omega
set_option maxHeartbeats 4000000 in
set_option maxRecDepth 100000 in
theorem l_enterB {K : Kt} (B : Mem) (hT : TxC B) (hP : PIc B) (p s : Int) (hp : 0 ≤ p ∧ p < B 31 7) (e4 : B 32 p = 40) (hs : 0 ≤ s ∧ s < 30) (C : Ctx shC nC RX3 cX3_enterBracket 6 none (lvl 1) (fun _ M' => PX B M' (fun x => ∃ q, EpC B p q ∧ x = 30 * q + s) ∧ ∀ q, EpC B p q → InC M' (30 * q + s)) K) (N : Mem) (hX : PX B N (fun x => ∃ q, EpC B p q ∧ x = 30 * q + s)) (k : Nat) (hk : ∀ j : Nat, j < k → chn (B 33) p j < B 34 p ∧ InC N (30 * (chn (B 33) p j + 1) + s)) (hin : inR (chn (B 33) p k)) : K 16 [(0, .inr 39), (1, .inl p), (2, .inl s), (3, .inl (B 34 p)), (4, .inl (chn (B 33) p k)), (5, .inl (k : Int))] [] N := by
  have t1 := hT.1
  obtain ⟨a1, a2, a3, a4⟩ := (hT.2.2 p hp.1 hp.2).1 e4
  have up1 := chn_up hT hp e4 k (fun j hj => (hk j hj).1)
  have k200 : (k : Int) ≤ 200 := by
    rcases Nat.eq_zero_or_pos k with z | z
    · omega
    · have u1 := chn_up hT hp e4 (k - 1) (fun j hj => (hk j (by omega)).1)
      have u2 := (hk (k - 1) (by omega)).1
      omega
  obtain ⟨n23, n24, n31, n32, n33, n34, n35, n36, n42⟩ := hX.e
  have h0 := hP.1
  refine k_iload C dX3_enterBracket_16 rfl ?_
  refine k_sipush C dX3_enterBracket_18 (by decide) ?_
  refine k_icmp_ge C (tgt := 70) dX3_enterBracket_21 rfl (by omega) (by omega) (fun c21 => ?_) (fun c21 => ?_)
  · refine k_iload_n C dX3_enterBracket_70 rfl rfl ?_
    refine k_if_lt C (tgt := 107) dX3_enterBracket_71 rfl (by omega) (fun c71 => ?_) (fun c71 => ?_)
    · exact k_vret C dX3_enterBracket_107 (fun _ => by
        have fin : ∀ N2, PX B N2 (fun x => ∃ q, EpC B p q ∧ x = 30 * q + s) → (∀ j : Nat, j < k → InC N2 (30 * (chn (B 33) p j + 1) + s)) → (B 36 (B 34 p) = 1 → InC N2 (30 * B 35 (B 34 p) + s)) → PX B N2 (fun x => ∃ q, EpC B p q ∧ x = 30 * q + s) ∧ ∀ q, EpC B p q → InC N2 (30 * q + s) := by
          intro N2 z1 z2 z3
          refine ⟨z1, fun q hq => ?_⟩
          obtain ⟨-, hq⟩ := hq
          rcases hq with ⟨e, e2⟩ | ⟨e, e2⟩ | ⟨e, e2⟩ | ⟨e, e2⟩
          · omega
          · rcases e2 with ⟨j, j1, j2⟩ | e2
            · rw [j2]
              refine z2 j ?_
              by_cases z : j < k
              · exact z
              · exfalso
                have := j1 k (by omega)
                omega
            · rw [e2.2]; exact z3 e2.1
          · omega
          · omega
        first
        | (exfalso; omega)
        | exact fin N hX (fun j hj => (hk j hj).2) (fun z => by omega)
        | exact fin M104 (hX.t h0 (hp104.1.w (fun x hx => ⟨B 35 (B 34 p), ⟨hp, Or.inr (Or.inl ⟨e4, Or.inr ⟨by omega, rfl⟩⟩)⟩, hx⟩))) (fun j hj => hp104.1.i (hk j hj).2) (fun _ => hp104.2))
    · refine k_iload_n C dX3_enterBracket_74 rfl rfl ?_
      refine k_sipush C dX3_enterBracket_75 (by decide) ?_
      refine k_icmp_ge C (tgt := 107) dX3_enterBracket_78 rfl (by omega) (by omega) (fun c78 => ?_) (fun c78 => ?_)
      · exact k_vret C dX3_enterBracket_107 (fun _ => by
        have fin : ∀ N2, PX B N2 (fun x => ∃ q, EpC B p q ∧ x = 30 * q + s) → (∀ j : Nat, j < k → InC N2 (30 * (chn (B 33) p j + 1) + s)) → (B 36 (B 34 p) = 1 → InC N2 (30 * B 35 (B 34 p) + s)) → PX B N2 (fun x => ∃ q, EpC B p q ∧ x = 30 * q + s) ∧ ∀ q, EpC B p q → InC N2 (30 * q + s) := by
          intro N2 z1 z2 z3
          refine ⟨z1, fun q hq => ?_⟩
          obtain ⟨-, hq⟩ := hq
          rcases hq with ⟨e, e2⟩ | ⟨e, e2⟩ | ⟨e, e2⟩ | ⟨e, e2⟩
          · omega
          · rcases e2 with ⟨j, j1, j2⟩ | e2
            · rw [j2]
              refine z2 j ?_
              by_cases z : j < k
              · exact z
              · exfalso
                have := j1 k (by omega)
                omega
            · rw [e2.2]; exact z3 e2.1
          · omega
          · omega
        first
        | (exfalso; omega)
        | exact fin N hX (fun j hj => (hk j hj).2) (fun z => by omega)
        | exact fin M104 (hX.t h0 (hp104.1.w (fun x hx => ⟨B 35 (B 34 p), ⟨hp, Or.inr (Or.inl ⟨e4, Or.inr ⟨by omega, rfl⟩⟩)⟩, hx⟩))) (fun j hj => hp104.1.i (hk j hj).2) (fun _ => hp104.2))
      · refine k_aload_n C dX3_enterBracket_81 rfl rfl ?_
        refine k_getR C (j := 0) okC3 rfl (by decide) (by decide) rfl flX3_37 dX3_enterBracket_82 ?_
        refine k_getR C (j := 4) okC8 rfl (by decide) (by decide) rfl flX3_96 dX3_enterBracket_85 ?_
        refine k_iload_n C dX3_enterBracket_88 rfl rfl ?_
        refine k_zaload C rfl (by decide) (by decide) ⟨by omega, by omega⟩ dX3_enterBracket_89 (fun ld89 => ?_)
        rw [n36] at ld89 ⊢
        refine k_if_eq C (tgt := 107) dX3_enterBracket_90 rfl (by omega) (fun c90 => ?_) (fun c90 => ?_)
        · exact k_vret C dX3_enterBracket_107 (fun _ => by
        have fin : ∀ N2, PX B N2 (fun x => ∃ q, EpC B p q ∧ x = 30 * q + s) → (∀ j : Nat, j < k → InC N2 (30 * (chn (B 33) p j + 1) + s)) → (B 36 (B 34 p) = 1 → InC N2 (30 * B 35 (B 34 p) + s)) → PX B N2 (fun x => ∃ q, EpC B p q ∧ x = 30 * q + s) ∧ ∀ q, EpC B p q → InC N2 (30 * q + s) := by
          intro N2 z1 z2 z3
          refine ⟨z1, fun q hq => ?_⟩
          obtain ⟨-, hq⟩ := hq
          rcases hq with ⟨e, e2⟩ | ⟨e, e2⟩ | ⟨e, e2⟩ | ⟨e, e2⟩
          · omega
          · rcases e2 with ⟨j, j1, j2⟩ | e2
            · rw [j2]
              refine z2 j ?_
              by_cases z : j < k
              · exact z
              · exfalso
                have := j1 k (by omega)
                omega
            · rw [e2.2]; exact z3 e2.1
          · omega
          · omega
        first
        | (exfalso; omega)
        | exact fin N hX (fun j hj => (hk j hj).2) (fun z => by omega)
        | exact fin M104 (hX.t h0 (hp104.1.w (fun x hx => ⟨B 35 (B 34 p), ⟨hp, Or.inr (Or.inl ⟨e4, Or.inr ⟨by omega, rfl⟩⟩)⟩, hx⟩))) (fun j hj => hp104.1.i (hk j hj).2) (fun _ => hp104.2))
        · refine k_aload_n C dX3_enterBracket_93 rfl rfl ?_
          refine k_aload_n C dX3_enterBracket_94 rfl rfl ?_
          refine k_getR C (j := 0) okC3 rfl (by decide) (by decide) rfl flX3_37 dX3_enterBracket_95 ?_
          refine k_getR C (j := 3) okC8 rfl (by decide) (by decide) rfl flX3_93 dX3_enterBracket_98 ?_
          refine k_iload_n C dX3_enterBracket_101 rfl rfl ?_
          refine k_iaload C rfl (by decide) (by decide) ⟨by omega, by omega⟩ dX3_enterBracket_102 (fun ld102 => ?_)
          rw [n35] at ld102 ⊢
          refine k_iload_n C dX3_enterBracket_103 rfl rfl ?_
          refine k_callV C okX3_58 dX3_enterBracket_104 (c_meet N (by rw [n31]; exact t1) hX.2.2.1 (B 35 (B 34 p)) s (by rw [n31]; omega) hs) rfl rfl (by decide) rfl (by decide) rfl (Nat.le_of_ble_eq_true rfl) (fun r104 M104 hr104 hp104 => ?_)
          exact k_vret C dX3_enterBracket_107 (fun _ => by
        have fin : ∀ N2, PX B N2 (fun x => ∃ q, EpC B p q ∧ x = 30 * q + s) → (∀ j : Nat, j < k → InC N2 (30 * (chn (B 33) p j + 1) + s)) → (B 36 (B 34 p) = 1 → InC N2 (30 * B 35 (B 34 p) + s)) → PX B N2 (fun x => ∃ q, EpC B p q ∧ x = 30 * q + s) ∧ ∀ q, EpC B p q → InC N2 (30 * q + s) := by
          intro N2 z1 z2 z3
          refine ⟨z1, fun q hq => ?_⟩
          obtain ⟨-, hq⟩ := hq
          rcases hq with ⟨e, e2⟩ | ⟨e, e2⟩ | ⟨e, e2⟩ | ⟨e, e2⟩
          · omega
          · rcases e2 with ⟨j, j1, j2⟩ | e2
            · rw [j2]
              refine z2 j ?_
              by_cases z : j < k
              · exact z
              · exfalso
                have := j1 k (by omega)
                omega
            · rw [e2.2]; exact z3 e2.1
          · omega
          · omega
        first
        | (exfalso; omega)
        | exact fin N hX (fun j hj => (hk j hj).2) (fun z => by omega)
        | exact fin M104 (hX.t h0 (hp104.1.w (fun x hx => ⟨B 35 (B 34 p), ⟨hp, Or.inr (Or.inl ⟨e4, Or.inr ⟨by omega, rfl⟩⟩)⟩, hx⟩))) (fun j hj => hp104.1.i (hk j hj).2) (fun _ => hp104.2))
  · refine k_iload C dX3_enterBracket_24 rfl ?_
    refine k_if_lt C (tgt := 70) dX3_enterBracket_26 rfl (by omega) (fun c26 => ?_) (fun c26 => ?_)
    · refine k_iload_n C dX3_enterBracket_70 rfl rfl ?_
      refine k_if_lt C (tgt := 107) dX3_enterBracket_71 rfl (by omega) (fun c71 => ?_) (fun c71 => ?_)
      · exact k_vret C dX3_enterBracket_107 (fun _ => by
        have fin : ∀ N2, PX B N2 (fun x => ∃ q, EpC B p q ∧ x = 30 * q + s) → (∀ j : Nat, j < k → InC N2 (30 * (chn (B 33) p j + 1) + s)) → (B 36 (B 34 p) = 1 → InC N2 (30 * B 35 (B 34 p) + s)) → PX B N2 (fun x => ∃ q, EpC B p q ∧ x = 30 * q + s) ∧ ∀ q, EpC B p q → InC N2 (30 * q + s) := by
          intro N2 z1 z2 z3
          refine ⟨z1, fun q hq => ?_⟩
          obtain ⟨-, hq⟩ := hq
          rcases hq with ⟨e, e2⟩ | ⟨e, e2⟩ | ⟨e, e2⟩ | ⟨e, e2⟩
          · omega
          · rcases e2 with ⟨j, j1, j2⟩ | e2
            · rw [j2]
              refine z2 j ?_
              by_cases z : j < k
              · exact z
              · exfalso
                have := j1 k (by omega)
                omega
            · rw [e2.2]; exact z3 e2.1
          · omega
          · omega
        first
        | (exfalso; omega)
        | exact fin N hX (fun j hj => (hk j hj).2) (fun z => by omega)
        | exact fin M104 (hX.t h0 (hp104.1.w (fun x hx => ⟨B 35 (B 34 p), ⟨hp, Or.inr (Or.inl ⟨e4, Or.inr ⟨by omega, rfl⟩⟩)⟩, hx⟩))) (fun j hj => hp104.1.i (hk j hj).2) (fun _ => hp104.2))
      · refine k_iload_n C dX3_enterBracket_74 rfl rfl ?_
        refine k_sipush C dX3_enterBracket_75 (by decide) ?_
        refine k_icmp_ge C (tgt := 107) dX3_enterBracket_78 rfl (by omega) (by omega) (fun c78 => ?_) (fun c78 => ?_)
        · exact k_vret C dX3_enterBracket_107 (fun _ => by
        have fin : ∀ N2, PX B N2 (fun x => ∃ q, EpC B p q ∧ x = 30 * q + s) → (∀ j : Nat, j < k → InC N2 (30 * (chn (B 33) p j + 1) + s)) → (B 36 (B 34 p) = 1 → InC N2 (30 * B 35 (B 34 p) + s)) → PX B N2 (fun x => ∃ q, EpC B p q ∧ x = 30 * q + s) ∧ ∀ q, EpC B p q → InC N2 (30 * q + s) := by
          intro N2 z1 z2 z3
          refine ⟨z1, fun q hq => ?_⟩
          obtain ⟨-, hq⟩ := hq
          rcases hq with ⟨e, e2⟩ | ⟨e, e2⟩ | ⟨e, e2⟩ | ⟨e, e2⟩
          · omega
          · rcases e2 with ⟨j, j1, j2⟩ | e2
            · rw [j2]
              refine z2 j ?_
              by_cases z : j < k
              · exact z
              · exfalso
                have := j1 k (by omega)
                omega
            · rw [e2.2]; exact z3 e2.1
          · omega
          · omega
        first
        | (exfalso; omega)
        | exact fin N hX (fun j hj => (hk j hj).2) (fun z => by omega)
        | exact fin M104 (hX.t h0 (hp104.1.w (fun x hx => ⟨B 35 (B 34 p), ⟨hp, Or.inr (Or.inl ⟨e4, Or.inr ⟨by omega, rfl⟩⟩)⟩, hx⟩))) (fun j hj => hp104.1.i (hk j hj).2) (fun _ => hp104.2))
        · refine k_aload_n C dX3_enterBracket_81 rfl rfl ?_
          refine k_getR C (j := 0) okC3 rfl (by decide) (by decide) rfl flX3_37 dX3_enterBracket_82 ?_
          refine k_getR C (j := 4) okC8 rfl (by decide) (by decide) rfl flX3_96 dX3_enterBracket_85 ?_
          refine k_iload_n C dX3_enterBracket_88 rfl rfl ?_
          refine k_zaload C rfl (by decide) (by decide) ⟨by omega, by omega⟩ dX3_enterBracket_89 (fun ld89 => ?_)
          rw [n36] at ld89 ⊢
          refine k_if_eq C (tgt := 107) dX3_enterBracket_90 rfl (by omega) (fun c90 => ?_) (fun c90 => ?_)
          · exact k_vret C dX3_enterBracket_107 (fun _ => by
        have fin : ∀ N2, PX B N2 (fun x => ∃ q, EpC B p q ∧ x = 30 * q + s) → (∀ j : Nat, j < k → InC N2 (30 * (chn (B 33) p j + 1) + s)) → (B 36 (B 34 p) = 1 → InC N2 (30 * B 35 (B 34 p) + s)) → PX B N2 (fun x => ∃ q, EpC B p q ∧ x = 30 * q + s) ∧ ∀ q, EpC B p q → InC N2 (30 * q + s) := by
          intro N2 z1 z2 z3
          refine ⟨z1, fun q hq => ?_⟩
          obtain ⟨-, hq⟩ := hq
          rcases hq with ⟨e, e2⟩ | ⟨e, e2⟩ | ⟨e, e2⟩ | ⟨e, e2⟩
          · omega
          · rcases e2 with ⟨j, j1, j2⟩ | e2
            · rw [j2]
              refine z2 j ?_
              by_cases z : j < k
              · exact z
              · exfalso
                have := j1 k (by omega)
                omega
            · rw [e2.2]; exact z3 e2.1
          · omega
          · omega
        first
        | (exfalso; omega)
        | exact fin N hX (fun j hj => (hk j hj).2) (fun z => by omega)
        | exact fin M104 (hX.t h0 (hp104.1.w (fun x hx => ⟨B 35 (B 34 p), ⟨hp, Or.inr (Or.inl ⟨e4, Or.inr ⟨by omega, rfl⟩⟩)⟩, hx⟩))) (fun j hj => hp104.1.i (hk j hj).2) (fun _ => hp104.2))
          · refine k_aload_n C dX3_enterBracket_93 rfl rfl ?_
            refine k_aload_n C dX3_enterBracket_94 rfl rfl ?_
            refine k_getR C (j := 0) okC3 rfl (by decide) (by decide) rfl flX3_37 dX3_enterBracket_95 ?_
            refine k_getR C (j := 3) okC8 rfl (by decide) (by decide) rfl flX3_93 dX3_enterBracket_98 ?_
            refine k_iload_n C dX3_enterBracket_101 rfl rfl ?_
            refine k_iaload C rfl (by decide) (by decide) ⟨by omega, by omega⟩ dX3_enterBracket_102 (fun ld102 => ?_)
            rw [n35] at ld102 ⊢
            refine k_iload_n C dX3_enterBracket_103 rfl rfl ?_
            refine k_callV C okX3_58 dX3_enterBracket_104 (c_meet N (by rw [n31]; exact t1) hX.2.2.1 (B 35 (B 34 p)) s (by rw [n31]; omega) hs) rfl rfl (by decide) rfl (by decide) rfl (Nat.le_of_ble_eq_true rfl) (fun r104 M104 hr104 hp104 => ?_)
            exact k_vret C dX3_enterBracket_107 (fun _ => by
        have fin : ∀ N2, PX B N2 (fun x => ∃ q, EpC B p q ∧ x = 30 * q + s) → (∀ j : Nat, j < k → InC N2 (30 * (chn (B 33) p j + 1) + s)) → (B 36 (B 34 p) = 1 → InC N2 (30 * B 35 (B 34 p) + s)) → PX B N2 (fun x => ∃ q, EpC B p q ∧ x = 30 * q + s) ∧ ∀ q, EpC B p q → InC N2 (30 * q + s) := by
          intro N2 z1 z2 z3
          refine ⟨z1, fun q hq => ?_⟩
          obtain ⟨-, hq⟩ := hq
          rcases hq with ⟨e, e2⟩ | ⟨e, e2⟩ | ⟨e, e2⟩ | ⟨e, e2⟩
          · omega
          · rcases e2 with ⟨j, j1, j2⟩ | e2
            · rw [j2]
              refine z2 j ?_
              by_cases z : j < k
              · exact z
              · exfalso
                have := j1 k (by omega)
                omega
            · rw [e2.2]; exact z3 e2.1
          · omega
          · omega
        first
        | (exfalso; omega)
        | exact fin N hX (fun j hj => (hk j hj).2) (fun z => by omega)
        | exact fin M104 (hX.t h0 (hp104.1.w (fun x hx => ⟨B 35 (B 34 p), ⟨hp, Or.inr (Or.inl ⟨e4, Or.inr ⟨by omega, rfl⟩⟩)⟩, hx⟩))) (fun j hj => hp104.1.i (hk j hj).2) (fun _ => hp104.2))
    · refine k_iload C dX3_enterBracket_29 rfl ?_
      refine k_iload_n C dX3_enterBracket_31 rfl rfl ?_
      refine k_icmp_ge C (tgt := 70) dX3_enterBracket_32 rfl (by omega) (by omega) (fun c32 => ?_) (fun c32 => ?_)
      · refine k_iload_n C dX3_enterBracket_70 rfl rfl ?_
        refine k_if_lt C (tgt := 107) dX3_enterBracket_71 rfl (by omega) (fun c71 => ?_) (fun c71 => ?_)
        · exact k_vret C dX3_enterBracket_107 (fun _ => by
        have fin : ∀ N2, PX B N2 (fun x => ∃ q, EpC B p q ∧ x = 30 * q + s) → (∀ j : Nat, j < k → InC N2 (30 * (chn (B 33) p j + 1) + s)) → (B 36 (B 34 p) = 1 → InC N2 (30 * B 35 (B 34 p) + s)) → PX B N2 (fun x => ∃ q, EpC B p q ∧ x = 30 * q + s) ∧ ∀ q, EpC B p q → InC N2 (30 * q + s) := by
          intro N2 z1 z2 z3
          refine ⟨z1, fun q hq => ?_⟩
          obtain ⟨-, hq⟩ := hq
          rcases hq with ⟨e, e2⟩ | ⟨e, e2⟩ | ⟨e, e2⟩ | ⟨e, e2⟩
          · omega
          · rcases e2 with ⟨j, j1, j2⟩ | e2
            · rw [j2]
              refine z2 j ?_
              by_cases z : j < k
              · exact z
              · exfalso
                have := j1 k (by omega)
                omega
            · rw [e2.2]; exact z3 e2.1
          · omega
          · omega
        first
        | (exfalso; omega)
        | exact fin N hX (fun j hj => (hk j hj).2) (fun z => by omega)
        | exact fin M104 (hX.t h0 (hp104.1.w (fun x hx => ⟨B 35 (B 34 p), ⟨hp, Or.inr (Or.inl ⟨e4, Or.inr ⟨by omega, rfl⟩⟩)⟩, hx⟩))) (fun j hj => hp104.1.i (hk j hj).2) (fun _ => hp104.2))
        · refine k_iload_n C dX3_enterBracket_74 rfl rfl ?_
          refine k_sipush C dX3_enterBracket_75 (by decide) ?_
          refine k_icmp_ge C (tgt := 107) dX3_enterBracket_78 rfl (by omega) (by omega) (fun c78 => ?_) (fun c78 => ?_)
          · exact k_vret C dX3_enterBracket_107 (fun _ => by
        have fin : ∀ N2, PX B N2 (fun x => ∃ q, EpC B p q ∧ x = 30 * q + s) → (∀ j : Nat, j < k → InC N2 (30 * (chn (B 33) p j + 1) + s)) → (B 36 (B 34 p) = 1 → InC N2 (30 * B 35 (B 34 p) + s)) → PX B N2 (fun x => ∃ q, EpC B p q ∧ x = 30 * q + s) ∧ ∀ q, EpC B p q → InC N2 (30 * q + s) := by
          intro N2 z1 z2 z3
          refine ⟨z1, fun q hq => ?_⟩
          obtain ⟨-, hq⟩ := hq
          rcases hq with ⟨e, e2⟩ | ⟨e, e2⟩ | ⟨e, e2⟩ | ⟨e, e2⟩
          · omega
          · rcases e2 with ⟨j, j1, j2⟩ | e2
            · rw [j2]
              refine z2 j ?_
              by_cases z : j < k
              · exact z
              · exfalso
                have := j1 k (by omega)
                omega
            · rw [e2.2]; exact z3 e2.1
          · omega
          · omega
        first
        | (exfalso; omega)
        | exact fin N hX (fun j hj => (hk j hj).2) (fun z => by omega)
        | exact fin M104 (hX.t h0 (hp104.1.w (fun x hx => ⟨B 35 (B 34 p), ⟨hp, Or.inr (Or.inl ⟨e4, Or.inr ⟨by omega, rfl⟩⟩)⟩, hx⟩))) (fun j hj => hp104.1.i (hk j hj).2) (fun _ => hp104.2))
          · refine k_aload_n C dX3_enterBracket_81 rfl rfl ?_
            refine k_getR C (j := 0) okC3 rfl (by decide) (by decide) rfl flX3_37 dX3_enterBracket_82 ?_
            refine k_getR C (j := 4) okC8 rfl (by decide) (by decide) rfl flX3_96 dX3_enterBracket_85 ?_
            refine k_iload_n C dX3_enterBracket_88 rfl rfl ?_
            refine k_zaload C rfl (by decide) (by decide) ⟨by omega, by omega⟩ dX3_enterBracket_89 (fun ld89 => ?_)
            rw [n36] at ld89 ⊢
            refine k_if_eq C (tgt := 107) dX3_enterBracket_90 rfl (by omega) (fun c90 => ?_) (fun c90 => ?_)
            · exact k_vret C dX3_enterBracket_107 (fun _ => by
        have fin : ∀ N2, PX B N2 (fun x => ∃ q, EpC B p q ∧ x = 30 * q + s) → (∀ j : Nat, j < k → InC N2 (30 * (chn (B 33) p j + 1) + s)) → (B 36 (B 34 p) = 1 → InC N2 (30 * B 35 (B 34 p) + s)) → PX B N2 (fun x => ∃ q, EpC B p q ∧ x = 30 * q + s) ∧ ∀ q, EpC B p q → InC N2 (30 * q + s) := by
          intro N2 z1 z2 z3
          refine ⟨z1, fun q hq => ?_⟩
          obtain ⟨-, hq⟩ := hq
          rcases hq with ⟨e, e2⟩ | ⟨e, e2⟩ | ⟨e, e2⟩ | ⟨e, e2⟩
          · omega
          · rcases e2 with ⟨j, j1, j2⟩ | e2
            · rw [j2]
              refine z2 j ?_
              by_cases z : j < k
              · exact z
              · exfalso
                have := j1 k (by omega)
                omega
            · rw [e2.2]; exact z3 e2.1
          · omega
          · omega
        first
        | (exfalso; omega)
        | exact fin N hX (fun j hj => (hk j hj).2) (fun z => by omega)
        | exact fin M104 (hX.t h0 (hp104.1.w (fun x hx => ⟨B 35 (B 34 p), ⟨hp, Or.inr (Or.inl ⟨e4, Or.inr ⟨by omega, rfl⟩⟩)⟩, hx⟩))) (fun j hj => hp104.1.i (hk j hj).2) (fun _ => hp104.2))
            · refine k_aload_n C dX3_enterBracket_93 rfl rfl ?_
              refine k_aload_n C dX3_enterBracket_94 rfl rfl ?_
              refine k_getR C (j := 0) okC3 rfl (by decide) (by decide) rfl flX3_37 dX3_enterBracket_95 ?_
              refine k_getR C (j := 3) okC8 rfl (by decide) (by decide) rfl flX3_93 dX3_enterBracket_98 ?_
              refine k_iload_n C dX3_enterBracket_101 rfl rfl ?_
              refine k_iaload C rfl (by decide) (by decide) ⟨by omega, by omega⟩ dX3_enterBracket_102 (fun ld102 => ?_)
              rw [n35] at ld102 ⊢
              refine k_iload_n C dX3_enterBracket_103 rfl rfl ?_
              refine k_callV C okX3_58 dX3_enterBracket_104 (c_meet N (by rw [n31]; exact t1) hX.2.2.1 (B 35 (B 34 p)) s (by rw [n31]; omega) hs) rfl rfl (by decide) rfl (by decide) rfl (Nat.le_of_ble_eq_true rfl) (fun r104 M104 hr104 hp104 => ?_)
              exact k_vret C dX3_enterBracket_107 (fun _ => by
        have fin : ∀ N2, PX B N2 (fun x => ∃ q, EpC B p q ∧ x = 30 * q + s) → (∀ j : Nat, j < k → InC N2 (30 * (chn (B 33) p j + 1) + s)) → (B 36 (B 34 p) = 1 → InC N2 (30 * B 35 (B 34 p) + s)) → PX B N2 (fun x => ∃ q, EpC B p q ∧ x = 30 * q + s) ∧ ∀ q, EpC B p q → InC N2 (30 * q + s) := by
          intro N2 z1 z2 z3
          refine ⟨z1, fun q hq => ?_⟩
          obtain ⟨-, hq⟩ := hq
          rcases hq with ⟨e, e2⟩ | ⟨e, e2⟩ | ⟨e, e2⟩ | ⟨e, e2⟩
          · omega
          · rcases e2 with ⟨j, j1, j2⟩ | e2
            · rw [j2]
              refine z2 j ?_
              by_cases z : j < k
              · exact z
              · exfalso
                have := j1 k (by omega)
                omega
            · rw [e2.2]; exact z3 e2.1
          · omega
          · omega
        first
        | (exfalso; omega)
        | exact fin N hX (fun j hj => (hk j hj).2) (fun z => by omega)
        | exact fin M104 (hX.t h0 (hp104.1.w (fun x hx => ⟨B 35 (B 34 p), ⟨hp, Or.inr (Or.inl ⟨e4, Or.inr ⟨by omega, rfl⟩⟩)⟩, hx⟩))) (fun j hj => hp104.1.i (hk j hj).2) (fun _ => hp104.2))
      · refine k_iload C dX3_enterBracket_35 rfl ?_
        refine k_sipush C dX3_enterBracket_37 (by decide) ?_
        refine k_icmp_ge C (tgt := 70) dX3_enterBracket_40 rfl (by omega) (by omega) (fun c40 => ?_) (fun c40 => ?_)
        · refine k_iload_n C dX3_enterBracket_70 rfl rfl ?_
          refine k_if_lt C (tgt := 107) dX3_enterBracket_71 rfl (by omega) (fun c71 => ?_) (fun c71 => ?_)
          · exact k_vret C dX3_enterBracket_107 (fun _ => by
        have fin : ∀ N2, PX B N2 (fun x => ∃ q, EpC B p q ∧ x = 30 * q + s) → (∀ j : Nat, j < k → InC N2 (30 * (chn (B 33) p j + 1) + s)) → (B 36 (B 34 p) = 1 → InC N2 (30 * B 35 (B 34 p) + s)) → PX B N2 (fun x => ∃ q, EpC B p q ∧ x = 30 * q + s) ∧ ∀ q, EpC B p q → InC N2 (30 * q + s) := by
          intro N2 z1 z2 z3
          refine ⟨z1, fun q hq => ?_⟩
          obtain ⟨-, hq⟩ := hq
          rcases hq with ⟨e, e2⟩ | ⟨e, e2⟩ | ⟨e, e2⟩ | ⟨e, e2⟩
          · omega
          · rcases e2 with ⟨j, j1, j2⟩ | e2
            · rw [j2]
              refine z2 j ?_
              by_cases z : j < k
              · exact z
              · exfalso
                have := j1 k (by omega)
                omega
            · rw [e2.2]; exact z3 e2.1
          · omega
          · omega
        first
        | (exfalso; omega)
        | exact fin N hX (fun j hj => (hk j hj).2) (fun z => by omega)
        | exact fin M104 (hX.t h0 (hp104.1.w (fun x hx => ⟨B 35 (B 34 p), ⟨hp, Or.inr (Or.inl ⟨e4, Or.inr ⟨by omega, rfl⟩⟩)⟩, hx⟩))) (fun j hj => hp104.1.i (hk j hj).2) (fun _ => hp104.2))
          · refine k_iload_n C dX3_enterBracket_74 rfl rfl ?_
            refine k_sipush C dX3_enterBracket_75 (by decide) ?_
            refine k_icmp_ge C (tgt := 107) dX3_enterBracket_78 rfl (by omega) (by omega) (fun c78 => ?_) (fun c78 => ?_)
            · exact k_vret C dX3_enterBracket_107 (fun _ => by
        have fin : ∀ N2, PX B N2 (fun x => ∃ q, EpC B p q ∧ x = 30 * q + s) → (∀ j : Nat, j < k → InC N2 (30 * (chn (B 33) p j + 1) + s)) → (B 36 (B 34 p) = 1 → InC N2 (30 * B 35 (B 34 p) + s)) → PX B N2 (fun x => ∃ q, EpC B p q ∧ x = 30 * q + s) ∧ ∀ q, EpC B p q → InC N2 (30 * q + s) := by
          intro N2 z1 z2 z3
          refine ⟨z1, fun q hq => ?_⟩
          obtain ⟨-, hq⟩ := hq
          rcases hq with ⟨e, e2⟩ | ⟨e, e2⟩ | ⟨e, e2⟩ | ⟨e, e2⟩
          · omega
          · rcases e2 with ⟨j, j1, j2⟩ | e2
            · rw [j2]
              refine z2 j ?_
              by_cases z : j < k
              · exact z
              · exfalso
                have := j1 k (by omega)
                omega
            · rw [e2.2]; exact z3 e2.1
          · omega
          · omega
        first
        | (exfalso; omega)
        | exact fin N hX (fun j hj => (hk j hj).2) (fun z => by omega)
        | exact fin M104 (hX.t h0 (hp104.1.w (fun x hx => ⟨B 35 (B 34 p), ⟨hp, Or.inr (Or.inl ⟨e4, Or.inr ⟨by omega, rfl⟩⟩)⟩, hx⟩))) (fun j hj => hp104.1.i (hk j hj).2) (fun _ => hp104.2))
            · refine k_aload_n C dX3_enterBracket_81 rfl rfl ?_
              refine k_getR C (j := 0) okC3 rfl (by decide) (by decide) rfl flX3_37 dX3_enterBracket_82 ?_
              refine k_getR C (j := 4) okC8 rfl (by decide) (by decide) rfl flX3_96 dX3_enterBracket_85 ?_
              refine k_iload_n C dX3_enterBracket_88 rfl rfl ?_
              refine k_zaload C rfl (by decide) (by decide) ⟨by omega, by omega⟩ dX3_enterBracket_89 (fun ld89 => ?_)
              rw [n36] at ld89 ⊢
              refine k_if_eq C (tgt := 107) dX3_enterBracket_90 rfl (by omega) (fun c90 => ?_) (fun c90 => ?_)
              · exact k_vret C dX3_enterBracket_107 (fun _ => by
        have fin : ∀ N2, PX B N2 (fun x => ∃ q, EpC B p q ∧ x = 30 * q + s) → (∀ j : Nat, j < k → InC N2 (30 * (chn (B 33) p j + 1) + s)) → (B 36 (B 34 p) = 1 → InC N2 (30 * B 35 (B 34 p) + s)) → PX B N2 (fun x => ∃ q, EpC B p q ∧ x = 30 * q + s) ∧ ∀ q, EpC B p q → InC N2 (30 * q + s) := by
          intro N2 z1 z2 z3
          refine ⟨z1, fun q hq => ?_⟩
          obtain ⟨-, hq⟩ := hq
          rcases hq with ⟨e, e2⟩ | ⟨e, e2⟩ | ⟨e, e2⟩ | ⟨e, e2⟩
          · omega
          · rcases e2 with ⟨j, j1, j2⟩ | e2
            · rw [j2]
              refine z2 j ?_
              by_cases z : j < k
              · exact z
              · exfalso
                have := j1 k (by omega)
                omega
            · rw [e2.2]; exact z3 e2.1
          · omega
          · omega
        first
        | (exfalso; omega)
        | exact fin N hX (fun j hj => (hk j hj).2) (fun z => by omega)
        | exact fin M104 (hX.t h0 (hp104.1.w (fun x hx => ⟨B 35 (B 34 p), ⟨hp, Or.inr (Or.inl ⟨e4, Or.inr ⟨by omega, rfl⟩⟩)⟩, hx⟩))) (fun j hj => hp104.1.i (hk j hj).2) (fun _ => hp104.2))
              · refine k_aload_n C dX3_enterBracket_93 rfl rfl ?_
                refine k_aload_n C dX3_enterBracket_94 rfl rfl ?_
                refine k_getR C (j := 0) okC3 rfl (by decide) (by decide) rfl flX3_37 dX3_enterBracket_95 ?_
                refine k_getR C (j := 3) okC8 rfl (by decide) (by decide) rfl flX3_93 dX3_enterBracket_98 ?_
                refine k_iload_n C dX3_enterBracket_101 rfl rfl ?_
                refine k_iaload C rfl (by decide) (by decide) ⟨by omega, by omega⟩ dX3_enterBracket_102 (fun ld102 => ?_)
                rw [n35] at ld102 ⊢
                refine k_iload_n C dX3_enterBracket_103 rfl rfl ?_
                refine k_callV C okX3_58 dX3_enterBracket_104 (c_meet N (by rw [n31]; exact t1) hX.2.2.1 (B 35 (B 34 p)) s (by rw [n31]; omega) hs) rfl rfl (by decide) rfl (by decide) rfl (Nat.le_of_ble_eq_true rfl) (fun r104 M104 hr104 hp104 => ?_)
                exact k_vret C dX3_enterBracket_107 (fun _ => by
        have fin : ∀ N2, PX B N2 (fun x => ∃ q, EpC B p q ∧ x = 30 * q + s) → (∀ j : Nat, j < k → InC N2 (30 * (chn (B 33) p j + 1) + s)) → (B 36 (B 34 p) = 1 → InC N2 (30 * B 35 (B 34 p) + s)) → PX B N2 (fun x => ∃ q, EpC B p q ∧ x = 30 * q + s) ∧ ∀ q, EpC B p q → InC N2 (30 * q + s) := by
          intro N2 z1 z2 z3
          refine ⟨z1, fun q hq => ?_⟩
          obtain ⟨-, hq⟩ := hq
          rcases hq with ⟨e, e2⟩ | ⟨e, e2⟩ | ⟨e, e2⟩ | ⟨e, e2⟩
          · omega
          · rcases e2 with ⟨j, j1, j2⟩ | e2
            · rw [j2]
              refine z2 j ?_
              by_cases z : j < k
              · exact z
              · exfalso
                have := j1 k (by omega)
                omega
            · rw [e2.2]; exact z3 e2.1
          · omega
          · omega
        first
        | (exfalso; omega)
        | exact fin N hX (fun j hj => (hk j hj).2) (fun z => by omega)
        | exact fin M104 (hX.t h0 (hp104.1.w (fun x hx => ⟨B 35 (B 34 p), ⟨hp, Or.inr (Or.inl ⟨e4, Or.inr ⟨by omega, rfl⟩⟩)⟩, hx⟩))) (fun j hj => hp104.1.i (hk j hj).2) (fun _ => hp104.2))
        · have stp := a4 k (fun j hj => by by_cases z : j = k; (rw [z]; exact c32); exact (hk j (by omega)).1)
          have isE : EpC B p (chn (B 33) p k + 1) := ⟨hp, Or.inr (Or.inl ⟨e4, Or.inl ⟨k, fun j hj => by by_cases z : j = k; (rw [z]; exact c32); exact (hk j (by omega)).1, rfl⟩⟩)⟩
          refine k_aload_n C dX3_enterBracket_43 rfl rfl ?_
          refine k_iload C dX3_enterBracket_44 rfl ?_
          refine k_iconst C dX3_enterBracket_46 ?_
          refine k_iadd C dX3_enterBracket_47 ?_
          refine k_iload_n C dX3_enterBracket_48 rfl rfl ?_
          refine k_callV C okX3_58 dX3_enterBracket_49 (c_meet N (by rw [n31]; exact t1) hX.2.2.1 (chn (B 33) p k + 1) s (by rw [n31]; omega) hs) rfl rfl (by decide) rfl (by decide) rfl (Nat.le_of_ble_eq_true rfl) (fun r49 M49 hr49 hp49 => ?_)
          refine k_aload_n C dX3_enterBracket_52 rfl rfl ?_
          refine k_getR C (j := 0) okC3 rfl (by decide) (by decide) rfl flX3_37 dX3_enterBracket_53 ?_
          refine k_getR C (j := 1) okC8 rfl (by decide) (by decide) rfl flX3_99 dX3_enterBracket_56 ?_
          refine k_iload C dX3_enterBracket_59 rfl ?_
          refine k_iaload C rfl (by decide) (by decide) ⟨by omega, by omega⟩ dX3_enterBracket_61 (fun ld61 => ?_)
          rw [show M49 33 = B 33 by rw [hp49.1.e.2.2.2.2.1, n33]] at ld61 ⊢
          refine k_istore C dX3_enterBracket_62 (by decide) ?_
          refine k_iinc C dX3_enterBracket_64 (by decide) rfl ?_
          refine k_goto C (tgt := 16) dX3_enterBracket_67 rfl ?_
          refine k_cut2 C (lv' := [(0, _), (1, _), (2, _), (3, _), (4, _), (5, _)]) ⟨rfl, rfl, rfl, rfl, rfl, rfl, trivial⟩ ?_
          have X2 := hX.t h0 (hp49.1.w (fun x hx => ⟨chn (B 33) p k + 1, isE, hx⟩))
          exact l_enterB B hT hP p s hp e4 hs C M49 X2 (k + 1) (fun j hj => by by_cases z : j = k; (rw [z]; exact ⟨c32, hp49.2⟩); exact ⟨(hk j (by omega)).1, hp49.1.i (hk j (by omega)).2⟩) ld61
termination_by (200 - (k : Int)).toNat
decreasing_by all_goals omega
set_option maxHeartbeats 4000000 in
set_option maxRecDepth 100000 in
theorem c_enterB (B : Mem) (hT : TxC B) (hP : PIc B) (p s : Int) (hp : 0 ≤ p ∧ p < B 31 7) (e4 : B 32 p = 40) (hs : 0 ≤ s ∧ s < 30) : Ct shC nC yX3_enterBracket cX3_enterBracket 6 none (lvl 1) [.inr 39, .inl p, .inl s] B (fun _ M' => PX B M' (fun x => ∃ q, EpC B p q ∧ x = 30 * q + s) ∧ ∀ q, EpC B p q → InC M' (30 * q + s)) := by
  refine Ct_of (by decide +kernel) (Nat.le_of_ble_eq_true rfl) (fun K C => ?_)
  have t1 := hT.1
  obtain ⟨a1, a2, a3, a4⟩ := (hT.2.2 p hp.1 hp.2).1 e4
  refine k_aload_n C dX3_enterBracket_0 rfl rfl ?_
  refine k_getR C (j := 0) okC3 rfl (by decide) (by decide) rfl flX3_37 dX3_enterBracket_1 ?_
  refine k_getR C (j := 2) okC8 rfl (by decide) (by decide) rfl flX3_90 dX3_enterBracket_4 ?_
  refine k_iload_n C dX3_enterBracket_7 rfl rfl ?_
  refine k_iaload C rfl (by decide) (by decide) ⟨by omega, by omega⟩ dX3_enterBracket_8 (fun ld8 => ?_)
  refine k_istore_n C dX3_enterBracket_9 rfl (by decide) ?_
  refine k_iload_n C dX3_enterBracket_10 rfl rfl ?_
  refine k_istore C dX3_enterBracket_11 (by decide) ?_
  refine k_iconst C dX3_enterBracket_13 ?_
  refine k_istore C dX3_enterBracket_14 (by decide) ?_
  refine k_cut2 C (lv' := [(0, _), (1, _), (2, _), (3, _), (4, _), (5, _)]) ⟨rfl, rfl, rfl, rfl, rfl, rfl, trivial⟩ ?_
  exact l_enterB B hT hP p s hp e4 hs C B (PX.r hP) 0 (fun j hj => by omega) (by show inR p; omega)
set_option maxHeartbeats 4000000 in
set_option maxRecDepth 100000 in
theorem c_spread (B : Mem) (hT : TxC B) (hP : PIc B) (p s : Int) (hp : 0 ≤ p ∧ p ≤ B 31 7) (hs : 0 ≤ s ∧ s < 30) : Ct shC nC yX3_spread cX3_spread 3 none (lvl 2) [.inr 39, .inl p, .inl s] B (fun _ M' => PX B M' (fun x => ∃ q, EpC B p q ∧ x = 30 * q + s) ∧ ∀ q, EpC B p q → InC M' (30 * q + s)) := by
  refine Ct_of (by decide +kernel) (Nat.le_of_ble_eq_true rfl) (fun K C => ?_)
  have t1 := hT.1
  have tb := hT.2.1 p hp.1
  have tp := hT.2.2 p hp.1
  have h0 := hP.1
  by_cases pn : p < B 31 7
  · obtain ⟨t40, t124, t41⟩ := tp pn
    have tb := tb (by omega)
    refine k_iload_n C dX3_spread_0 rfl rfl ?_
    refine k_if_lt C (tgt := 22) dX3_spread_1 rfl (by omega) (fun c1 => ?_) (fun c1 => ?_)
    · exfalso; omega
    · refine k_iload_n C dX3_spread_4 rfl rfl ?_
      refine k_aload_n C dX3_spread_5 rfl rfl ?_
      refine k_getR C (j := 0) okC3 rfl (by decide) (by decide) rfl flX3_37 dX3_spread_6 ?_
      refine k_getJ C 7 7 rfl okC8 rfl (by decide) (by decide) rfl flX3_45 dX3_spread_9 (fun ld9 => ?_)
      refine k_icmp_ge C (tgt := 22) dX3_spread_12 rfl (by omega) (by omega) (fun c12 => ?_) (fun c12 => ?_)
      · exfalso; omega
      · refine k_iload_n C dX3_spread_15 rfl rfl ?_
        refine k_sipush C dX3_spread_16 (by decide) ?_
        refine k_icmp_lt C (tgt := 23) dX3_spread_19 rfl (by omega) (by omega) (fun c19 => ?_) (fun c19 => ?_)
        · refine k_aload_n C dX3_spread_23 rfl rfl ?_
          refine k_getR C (j := 0) okC3 rfl (by decide) (by decide) rfl flX3_37 dX3_spread_24 ?_
          refine k_getR C (j := 0) okC8 rfl (by decide) (by decide) rfl flX3_85 dX3_spread_27 ?_
          refine k_iload_n C dX3_spread_30 rfl rfl ?_
          refine k_iaload C rfl (by decide) (by decide) ⟨by omega, by omega⟩ dX3_spread_31 (fun ld31 => ?_)
          by_cases e32 : B 32 p = 32
          · rw [e32]
            refine k_lookup C (off := 44) (tgt := 76) dX3_spread_32 (by decide) (by decide) (by decide) rfl ?_
            refine k_aload_n C dX3_spread_76 rfl rfl ?_
            refine k_iload_n C dX3_spread_77 rfl rfl ?_
            refine k_iconst C dX3_spread_78 ?_
            refine k_iadd C dX3_spread_79 ?_
            refine k_iload_n C dX3_spread_80 rfl rfl ?_
            refine k_callV C okX3_58 dX3_spread_81 (c_meet B t1 hP (p + 1) s (by omega) hs) rfl rfl (by decide) rfl (by decide) rfl (Nat.le_of_ble_eq_true rfl) (fun r81 M81 hr81 hp81 => ?_)
            refine k_goto C (tgt := 156) dX3_spread_84 rfl ?_
            exact k_vret C dX3_spread_156 (fun _ => by
      first
      | exact hp90
      | (refine ⟨(hp124.1.w (fun x hx => ⟨B 35 p, q1, hx⟩)).t h0 (hp150.1.w (fun x hx => ⟨B 34 p, ⟨⟨hp.1, pn⟩, Or.inr (Or.inr (Or.inr ⟨e41, Or.inr ⟨by omega, rfl⟩⟩))⟩, hx⟩)), fun q hq => ?_⟩
         obtain ⟨-, hq⟩ := hq
         rcases hq with ⟨e, e2⟩ | ⟨e, e2⟩ | ⟨e, e2⟩ | ⟨e, e2⟩
         · omega
         · omega
         · omega
         · rcases e2 with e2 | e2
           · rw [e2]; exact hp150.1.i hp124.2
           · rw [e2.2]; exact hp150.2)
      | (refine ⟨hp124.1.w (fun x hx => ⟨B 35 p, q1, hx⟩), fun q hq => ?_⟩
         obtain ⟨-, hq⟩ := hq
         rcases hq with ⟨e, e2⟩ | ⟨e, e2⟩ | ⟨e, e2⟩ | ⟨e, e2⟩
         · omega
         · omega
         · omega
         · rcases e2 with e2 | e2
           · rw [e2]; exact hp124.2
           · omega)
      | (refine ⟨hp107.1.w (fun x hx => ⟨B 34 p, ⟨⟨hp.1, pn⟩, Or.inr (Or.inr (Or.inl ⟨e124, rfl⟩))⟩, hx⟩), fun q hq => ?_⟩
         obtain ⟨-, hq⟩ := hq
         rcases hq with ⟨e, e2⟩ | ⟨e, e2⟩ | ⟨e, e2⟩ | ⟨e, e2⟩
         · omega
         · omega
         · rw [e2]; exact hp107.2
         · omega)
      | (refine ⟨hp81.1.w (fun x hx => ⟨p + 1, ⟨⟨hp.1, pn⟩, Or.inl ⟨e32, rfl⟩⟩, hx⟩), fun q hq => ?_⟩
         obtain ⟨-, hq⟩ := hq
         rcases hq with ⟨e, e2⟩ | ⟨e, e2⟩ | ⟨e, e2⟩ | ⟨e, e2⟩
         · rw [e2]; exact hp81.2
         · omega
         · omega
         · omega)
      | (refine ⟨PX.r hP, fun q hq => ?_⟩
         obtain ⟨-, hq⟩ := hq
         rcases hq with ⟨e, e2⟩ | ⟨e, e2⟩ | ⟨e, e2⟩ | ⟨e, e2⟩ <;> omega))
          by_cases e40 : B 32 p = 40
          · rw [e40]
            refine k_lookup C (off := 55) (tgt := 87) dX3_spread_32 (by decide) (by decide) (by decide) rfl ?_
            refine k_aload_n C dX3_spread_87 rfl rfl ?_
            refine k_iload_n C dX3_spread_88 rfl rfl ?_
            refine k_iload_n C dX3_spread_89 rfl rfl ?_
            refine k_callV C okX3_87 dX3_spread_90 (c_enterB B hT hP p s ⟨hp.1, pn⟩ e40 hs) rfl rfl (by decide) rfl (by decide) rfl (Nat.le_of_ble_eq_true rfl) (fun r90 M90 hr90 hp90 => ?_)
            refine k_goto C (tgt := 156) dX3_spread_93 rfl ?_
            exact k_vret C dX3_spread_156 (fun _ => by
      first
      | exact hp90
      | (refine ⟨(hp124.1.w (fun x hx => ⟨B 35 p, q1, hx⟩)).t h0 (hp150.1.w (fun x hx => ⟨B 34 p, ⟨⟨hp.1, pn⟩, Or.inr (Or.inr (Or.inr ⟨e41, Or.inr ⟨by omega, rfl⟩⟩))⟩, hx⟩)), fun q hq => ?_⟩
         obtain ⟨-, hq⟩ := hq
         rcases hq with ⟨e, e2⟩ | ⟨e, e2⟩ | ⟨e, e2⟩ | ⟨e, e2⟩
         · omega
         · omega
         · omega
         · rcases e2 with e2 | e2
           · rw [e2]; exact hp150.1.i hp124.2
           · rw [e2.2]; exact hp150.2)
      | (refine ⟨hp124.1.w (fun x hx => ⟨B 35 p, q1, hx⟩), fun q hq => ?_⟩
         obtain ⟨-, hq⟩ := hq
         rcases hq with ⟨e, e2⟩ | ⟨e, e2⟩ | ⟨e, e2⟩ | ⟨e, e2⟩
         · omega
         · omega
         · omega
         · rcases e2 with e2 | e2
           · rw [e2]; exact hp124.2
           · omega)
      | (refine ⟨hp107.1.w (fun x hx => ⟨B 34 p, ⟨⟨hp.1, pn⟩, Or.inr (Or.inr (Or.inl ⟨e124, rfl⟩))⟩, hx⟩), fun q hq => ?_⟩
         obtain ⟨-, hq⟩ := hq
         rcases hq with ⟨e, e2⟩ | ⟨e, e2⟩ | ⟨e, e2⟩ | ⟨e, e2⟩
         · omega
         · omega
         · rw [e2]; exact hp107.2
         · omega)
      | (refine ⟨hp81.1.w (fun x hx => ⟨p + 1, ⟨⟨hp.1, pn⟩, Or.inl ⟨e32, rfl⟩⟩, hx⟩), fun q hq => ?_⟩
         obtain ⟨-, hq⟩ := hq
         rcases hq with ⟨e, e2⟩ | ⟨e, e2⟩ | ⟨e, e2⟩ | ⟨e, e2⟩
         · rw [e2]; exact hp81.2
         · omega
         · omega
         · omega)
      | (refine ⟨PX.r hP, fun q hq => ?_⟩
         obtain ⟨-, hq⟩ := hq
         rcases hq with ⟨e, e2⟩ | ⟨e, e2⟩ | ⟨e, e2⟩ | ⟨e, e2⟩ <;> omega))
          by_cases e41 : B 32 p = 41
          · rw [e41]
            refine k_lookup C (off := 81) (tgt := 113) dX3_spread_32 (by decide) (by decide) (by decide) rfl ?_
            obtain ⟨y1, y2, y3⟩ := t41 e41
            have q1 : EpC B p (B 35 p) := ⟨⟨hp.1, pn⟩, Or.inr (Or.inr (Or.inr ⟨e41, Or.inl rfl⟩))⟩
            refine k_aload_n C dX3_spread_113 rfl rfl ?_
            refine k_aload_n C dX3_spread_114 rfl rfl ?_
            refine k_getR C (j := 0) okC3 rfl (by decide) (by decide) rfl flX3_37 dX3_spread_115 ?_
            refine k_getR C (j := 3) okC8 rfl (by decide) (by decide) rfl flX3_93 dX3_spread_118 ?_
            refine k_iload_n C dX3_spread_121 rfl rfl ?_
            refine k_iaload C rfl (by decide) (by decide) ⟨by omega, by omega⟩ dX3_spread_122 (fun ld122 => ?_)
            refine k_iload_n C dX3_spread_123 rfl rfl ?_
            refine k_callV C okX3_58 dX3_spread_124 (c_meet B t1 hP (B 35 p) s y2 hs) rfl rfl (by decide) rfl (by decide) rfl (Nat.le_of_ble_eq_true rfl) (fun r124 M124 hr124 hp124 => ?_)
            refine k_aload_n C dX3_spread_127 rfl rfl ?_
            refine k_getR C (j := 0) okC3 rfl (by decide) (by decide) rfl flX3_37 dX3_spread_128 ?_
            refine k_getR C (j := 4) okC8 rfl (by decide) (by decide) rfl flX3_96 dX3_spread_131 ?_
            refine k_iload_n C dX3_spread_134 rfl rfl ?_
            refine k_zaload C rfl (by decide) (by decide) ⟨by omega, by omega⟩ dX3_spread_135 (fun ld135 => ?_)
            rw [hp124.1.e.2.2.2.2.2.2.2.1] at ld135 ⊢
            refine k_if_eq C (tgt := 156) dX3_spread_136 rfl (by omega) (fun c136 => ?_) (fun c136 => ?_)
            · exact k_vret C dX3_spread_156 (fun _ => by
      first
      | exact hp90
      | (refine ⟨(hp124.1.w (fun x hx => ⟨B 35 p, q1, hx⟩)).t h0 (hp150.1.w (fun x hx => ⟨B 34 p, ⟨⟨hp.1, pn⟩, Or.inr (Or.inr (Or.inr ⟨e41, Or.inr ⟨by omega, rfl⟩⟩))⟩, hx⟩)), fun q hq => ?_⟩
         obtain ⟨-, hq⟩ := hq
         rcases hq with ⟨e, e2⟩ | ⟨e, e2⟩ | ⟨e, e2⟩ | ⟨e, e2⟩
         · omega
         · omega
         · omega
         · rcases e2 with e2 | e2
           · rw [e2]; exact hp150.1.i hp124.2
           · rw [e2.2]; exact hp150.2)
      | (refine ⟨hp124.1.w (fun x hx => ⟨B 35 p, q1, hx⟩), fun q hq => ?_⟩
         obtain ⟨-, hq⟩ := hq
         rcases hq with ⟨e, e2⟩ | ⟨e, e2⟩ | ⟨e, e2⟩ | ⟨e, e2⟩
         · omega
         · omega
         · omega
         · rcases e2 with e2 | e2
           · rw [e2]; exact hp124.2
           · omega)
      | (refine ⟨hp107.1.w (fun x hx => ⟨B 34 p, ⟨⟨hp.1, pn⟩, Or.inr (Or.inr (Or.inl ⟨e124, rfl⟩))⟩, hx⟩), fun q hq => ?_⟩
         obtain ⟨-, hq⟩ := hq
         rcases hq with ⟨e, e2⟩ | ⟨e, e2⟩ | ⟨e, e2⟩ | ⟨e, e2⟩
         · omega
         · omega
         · rw [e2]; exact hp107.2
         · omega)
      | (refine ⟨hp81.1.w (fun x hx => ⟨p + 1, ⟨⟨hp.1, pn⟩, Or.inl ⟨e32, rfl⟩⟩, hx⟩), fun q hq => ?_⟩
         obtain ⟨-, hq⟩ := hq
         rcases hq with ⟨e, e2⟩ | ⟨e, e2⟩ | ⟨e, e2⟩ | ⟨e, e2⟩
         · rw [e2]; exact hp81.2
         · omega
         · omega
         · omega)
      | (refine ⟨PX.r hP, fun q hq => ?_⟩
         obtain ⟨-, hq⟩ := hq
         rcases hq with ⟨e, e2⟩ | ⟨e, e2⟩ | ⟨e, e2⟩ | ⟨e, e2⟩ <;> omega))
            · refine k_aload_n C dX3_spread_139 rfl rfl ?_
              refine k_aload_n C dX3_spread_140 rfl rfl ?_
              refine k_getR C (j := 0) okC3 rfl (by decide) (by decide) rfl flX3_37 dX3_spread_141 ?_
              refine k_getR C (j := 2) okC8 rfl (by decide) (by decide) rfl flX3_90 dX3_spread_144 ?_
              refine k_iload_n C dX3_spread_147 rfl rfl ?_
              refine k_iaload C rfl (by decide) (by decide) ⟨by omega, by omega⟩ dX3_spread_148 (fun ld148 => ?_)
              rw [hp124.1.e.2.2.2.2.2.1] at ld148 ⊢
              refine k_iload_n C dX3_spread_149 rfl rfl ?_
              refine k_callV C okX3_58 dX3_spread_150 (c_meet M124 (by rw [hp124.1.e.2.2.1]; exact t1) hp124.1.2.2.1 (B 34 p) s (by rw [hp124.1.e.2.2.1]; exact y3) hs) rfl rfl (by decide) rfl (by decide) rfl (Nat.le_of_ble_eq_true rfl) (fun r150 M150 hr150 hp150 => ?_)
              refine k_goto C (tgt := 156) dX3_spread_153 rfl ?_
              exact k_vret C dX3_spread_156 (fun _ => by
      first
      | exact hp90
      | (refine ⟨(hp124.1.w (fun x hx => ⟨B 35 p, q1, hx⟩)).t h0 (hp150.1.w (fun x hx => ⟨B 34 p, ⟨⟨hp.1, pn⟩, Or.inr (Or.inr (Or.inr ⟨e41, Or.inr ⟨by omega, rfl⟩⟩))⟩, hx⟩)), fun q hq => ?_⟩
         obtain ⟨-, hq⟩ := hq
         rcases hq with ⟨e, e2⟩ | ⟨e, e2⟩ | ⟨e, e2⟩ | ⟨e, e2⟩
         · omega
         · omega
         · omega
         · rcases e2 with e2 | e2
           · rw [e2]; exact hp150.1.i hp124.2
           · rw [e2.2]; exact hp150.2)
      | (refine ⟨hp124.1.w (fun x hx => ⟨B 35 p, q1, hx⟩), fun q hq => ?_⟩
         obtain ⟨-, hq⟩ := hq
         rcases hq with ⟨e, e2⟩ | ⟨e, e2⟩ | ⟨e, e2⟩ | ⟨e, e2⟩
         · omega
         · omega
         · omega
         · rcases e2 with e2 | e2
           · rw [e2]; exact hp124.2
           · omega)
      | (refine ⟨hp107.1.w (fun x hx => ⟨B 34 p, ⟨⟨hp.1, pn⟩, Or.inr (Or.inr (Or.inl ⟨e124, rfl⟩))⟩, hx⟩), fun q hq => ?_⟩
         obtain ⟨-, hq⟩ := hq
         rcases hq with ⟨e, e2⟩ | ⟨e, e2⟩ | ⟨e, e2⟩ | ⟨e, e2⟩
         · omega
         · omega
         · rw [e2]; exact hp107.2
         · omega)
      | (refine ⟨hp81.1.w (fun x hx => ⟨p + 1, ⟨⟨hp.1, pn⟩, Or.inl ⟨e32, rfl⟩⟩, hx⟩), fun q hq => ?_⟩
         obtain ⟨-, hq⟩ := hq
         rcases hq with ⟨e, e2⟩ | ⟨e, e2⟩ | ⟨e, e2⟩ | ⟨e, e2⟩
         · rw [e2]; exact hp81.2
         · omega
         · omega
         · omega)
      | (refine ⟨PX.r hP, fun q hq => ?_⟩
         obtain ⟨-, hq⟩ := hq
         rcases hq with ⟨e, e2⟩ | ⟨e, e2⟩ | ⟨e, e2⟩ | ⟨e, e2⟩ <;> omega))
          by_cases e124 : B 32 p = 124
          · rw [e124]
            refine k_lookup C (off := 64) (tgt := 96) dX3_spread_32 (by decide) (by decide) (by decide) rfl ?_
            have y1 := t124 e124
            refine k_aload_n C dX3_spread_96 rfl rfl ?_
            refine k_aload_n C dX3_spread_97 rfl rfl ?_
            refine k_getR C (j := 0) okC3 rfl (by decide) (by decide) rfl flX3_37 dX3_spread_98 ?_
            refine k_getR C (j := 2) okC8 rfl (by decide) (by decide) rfl flX3_90 dX3_spread_101 ?_
            refine k_iload_n C dX3_spread_104 rfl rfl ?_
            refine k_iaload C rfl (by decide) (by decide) ⟨by omega, by omega⟩ dX3_spread_105 (fun ld105 => ?_)
            refine k_iload_n C dX3_spread_106 rfl rfl ?_
            refine k_callV C okX3_58 dX3_spread_107 (c_meet B t1 hP (B 34 p) s y1 hs) rfl rfl (by decide) rfl (by decide) rfl (Nat.le_of_ble_eq_true rfl) (fun r107 M107 hr107 hp107 => ?_)
            refine k_goto C (tgt := 156) dX3_spread_110 rfl ?_
            exact k_vret C dX3_spread_156 (fun _ => by
      first
      | exact hp90
      | (refine ⟨(hp124.1.w (fun x hx => ⟨B 35 p, q1, hx⟩)).t h0 (hp150.1.w (fun x hx => ⟨B 34 p, ⟨⟨hp.1, pn⟩, Or.inr (Or.inr (Or.inr ⟨e41, Or.inr ⟨by omega, rfl⟩⟩))⟩, hx⟩)), fun q hq => ?_⟩
         obtain ⟨-, hq⟩ := hq
         rcases hq with ⟨e, e2⟩ | ⟨e, e2⟩ | ⟨e, e2⟩ | ⟨e, e2⟩
         · omega
         · omega
         · omega
         · rcases e2 with e2 | e2
           · rw [e2]; exact hp150.1.i hp124.2
           · rw [e2.2]; exact hp150.2)
      | (refine ⟨hp124.1.w (fun x hx => ⟨B 35 p, q1, hx⟩), fun q hq => ?_⟩
         obtain ⟨-, hq⟩ := hq
         rcases hq with ⟨e, e2⟩ | ⟨e, e2⟩ | ⟨e, e2⟩ | ⟨e, e2⟩
         · omega
         · omega
         · omega
         · rcases e2 with e2 | e2
           · rw [e2]; exact hp124.2
           · omega)
      | (refine ⟨hp107.1.w (fun x hx => ⟨B 34 p, ⟨⟨hp.1, pn⟩, Or.inr (Or.inr (Or.inl ⟨e124, rfl⟩))⟩, hx⟩), fun q hq => ?_⟩
         obtain ⟨-, hq⟩ := hq
         rcases hq with ⟨e, e2⟩ | ⟨e, e2⟩ | ⟨e, e2⟩ | ⟨e, e2⟩
         · omega
         · omega
         · rw [e2]; exact hp107.2
         · omega)
      | (refine ⟨hp81.1.w (fun x hx => ⟨p + 1, ⟨⟨hp.1, pn⟩, Or.inl ⟨e32, rfl⟩⟩, hx⟩), fun q hq => ?_⟩
         obtain ⟨-, hq⟩ := hq
         rcases hq with ⟨e, e2⟩ | ⟨e, e2⟩ | ⟨e, e2⟩ | ⟨e, e2⟩
         · rw [e2]; exact hp81.2
         · omega
         · omega
         · omega)
      | (refine ⟨PX.r hP, fun q hq => ?_⟩
         obtain ⟨-, hq⟩ := hq
         rcases hq with ⟨e, e2⟩ | ⟨e, e2⟩ | ⟨e, e2⟩ | ⟨e, e2⟩ <;> omega))
          refine k_lookup C (off := 124) (tgt := 156) dX3_spread_32 (by omega) (by decide) (by simp [Op.lookupswitch.offset]; omega) rfl ?_
          exact k_vret C dX3_spread_156 (fun _ => by
      first
      | exact hp90
      | (refine ⟨(hp124.1.w (fun x hx => ⟨B 35 p, q1, hx⟩)).t h0 (hp150.1.w (fun x hx => ⟨B 34 p, ⟨⟨hp.1, pn⟩, Or.inr (Or.inr (Or.inr ⟨e41, Or.inr ⟨by omega, rfl⟩⟩))⟩, hx⟩)), fun q hq => ?_⟩
         obtain ⟨-, hq⟩ := hq
         rcases hq with ⟨e, e2⟩ | ⟨e, e2⟩ | ⟨e, e2⟩ | ⟨e, e2⟩
         · omega
         · omega
         · omega
         · rcases e2 with e2 | e2
           · rw [e2]; exact hp150.1.i hp124.2
           · rw [e2.2]; exact hp150.2)
      | (refine ⟨hp124.1.w (fun x hx => ⟨B 35 p, q1, hx⟩), fun q hq => ?_⟩
         obtain ⟨-, hq⟩ := hq
         rcases hq with ⟨e, e2⟩ | ⟨e, e2⟩ | ⟨e, e2⟩ | ⟨e, e2⟩
         · omega
         · omega
         · omega
         · rcases e2 with e2 | e2
           · rw [e2]; exact hp124.2
           · omega)
      | (refine ⟨hp107.1.w (fun x hx => ⟨B 34 p, ⟨⟨hp.1, pn⟩, Or.inr (Or.inr (Or.inl ⟨e124, rfl⟩))⟩, hx⟩), fun q hq => ?_⟩
         obtain ⟨-, hq⟩ := hq
         rcases hq with ⟨e, e2⟩ | ⟨e, e2⟩ | ⟨e, e2⟩ | ⟨e, e2⟩
         · omega
         · omega
         · rw [e2]; exact hp107.2
         · omega)
      | (refine ⟨hp81.1.w (fun x hx => ⟨p + 1, ⟨⟨hp.1, pn⟩, Or.inl ⟨e32, rfl⟩⟩, hx⟩), fun q hq => ?_⟩
         obtain ⟨-, hq⟩ := hq
         rcases hq with ⟨e, e2⟩ | ⟨e, e2⟩ | ⟨e, e2⟩ | ⟨e, e2⟩
         · rw [e2]; exact hp81.2
         · omega
         · omega
         · omega)
      | (refine ⟨PX.r hP, fun q hq => ?_⟩
         obtain ⟨-, hq⟩ := hq
         rcases hq with ⟨e, e2⟩ | ⟨e, e2⟩ | ⟨e, e2⟩ | ⟨e, e2⟩ <;> omega))
        · exfalso; omega
  · refine k_iload_n C dX3_spread_0 rfl rfl ?_
    refine k_if_lt C (tgt := 22) dX3_spread_1 rfl (by omega) (fun c1 => ?_) (fun c1 => ?_)
    · exact k_vret C dX3_spread_22 (fun _ => ⟨PX.r hP, fun q hq => by have := hq.1.2; omega⟩)
    · refine k_iload_n C dX3_spread_4 rfl rfl ?_
      refine k_aload_n C dX3_spread_5 rfl rfl ?_
      refine k_getR C (j := 0) okC3 rfl (by decide) (by decide) rfl flX3_37 dX3_spread_6 ?_
      refine k_getJ C 7 7 rfl okC8 rfl (by decide) (by decide) rfl flX3_45 dX3_spread_9 (fun ld9 => ?_)
      refine k_icmp_ge C (tgt := 22) dX3_spread_12 rfl (by omega) (by omega) (fun c12 => ?_) (fun c12 => ?_)
      · exact k_vret C dX3_spread_22 (fun _ => ⟨PX.r hP, fun q hq => by have := hq.1.2; omega⟩)
      · refine k_iload_n C dX3_spread_15 rfl rfl ?_
        refine k_sipush C dX3_spread_16 (by decide) ?_
        refine k_icmp_lt C (tgt := 23) dX3_spread_19 rfl (by omega) (by omega) (fun c19 => ?_) (fun c19 => ?_)
        · exfalso; omega
        · exact k_vret C dX3_spread_22 (fun _ => ⟨PX.r hP, fun q hq => by have := hq.1.2; omega⟩)
/-- the pair x comes of a pair of [a, b) without a call -/
def EqQ (B : Mem) (a b x : Int) : Prop := ∃ j, a ≤ j ∧ j < b ∧ Ecl (EpC B) (B 40 j / 30) (x / 30) ∧ x % 30 = B 40 j % 30 ∧ 0 ≤ x
def CgP (B N : Mem) (fr ca st : Int) : Prop := (st = B 39 8 ∧ N = B) ∨ (st < B 39 8 ∧ ∃ L, PX B L (EqQ B st (B 39 8)) ∧ (∀ i q, st ≤ i → i < L 39 8 → EpC B (L 40 i / 30) q → InC L (30 * q + L 40 i % 30)) ∧ N = up (up (up (up (up L 42 (B 39 9) st) 43 (B 39 9) fr) 44 (B 39 9) ca) 39 9 (B 39 9 + 1)) 42 (B 39 9 + 1) (L 39 8))
set_option maxHeartbeats 4000000 in
set_option maxRecDepth 100000 in
theorem l_close {K : Kt} (B : Mem) (hT : TxC B) (hP : PIc B) (fr ca st : Int) (hG : 0 ≤ B 39 9 ∧ B 39 9 ≤ B 39 8) (hst : st = (if B 39 9 = 0 then 0 else B 42 (B 39 9))) (hs0 : B 39 9 ≤ st ∧ st ≤ B 39 8) (hfr : inR fr) (hca : inR ca) (C : Ctx shC nC RX3 cX3_closeGroup 5 none (lvl 3) (fun _ M' => CgP B M' fr ca st) K) (N : Mem) (hlt : st < B 39 8) (hX : PX B N (EqQ B st (B 39 8))) (i : Int) (hi : st ≤ i ∧ i ≤ N 39 8) (hI : ∀ j q, st ≤ j → j < i → EpC B (N 40 j / 30) q → InC N (30 * q + N 40 j % 30)) : K 43 [(0, .inr 39), (1, .inl fr), (2, .inl ca), (3, .inl st), (4, .inl i)] [] N := by
  have t1 := hT.1
  have h0 := hP.1
  have n31 := hX.e.2.2.1
  have cap := PIv_cap hX.2.2.1 (by rw [n31]; exact t1.1)
  rw [n31] at cap
  have capB := PIv_cap hP t1.1
  have n9 := hX.2.1 9 (by decide)
  have rg := hX.2.2.1.2.1 i (by omega)
  refine k_iload C dX3_closeGroup_43 rfl ?_
  refine k_aload_n C dX3_closeGroup_45 rfl rfl ?_
  refine k_getJ C 8 8 rfl okC3 rfl (by decide) (by decide) rfl flX3_51 dX3_closeGroup_46 (fun ld46 => ?_)
  refine k_icmp_ge C (tgt := 90) dX3_closeGroup_49 rfl (by omega) (by omega) (fun c49 => ?_) (fun c49 => ?_)
  · refine k_aload_n C dX3_closeGroup_90 rfl rfl ?_
    refine k_getR C (j := 4) okC3 rfl (by decide) (by decide) rfl flX3_19 dX3_closeGroup_91 ?_
    refine k_aload_n C dX3_closeGroup_94 rfl rfl ?_
    refine k_getJ C 9 9 rfl okC3 rfl (by decide) (by decide) rfl flX3_54 dX3_closeGroup_95 (fun ld95 => ?_)
    rw [n9]
    refine k_iload_n C dX3_closeGroup_98 rfl rfl ?_
    refine k_iastore C rfl (by decide) (by decide) ⟨by omega, by omega⟩ (by omega) dX3_closeGroup_99 ?_
    refine k_aload_n C dX3_closeGroup_100 rfl rfl ?_
    refine k_getR C (j := 5) okC3 rfl (by decide) (by decide) rfl flX3_22 dX3_closeGroup_101 ?_
    refine k_aload_n C dX3_closeGroup_104 rfl rfl ?_
    refine k_getJ C 9 9 rfl okC3 rfl (by decide) (by decide) rfl flX3_54 dX3_closeGroup_105 (fun ld105 => ?_)
    rw [up_ne (show (39 : Nat) ≠ 42 by decide), n9]
    refine k_iload_n C dX3_closeGroup_108 rfl rfl ?_
    refine k_iastore C rfl (by decide) (by decide) ⟨by omega, by omega⟩ (by omega) dX3_closeGroup_109 ?_
    refine k_aload_n C dX3_closeGroup_110 rfl rfl ?_
    refine k_getR C (j := 6) okC3 rfl (by decide) (by decide) rfl flX3_25 dX3_closeGroup_111 ?_
    refine k_aload_n C dX3_closeGroup_114 rfl rfl ?_
    refine k_getJ C 9 9 rfl okC3 rfl (by decide) (by decide) rfl flX3_54 dX3_closeGroup_115 (fun ld115 => ?_)
    rw [up_ne (show (39 : Nat) ≠ 43 by decide), up_ne (show (39 : Nat) ≠ 42 by decide), n9]
    refine k_iload_n C dX3_closeGroup_118 rfl rfl ?_
    refine k_iastore C rfl (by decide) (by decide) ⟨by omega, by omega⟩ (by omega) dX3_closeGroup_119 ?_
    refine k_aload_n C dX3_closeGroup_120 rfl rfl ?_
    refine k_dup C dX3_closeGroup_121 ?_
    refine k_getJ C 9 9 rfl okC3 rfl (by decide) (by decide) rfl flX3_54 dX3_closeGroup_122 (fun ld122 => ?_)
    rw [up_ne (show (39 : Nat) ≠ 44 by decide), up_ne (show (39 : Nat) ≠ 43 by decide), up_ne (show (39 : Nat) ≠ 42 by decide), n9]
    refine k_iconst C dX3_closeGroup_125 ?_
    refine k_iadd C dX3_closeGroup_126 ?_
    refine k_putJ C 9 9 rfl okC3 rfl (by decide) (by decide) rfl rfl rfl (by omega) flX3_54 dX3_closeGroup_127 ?_
    refine k_aload_n C dX3_closeGroup_130 rfl rfl ?_
    refine k_getR C (j := 4) okC3 rfl (by decide) (by decide) rfl flX3_19 dX3_closeGroup_131 ?_
    refine k_aload_n C dX3_closeGroup_134 rfl rfl ?_
    refine k_getJ C 9 9 rfl okC3 rfl (by decide) (by decide) rfl flX3_54 dX3_closeGroup_135 (fun ld135 => ?_)
    rw [up_same]
    refine k_aload_n C dX3_closeGroup_138 rfl rfl ?_
    refine k_getJ C 8 8 rfl okC3 rfl (by decide) (by decide) rfl flX3_51 dX3_closeGroup_139 (fun ld139 => ?_)
    rw [up_at, if_neg (by decide), up_ne (show (39 : Nat) ≠ 44 by decide), up_ne (show (39 : Nat) ≠ 43 by decide), up_ne (show (39 : Nat) ≠ 42 by decide)]
    refine k_iastore C rfl (by decide) (by decide) ⟨by omega, by omega⟩ (by omega) dX3_closeGroup_142 ?_
    exact k_vret C dX3_closeGroup_143 (fun _ => by
      first
      | (exfalso; omega)
      | exact Or.inr ⟨hlt, N, hX, fun j q a b hq => hI j q a (by omega) hq, rfl⟩)
  · refine k_iload C dX3_closeGroup_52 rfl ?_
    refine k_sipush C dX3_closeGroup_54 (by decide) ?_
    refine k_icmp_ge C (tgt := 90) dX3_closeGroup_57 rfl (by omega) (by omega) (fun c57 => ?_) (fun c57 => ?_)
    · refine k_aload_n C dX3_closeGroup_90 rfl rfl ?_
      refine k_getR C (j := 4) okC3 rfl (by decide) (by decide) rfl flX3_19 dX3_closeGroup_91 ?_
      refine k_aload_n C dX3_closeGroup_94 rfl rfl ?_
      refine k_getJ C 9 9 rfl okC3 rfl (by decide) (by decide) rfl flX3_54 dX3_closeGroup_95 (fun ld95 => ?_)
      rw [n9]
      refine k_iload_n C dX3_closeGroup_98 rfl rfl ?_
      refine k_iastore C rfl (by decide) (by decide) ⟨by omega, by omega⟩ (by omega) dX3_closeGroup_99 ?_
      refine k_aload_n C dX3_closeGroup_100 rfl rfl ?_
      refine k_getR C (j := 5) okC3 rfl (by decide) (by decide) rfl flX3_22 dX3_closeGroup_101 ?_
      refine k_aload_n C dX3_closeGroup_104 rfl rfl ?_
      refine k_getJ C 9 9 rfl okC3 rfl (by decide) (by decide) rfl flX3_54 dX3_closeGroup_105 (fun ld105 => ?_)
      rw [up_ne (show (39 : Nat) ≠ 42 by decide), n9]
      refine k_iload_n C dX3_closeGroup_108 rfl rfl ?_
      refine k_iastore C rfl (by decide) (by decide) ⟨by omega, by omega⟩ (by omega) dX3_closeGroup_109 ?_
      refine k_aload_n C dX3_closeGroup_110 rfl rfl ?_
      refine k_getR C (j := 6) okC3 rfl (by decide) (by decide) rfl flX3_25 dX3_closeGroup_111 ?_
      refine k_aload_n C dX3_closeGroup_114 rfl rfl ?_
      refine k_getJ C 9 9 rfl okC3 rfl (by decide) (by decide) rfl flX3_54 dX3_closeGroup_115 (fun ld115 => ?_)
      rw [up_ne (show (39 : Nat) ≠ 43 by decide), up_ne (show (39 : Nat) ≠ 42 by decide), n9]
      refine k_iload_n C dX3_closeGroup_118 rfl rfl ?_
      refine k_iastore C rfl (by decide) (by decide) ⟨by omega, by omega⟩ (by omega) dX3_closeGroup_119 ?_
      refine k_aload_n C dX3_closeGroup_120 rfl rfl ?_
      refine k_dup C dX3_closeGroup_121 ?_
      refine k_getJ C 9 9 rfl okC3 rfl (by decide) (by decide) rfl flX3_54 dX3_closeGroup_122 (fun ld122 => ?_)
      rw [up_ne (show (39 : Nat) ≠ 44 by decide), up_ne (show (39 : Nat) ≠ 43 by decide), up_ne (show (39 : Nat) ≠ 42 by decide), n9]
      refine k_iconst C dX3_closeGroup_125 ?_
      refine k_iadd C dX3_closeGroup_126 ?_
      refine k_putJ C 9 9 rfl okC3 rfl (by decide) (by decide) rfl rfl rfl (by omega) flX3_54 dX3_closeGroup_127 ?_
      refine k_aload_n C dX3_closeGroup_130 rfl rfl ?_
      refine k_getR C (j := 4) okC3 rfl (by decide) (by decide) rfl flX3_19 dX3_closeGroup_131 ?_
      refine k_aload_n C dX3_closeGroup_134 rfl rfl ?_
      refine k_getJ C 9 9 rfl okC3 rfl (by decide) (by decide) rfl flX3_54 dX3_closeGroup_135 (fun ld135 => ?_)
      rw [up_same]
      refine k_aload_n C dX3_closeGroup_138 rfl rfl ?_
      refine k_getJ C 8 8 rfl okC3 rfl (by decide) (by decide) rfl flX3_51 dX3_closeGroup_139 (fun ld139 => ?_)
      rw [up_at, if_neg (by decide), up_ne (show (39 : Nat) ≠ 44 by decide), up_ne (show (39 : Nat) ≠ 43 by decide), up_ne (show (39 : Nat) ≠ 42 by decide)]
      refine k_iastore C rfl (by decide) (by decide) ⟨by omega, by omega⟩ (by omega) dX3_closeGroup_142 ?_
      exact k_vret C dX3_closeGroup_143 (fun _ => by
      first
      | (exfalso; omega)
      | exact Or.inr ⟨hlt, N, hX, fun j q a b hq => hI j q a (by omega) hq, rfl⟩)
    · have rg := rg c49
      rw [n31] at rg
      refine k_aload_n C dX3_closeGroup_60 rfl rfl ?_
      refine k_aload_n C dX3_closeGroup_61 rfl rfl ?_
      refine k_getR C (j := 2) okC3 rfl (by decide) (by decide) rfl flX3_9 dX3_closeGroup_62 ?_
      refine k_iload C dX3_closeGroup_65 rfl ?_
      refine k_iaload C rfl (by decide) (by decide) ⟨by omega, by omega⟩ dX3_closeGroup_67 (fun ld67 => ?_)
      refine k_bipush C dX3_closeGroup_68 (by decide) ?_
      refine k_idiv C dX3_closeGroup_70 ⟨by omega, by omega⟩ (by decide) ?_
      refine k_aload_n C dX3_closeGroup_71 rfl rfl ?_
      refine k_getR C (j := 2) okC3 rfl (by decide) (by decide) rfl flX3_9 dX3_closeGroup_72 ?_
      refine k_iload C dX3_closeGroup_75 rfl ?_
      refine k_iaload C rfl (by decide) (by decide) ⟨by omega, by omega⟩ dX3_closeGroup_77 (fun ld77 => ?_)
      refine k_bipush C dX3_closeGroup_78 (by decide) ?_
      refine k_irem C dX3_closeGroup_80 ⟨by omega, by omega⟩ (by decide) ?_
      refine k_callV C okX3_82 dX3_closeGroup_81 (c_spread N (by rw [hX.tx.1]; exact hT) hX.2.2.1 (N 40 i / 30) (N 40 i % 30) (by rw [n31]; omega) (by omega)) rfl rfl (by decide) rfl (by decide) rfl (Nat.le_of_ble_eq_true rfl) (fun r81 M81 hr81 hp81 => ?_)
      rw [hX.tx.2.1] at hp81
      refine k_iinc C dX3_closeGroup_84 (by decide) rfl ?_
      refine k_goto C (tgt := 43) dX3_closeGroup_87 rfl ?_
      refine k_cut2 C (lv' := [(0, _), (1, _), (2, _), (3, _), (4, _)]) ⟨rfl, rfl, rfl, rfl, rfl, trivial⟩ ?_
      have q : ∀ x, (∃ q, EpC B (N 40 i / 30) q ∧ x = 30 * q + N 40 i % 30) → EqQ B st (B 39 8) x := by
            rintro x ⟨q, q1, q2⟩
            have qr := CEp_rg hT q1
            have xe : x / 30 = q ∧ x % 30 = N 40 i % 30 ∧ 0 ≤ x := by omega
            by_cases z : i < B 39 8
            · refine ⟨i, hi.1, z, ?_, ?_, xe.2.2⟩
              · rw [← hX.2.2.2.2.1 i (by omega) z, xe.1]; exact Ecl_s Ecl_r q1
              · rw [← hX.2.2.2.2.1 i (by omega) z]; exact xe.2.1
            · obtain ⟨j, j1, j2, j3, j4, j5⟩ := hX.2.2.2.2.2 i (by omega) c49
              exact ⟨j, j1, j2, by rw [xe.1]; exact Ecl_s j3 q1, by rw [xe.2.1]; exact j4, xe.2.2⟩
      have X2 := hX.t h0 (hp81.1.w q)
      have m8 := hp81.1.2.2.2.1
      exact l_close B hT hP fr ca st hG hst hs0 hfr hca C M81 hlt X2 (i + 1) (by omega) (fun j q a b hq => by
            rw [hp81.1.2.2.2.2.1 j (by omega) (by omega)] at hq ⊢
            by_cases z : j = i
            · rw [z] at hq ⊢; exact hp81.2 q hq
            · exact hp81.1.i (hI j q a (by omega) hq))
termination_by (6030 - i).toNat
decreasing_by all_goals omega
set_option maxHeartbeats 4000000 in
set_option maxRecDepth 100000 in
theorem c_close (B : Mem) (hT : TxC B) (hP : PIc B) (fr ca st : Int) (hG : 0 ≤ B 39 9 ∧ B 39 9 ≤ B 39 8) (hst : st = (if B 39 9 = 0 then 0 else B 42 (B 39 9))) (hs0 : B 39 9 ≤ st ∧ st ≤ B 39 8) (hfr : inR fr) (hca : inR ca) : Ct shC nC yX3_closeGroup cX3_closeGroup 5 none (lvl 3) [.inr 39, .inl fr, .inl ca] B (fun _ M' => CgP B M' fr ca st) := by
  refine Ct_of (by decide +kernel) (Nat.le_of_ble_eq_true rfl) (fun K C => ?_)
  have t1 := hT.1
  have h0 := hP.1
  have cap := PIv_cap hP t1.1
  refine k_aload_n C dX3_closeGroup_0 rfl rfl ?_
  refine k_getJ C 9 9 rfl okC3 rfl (by decide) (by decide) rfl flX3_54 dX3_closeGroup_1 (fun ld1 => ?_)
  refine k_if_ne C (tgt := 11) dX3_closeGroup_4 rfl (by omega) (fun c4 => ?_) (fun c4 => ?_)
  · refine k_aload_n C dX3_closeGroup_11 rfl rfl ?_
    refine k_getR C (j := 4) okC3 rfl (by decide) (by decide) rfl flX3_19 dX3_closeGroup_12 ?_
    refine k_aload_n C dX3_closeGroup_15 rfl rfl ?_
    refine k_getJ C 9 9 rfl okC3 rfl (by decide) (by decide) rfl flX3_54 dX3_closeGroup_16 (fun ld16 => ?_)
    refine k_iaload C rfl (by decide) (by decide) ⟨by omega, by omega⟩ dX3_closeGroup_19 (fun ld19 => ?_)
    refine k_istore_n C dX3_closeGroup_20 rfl (by decide) ?_
    refine k_iload_n C dX3_closeGroup_21 rfl rfl ?_
    refine k_aload_n C dX3_closeGroup_22 rfl rfl ?_
    refine k_getJ C 8 8 rfl okC3 rfl (by decide) (by decide) rfl flX3_51 dX3_closeGroup_23 (fun ld23 => ?_)
    refine k_icmp_eq C (tgt := 39) dX3_closeGroup_26 rfl (by omega) (by omega) (fun c26 => ?_) (fun c26 => ?_)
    · exact k_vret C dX3_closeGroup_39 (fun _ => by
      first
      | (have es : st = 0 := by rw [hst, if_pos c4]
         exact Or.inl ⟨by omega, rfl⟩)
      | (have es : st = B 42 (B 39 9) := by rw [hst, if_neg c4]
         exact Or.inl ⟨by omega, rfl⟩)
      | (exfalso; omega))
    · refine k_aload_n C dX3_closeGroup_29 rfl rfl ?_
      refine k_getJ C 9 9 rfl okC3 rfl (by decide) (by decide) rfl flX3_54 dX3_closeGroup_30 (fun ld30 => ?_)
      refine k_sipush C dX3_closeGroup_33 (by decide) ?_
      refine k_icmp_lt C (tgt := 40) dX3_closeGroup_36 rfl (by omega) (by omega) (fun c36 => ?_) (fun c36 => ?_)
      · refine k_iload_n C dX3_closeGroup_40 rfl rfl ?_
        refine k_istore C dX3_closeGroup_41 (by decide) ?_
        refine k_cut2 C (lv' := [(0, _), (1, _), (2, _), (3, _), (4, _)]) ⟨rfl, rfl, rfl, rfl, rfl, trivial⟩ ?_
        first
        | (have es : st = 0 := by rw [hst, if_pos c4]
           subst es
           exact l_close B hT hP fr ca 0 hG hst hs0 hfr hca C B (by omega) (PX.r hP) 0 (by omega) (fun j q a b hq => by omega))
        | (have es : st = B 42 (B 39 9) := by rw [hst, if_neg c4]
           rw [← es]
           exact l_close B hT hP fr ca st hG hst hs0 hfr hca C B (by omega) (PX.r hP) st (by omega) (fun j q a b hq => by omega))
      · exact k_vret C dX3_closeGroup_39 (fun _ => by
      first
      | (have es : st = 0 := by rw [hst, if_pos c4]
         exact Or.inl ⟨by omega, rfl⟩)
      | (have es : st = B 42 (B 39 9) := by rw [hst, if_neg c4]
         exact Or.inl ⟨by omega, rfl⟩)
      | (exfalso; omega))
  · refine k_iconst C dX3_closeGroup_7 ?_
    refine k_goto C (tgt := 20) dX3_closeGroup_8 rfl ?_
    refine k_istore_n C dX3_closeGroup_20 rfl (by decide) ?_
    refine k_iload_n C dX3_closeGroup_21 rfl rfl ?_
    refine k_aload_n C dX3_closeGroup_22 rfl rfl ?_
    refine k_getJ C 8 8 rfl okC3 rfl (by decide) (by decide) rfl flX3_51 dX3_closeGroup_23 (fun ld23 => ?_)
    refine k_icmp_eq C (tgt := 39) dX3_closeGroup_26 rfl (by omega) (by omega) (fun c26 => ?_) (fun c26 => ?_)
    · exact k_vret C dX3_closeGroup_39 (fun _ => by
      first
      | (have es : st = 0 := by rw [hst, if_pos c4]
         exact Or.inl ⟨by omega, rfl⟩)
      | (have es : st = B 42 (B 39 9) := by rw [hst, if_neg c4]
         exact Or.inl ⟨by omega, rfl⟩)
      | (exfalso; omega))
    · refine k_aload_n C dX3_closeGroup_29 rfl rfl ?_
      refine k_getJ C 9 9 rfl okC3 rfl (by decide) (by decide) rfl flX3_54 dX3_closeGroup_30 (fun ld30 => ?_)
      refine k_sipush C dX3_closeGroup_33 (by decide) ?_
      refine k_icmp_lt C (tgt := 40) dX3_closeGroup_36 rfl (by omega) (by omega) (fun c36 => ?_) (fun c36 => ?_)
      · refine k_iload_n C dX3_closeGroup_40 rfl rfl ?_
        refine k_istore C dX3_closeGroup_41 (by decide) ?_
        refine k_cut2 C (lv' := [(0, _), (1, _), (2, _), (3, _), (4, _)]) ⟨rfl, rfl, rfl, rfl, rfl, trivial⟩ ?_
        first
        | (have es : st = 0 := by rw [hst, if_pos c4]
           subst es
           exact l_close B hT hP fr ca 0 hG hst hs0 hfr hca C B (by omega) (PX.r hP) 0 (by omega) (fun j q a b hq => by omega))
        | (have es : st = B 42 (B 39 9) := by rw [hst, if_neg c4]
           rw [← es]
           exact l_close B hT hP fr ca st hG hst hs0 hfr hca C B (by omega) (PX.r hP) st (by omega) (fun j q a b hq => by omega))
      · exact k_vret C dX3_closeGroup_39 (fun _ => by
      first
      | (have es : st = 0 := by rw [hst, if_pos c4]
         exact Or.inl ⟨by omega, rfl⟩)
      | (have es : st = B 42 (B 39 9) := by rw [hst, if_neg c4]
         exact Or.inl ⟨by omega, rfl⟩)
      | (exfalso; omega))
set_option maxHeartbeats 4000000 in
set_option maxRecDepth 100000 in
theorem l_breaks {K : Kt} (B : Mem) (hT : TxC B) (hP : PIc B) (hN : NxOk (B 23 2) (B 24)) (g c : Int) (hg : 0 ≤ g ∧ g < 6030) (hc : 0 ≤ c ∧ c < 8) (hse : 0 ≤ B 42 g ∧ B 42 g ≤ B 42 (g + 1) ∧ B 42 (g + 1) ≤ B 39 8) (hgi : ∀ i, B 42 g ≤ i → i < B 42 (g + 1) → B 40 i % 30 < B 23 2) (C : Ctx shC nC RX3 cX3_breaks 8 (some .boolean) (lvl 2) (fun r M' => PX B M' (fun x => ∃ i q, B 42 g ≤ i ∧ i < B 42 (g + 1) ∧ StC B (B 40 i / 30) c q ∧ ¬ B 24 (8 * (B 40 i % 30) + c) = -1 ∧ x = 30 * q + B 24 (8 * (B 40 i % 30) + c)) ∧ ((r = 1 ∧ ∃ i q, B 42 g ≤ i ∧ i < B 42 (g + 1) ∧ StC B (B 40 i / 30) c q ∧ B 24 (8 * (B 40 i % 30) + c) = -1) ∨ (r = 0 ∧ ∀ i q, B 42 g ≤ i → i < B 42 (g + 1) → StC B (B 40 i / 30) c q → ¬ B 24 (8 * (B 40 i % 30) + c) = -1 ∧ InC M' (30 * q + B 24 (8 * (B 40 i % 30) + c))))) K) (N : Mem) (hX : PX B N (fun x => ∃ i q, B 42 g ≤ i ∧ i < B 42 (g + 1) ∧ StC B (B 40 i / 30) c q ∧ ¬ B 24 (8 * (B 40 i % 30) + c) = -1 ∧ x = 30 * q + B 24 (8 * (B 40 i % 30) + c))) (i : Int) (hi : B 42 g ≤ i ∧ i ≤ B 42 (g + 1)) (hI : ∀ j q, B 42 g ≤ j → j < i → StC B (B 40 j / 30) c q → ¬ B 24 (8 * (B 40 j % 30) + c) = -1 ∧ InC N (30 * q + B 24 (8 * (B 40 j % 30) + c))) : K 20 [(0, .inr 39), (1, .inl g), (2, .inl c), (3, .inl (B 42 g)), (4, .inl (B 42 (g + 1))), (5, .inl i)] [] N := by
  have t1 := hT.1
  have h0 := hP.1
  obtain ⟨n23, n24, n31, n32, n33, n34, n35, n36, n42⟩ := hX.e
  have cap := PIv_cap hP t1.1
  have rg := hP.2.1 i (by omega)
  have many := hN.1
  refine k_iload C dX3_breaks_20 rfl ?_
  refine k_if_lt C (tgt := 112) dX3_breaks_22 rfl (by omega) (fun c22 => ?_) (fun c22 => ?_)
  · refine k_iconst C dX3_breaks_112 ?_
    exact k_zret C dX3_breaks_113 (by omega) (fun _ => by
      first
      | (exfalso; omega)
      | exact ⟨hX, Or.inr ⟨rfl, fun j q a b hq => hI j q a (by omega) hq⟩⟩)
  · refine k_iload C dX3_breaks_25 rfl ?_
    refine k_iload C dX3_breaks_27 rfl ?_
    refine k_icmp_ge C (tgt := 112) dX3_breaks_29 rfl (by omega) (by omega) (fun c29 => ?_) (fun c29 => ?_)
    · refine k_iconst C dX3_breaks_112 ?_
      exact k_zret C dX3_breaks_113 (by omega) (fun _ => by
      first
      | (exfalso; omega)
      | exact ⟨hX, Or.inr ⟨rfl, fun j q a b hq => hI j q a (by omega) hq⟩⟩)
    · refine k_iload C dX3_breaks_32 rfl ?_
      refine k_sipush C dX3_breaks_34 (by decide) ?_
      refine k_icmp_ge C (tgt := 112) dX3_breaks_37 rfl (by omega) (by omega) (fun c37 => ?_) (fun c37 => ?_)
      · refine k_iconst C dX3_breaks_112 ?_
        exact k_zret C dX3_breaks_113 (by omega) (fun _ => by
      first
      | (exfalso; omega)
      | exact ⟨hX, Or.inr ⟨rfl, fun j q a b hq => hI j q a (by omega) hq⟩⟩)
      · have rg := rg (by omega)
        have eqi : N 40 i = B 40 i := hX.2.2.2.2.1 i (by omega) (by omega)
        have gi := hgi i hi.1 c29
        refine k_aload_n C dX3_breaks_40 rfl rfl ?_
        refine k_getR C (j := 2) okC3 rfl (by decide) (by decide) rfl flX3_9 dX3_breaks_41 ?_
        refine k_iload C dX3_breaks_44 rfl ?_
        refine k_iaload C rfl (by decide) (by decide) ⟨by omega, by omega⟩ dX3_breaks_46 (fun ld46 => ?_)
        rw [eqi] at ld46 ⊢
        refine k_bipush C dX3_breaks_47 (by decide) ?_
        refine k_idiv C dX3_breaks_49 ⟨by omega, by omega⟩ (by decide) ?_
        refine k_istore C dX3_breaks_50 (by decide) ?_
        refine k_aload_n C dX3_breaks_52 rfl rfl ?_
        refine k_getR C (j := 0) okC3 rfl (by decide) (by decide) rfl flX3_37 dX3_breaks_53 ?_
        refine k_iload C dX3_breaks_56 rfl ?_
        refine k_callV C okX3_72 dX3_breaks_58 (c_Rt_callAt N (B 40 i / 30) (by omega) (fun j a b => by rw [n32]; have := hT.2.1 j a b; omega)) rfl rfl (by decide) rfl (by decide) rfl (Nat.le_of_ble_eq_true rfl) (fun r58 M58 hr58 hp58 => ?_)
        obtain ⟨rfl, hp58⟩ := hp58
        rw [n31, n32] at hp58
        refine k_iload_n C dX3_breaks_61 rfl rfl ?_
        refine k_icmp_eq C (tgt := 68) dX3_breaks_62 rfl (by omega) (by omega) (fun c62 => ?_) (fun c62 => ?_)
        · have isS : StC B (B 40 i / 30) c (B 40 i / 30 + 1) := by
            rcases hp58 with z | z
            · exact ⟨⟨by omega, by omega⟩, hc, by omega, rfl⟩
            · exfalso; omega
          have nr := hN.2 (B 40 i % 30) c (by omega) gi hc.1 hc.2
          refine k_aload_n C dX3_breaks_68 rfl rfl ?_
          refine k_getR C (j := 1) okC3 rfl (by decide) (by decide) rfl flX3_41 dX3_breaks_69 ?_
          refine k_aload_n C dX3_breaks_72 rfl rfl ?_
          refine k_getR C (j := 2) okC3 rfl (by decide) (by decide) rfl flX3_9 dX3_breaks_73 ?_
          refine k_iload C dX3_breaks_76 rfl ?_
          refine k_iaload C rfl (by decide) (by decide) ⟨by omega, by omega⟩ dX3_breaks_78 (fun ld78 => ?_)
          rw [eqi] at ld78 ⊢
          refine k_bipush C dX3_breaks_79 (by decide) ?_
          refine k_irem C dX3_breaks_81 ⟨by omega, by omega⟩ (by decide) ?_
          refine k_iload_n C dX3_breaks_82 rfl rfl ?_
          refine k_callV C okX3_76 dX3_breaks_83 (c_Law_after N (B 40 i % 30) c (by omega) (by omega)) rfl rfl (by decide) rfl (by decide) rfl (Nat.le_of_ble_eq_true rfl) (fun r83 M83 hr83 hp83 => ?_)
          obtain ⟨rfl, hp83⟩ := hp83
          rw [n23, n24] at hp83
          have e83 : r83 = B 24 (8 * (B 40 i % 30) + c) := by omega
          subst e83
          refine k_istore C dX3_breaks_86 (by decide) ?_
          refine k_iload C dX3_breaks_88 rfl ?_
          refine k_iconst C dX3_breaks_90 ?_
          refine k_icmp_ne C (tgt := 96) dX3_breaks_91 rfl (by omega) (by omega) (fun c91 => ?_) (fun c91 => ?_)
          · refine k_aload_n C dX3_breaks_96 rfl rfl ?_
            refine k_iload C dX3_breaks_97 rfl ?_
            refine k_iconst C dX3_breaks_99 ?_
            refine k_iadd C dX3_breaks_100 ?_
            refine k_iload C dX3_breaks_101 rfl ?_
            refine k_callV C okX3_58 dX3_breaks_103 (c_meet N (by rw [n31]; exact t1) hX.2.2.1 (B 40 i / 30 + 1) (B 24 (8 * (B 40 i % 30) + c)) (by rw [n31]; have := isS.1; omega) (by omega)) rfl rfl (by decide) rfl (by decide) rfl (Nat.le_of_ble_eq_true rfl) (fun r103 M103 hr103 hp103 => ?_)
            refine k_iinc C dX3_breaks_106 (by decide) rfl ?_
            refine k_goto C (tgt := 20) dX3_breaks_109 rfl ?_
            refine k_cut2 C (lv' := [(0, _), (1, _), (2, _), (3, _), (4, _), (5, _)]) ⟨rfl, rfl, rfl, rfl, rfl, rfl, trivial⟩ ?_
            first
            | (have X2 := hX.t h0 (hp103.1.w (fun x hx => ⟨i, B 40 i / 30 + 1, hi.1, c29, isS, c91, hx⟩))
               exact l_breaks B hT hP hN g c hg hc hse hgi C M103 X2 (i + 1) (by omega) (fun j q a b hq => by
            by_cases z : j = i
            · rw [z] at hq ⊢; rw [hq.2.2.2]; exact ⟨c91, hp103.2⟩
            · have := hI j q a (by omega) hq; exact ⟨this.1, hp103.1.i this.2⟩))
            | (exact l_breaks B hT hP hN g c hg hc hse hgi C N hX (i + 1) (by omega) (fun j q a b hq => by
            by_cases z : j = i
            · exfalso; rw [z] at hq; have h1 := hq.1; have h2 := hq.2.2.1; omega
            · exact hI j q a (by omega) hq))
          · refine k_iconst C dX3_breaks_94 ?_
            exact k_zret C dX3_breaks_95 (by omega) (fun _ => ⟨hX, Or.inl ⟨rfl, i, B 40 i / 30 + 1, hi.1, c29, isS, c91⟩⟩)
        · refine k_goto C (tgt := 106) dX3_breaks_65 rfl ?_
          refine k_iinc C dX3_breaks_106 (by decide) rfl ?_
          refine k_goto C (tgt := 20) dX3_breaks_109 rfl ?_
          refine k_cut2 C (lv' := [(0, _), (1, _), (2, _), (3, _), (4, _), (5, _)]) ⟨rfl, rfl, rfl, rfl, rfl, rfl, trivial⟩ ?_
          first
          | (have X2 := hX.t h0 (hp103.1.w (fun x hx => ⟨i, B 40 i / 30 + 1, hi.1, c29, isS, c91, hx⟩))
             exact l_breaks B hT hP hN g c hg hc hse hgi C M103 X2 (i + 1) (by omega) (fun j q a b hq => by
            by_cases z : j = i
            · rw [z] at hq ⊢; rw [hq.2.2.2]; exact ⟨c91, hp103.2⟩
            · have := hI j q a (by omega) hq; exact ⟨this.1, hp103.1.i this.2⟩))
          | (exact l_breaks B hT hP hN g c hg hc hse hgi C N hX (i + 1) (by omega) (fun j q a b hq => by
            by_cases z : j = i
            · exfalso; rw [z] at hq; have h1 := hq.1; have h2 := hq.2.2.1; omega
            · exact hI j q a (by omega) hq))
termination_by (B 42 (g + 1) - i).toNat
decreasing_by all_goals omega
set_option maxHeartbeats 4000000 in
set_option maxRecDepth 100000 in
theorem c_breaks (B : Mem) (hT : TxC B) (hP : PIc B) (hN : NxOk (B 23 2) (B 24)) (g c : Int) (hg : 0 ≤ g ∧ g < 6030) (hc : 0 ≤ c ∧ c < 8) (hse : 0 ≤ B 42 g ∧ B 42 g ≤ B 42 (g + 1) ∧ B 42 (g + 1) ≤ B 39 8) (hgi : ∀ i, B 42 g ≤ i → i < B 42 (g + 1) → B 40 i % 30 < B 23 2) : Ct shC nC yX3_breaks cX3_breaks 8 (some .boolean) (lvl 2) [.inr 39, .inl g, .inl c] B (fun r M' => PX B M' (fun x => ∃ i q, B 42 g ≤ i ∧ i < B 42 (g + 1) ∧ StC B (B 40 i / 30) c q ∧ ¬ B 24 (8 * (B 40 i % 30) + c) = -1 ∧ x = 30 * q + B 24 (8 * (B 40 i % 30) + c)) ∧ ((r = 1 ∧ ∃ i q, B 42 g ≤ i ∧ i < B 42 (g + 1) ∧ StC B (B 40 i / 30) c q ∧ B 24 (8 * (B 40 i % 30) + c) = -1) ∨ (r = 0 ∧ ∀ i q, B 42 g ≤ i → i < B 42 (g + 1) → StC B (B 40 i / 30) c q → ¬ B 24 (8 * (B 40 i % 30) + c) = -1 ∧ InC M' (30 * q + B 24 (8 * (B 40 i % 30) + c))))) := by
  refine Ct_of (by decide +kernel) (Nat.le_of_ble_eq_true rfl) (fun K C => ?_)
  refine k_aload_n C dX3_breaks_0 rfl rfl ?_
  refine k_getR C (j := 4) okC3 rfl (by decide) (by decide) rfl flX3_19 dX3_breaks_1 ?_
  refine k_iload_n C dX3_breaks_4 rfl rfl ?_
  refine k_iaload C rfl (by decide) (by decide) ⟨by omega, by omega⟩ dX3_breaks_5 (fun ld5 => ?_)
  refine k_istore_n C dX3_breaks_6 rfl (by decide) ?_
  refine k_aload_n C dX3_breaks_7 rfl rfl ?_
  refine k_getR C (j := 4) okC3 rfl (by decide) (by decide) rfl flX3_19 dX3_breaks_8 ?_
  refine k_iload_n C dX3_breaks_11 rfl rfl ?_
  refine k_iconst C dX3_breaks_12 ?_
  refine k_iadd C dX3_breaks_13 ?_
  refine k_iaload C rfl (by decide) (by decide) ⟨by omega, by omega⟩ dX3_breaks_14 (fun ld14 => ?_)
  refine k_istore C dX3_breaks_15 (by decide) ?_
  refine k_iload_n C dX3_breaks_17 rfl rfl ?_
  refine k_istore C dX3_breaks_18 (by decide) ?_
  refine k_cut2 C (lv' := [(0, _), (1, _), (2, _), (3, _), (4, _), (5, _)]) ⟨rfl, rfl, rfl, rfl, rfl, rfl, trivial⟩ ?_
  exact l_breaks B hT hP hN g c hg hc hse hgi C B (PX.r hP) (B 42 g) (by omega) (fun j q a b hq => by omega)
