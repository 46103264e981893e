/-! Tree.grow, pure: one level. M before, M1 behind asking, M2 behind naming, M3 behind going down -/
def cul (M : Mem) (len : Int) : Int → Int := fun r => if M 13 r < len then M 13 r else len
def LvI (M : Mem) (ls len : Int) : Prop := TrOk 60 (cul M len) (M 4) (M 9 6) (M 10) (M 11) (M 12) ∧ (0 ≤ ls ∧ ls ≤ M 9 6 ∧ M 9 6 ≤ 721) ∧ (∀ r, 0 ≤ r → r < 60 → M 14 r = ndf (M 10) (M 4) r (cul M len r).toNat) ∧ (∀ r, 0 ≤ r → r < 60 → len < M 13 r → ls ≤ M 14 r) ∧ (∀ k c, ls ≤ k → k < M 9 6 → 0 ≤ c → c < 8 → M 10 (8 * k + c) = -1) ∧ (∀ k, 1 ≤ k → k < M 9 6 → M 11 k < ls) ∧ CuOk 60 (M 13) (M 4) ∧ ∀ r, 0 ≤ r → r < 60 → 0 ≤ M 13 r ∧ M 13 r ≤ 12
theorem cul_ok {M : Mem} {len : Int} (h : CuOk 60 (M 13) (M 4)) : CuOk 60 (cul M len) (M 4) := fun r a b l hl => h r a b l (by unfold cul at hl; split at hl <;> omega)
theorem LvI_in {M : Mem} {ls len : Int} (h : LvI M ls len) (hl : 0 ≤ len) {r : Int} (hr : 0 ≤ r ∧ r < 60) : 0 ≤ M 14 r ∧ M 14 r < M 9 6 := by
  rw [h.2.2.1 r hr.1 hr.2]
  have hc := h.2.2.2.2.2.2.2 r hr.1 hr.2
  refine nd_in (cul_ok h.2.2.2.2.2.2.1) h.1 hr _ ?_
  unfold cul; split <;> omega
theorem LvI_lv {M : Mem} {ls len : Int} (h : LvI M ls len) (hl : 0 ≤ len) : lvOk M len := by
  intro r a b c
  have i := LvI_in h hl ⟨a, b⟩
  have z := h.2.1
  have q := h.2.2.2.2.2.2.1 r a b len.toNat (by omega)
  rw [show ((len.toNat : Nat) : Int) = len by omega] at q
  exact ⟨by omega, q⟩
/-- the steps of the old nodes stay -/
theorem nd_keep {n : Int} {cu ca : Int → Int} {m : Int} {ch ch' pr lc : Int → Int} (hc : CuOk n cu ca) (h : TrOk n cu ca m ch pr lc) (hk : ∀ k c, 0 ≤ k → k < m → 0 ≤ c → c < 8 → ¬ ch (8 * k + c) = -1 → ch' (8 * k + c) = ch (8 * k + c)) {r : Int} (hr : 0 ≤ r ∧ r < n) : ∀ l : Nat, (l : Int) ≤ cu r → ndf ch' ca r l = ndf ch ca r l
  | 0, _ => rfl
  | l + 1, hl => by
    have ih := nd_keep hc h hk hr l (by omega)
    have i := nd_in hc h hr l (by omega)
    have q := hc r hr.1 hr.2 l (by omega)
    have e := h.2.2.2.2.1 r hr.1 hr.2 l (by omega)
    show ch' (8 * ndf ch' ca r l + ca (12 * r + l)) = ch (8 * ndf ch ca r l + ca (12 * r + l))
    rw [ih]
    exact hk _ _ i.1 i.2 q.1 q.2 e
set_option maxHeartbeats 4000000 in
theorem LvI_step {M M1 M2 M3 : Mem} {ls len : Int} (h : LvI M ls len) (hl : 0 ≤ len ∧ len < 12) (h1 : AskI M M1 len 60) (h2 : NmI M1 M2 ls (M 9 6) (M 9 6) 0) (h3 : GdI M2 M3 len 60) : LvI M3 (M 9 6) (len + 1) := by
  obtain ⟨tr, hs, hre, hlv, hno, hpa, hcu, hrg⟩ := id h
  obtain ⟨a, b, cc, d, e, f, g⟩ := h2
  have hlo := LvI_lv h hl.1
  have hcul := cul_ok (len := len) hcu
  have q4 : M2 4 = M 4 := by rw [a.1 4 (by decide) (by decide) (by decide) (by decide), h1.1 4 (by decide)]
  have q13 : M2 13 = M 13 := by rw [a.1 13 (by decide) (by decide) (by decide) (by decide), h1.1 13 (by decide)]
  have q14 : M2 14 = M 14 := by rw [a.1 14 (by decide) (by decide) (by decide) (by decide), h1.1 14 (by decide)]
  have m11 : M1 11 = M 11 := h1.1 11 (by decide)
  have m12 : M1 12 = M 12 := h1.1 12 (by decide)
  -- what was asked for
  have ask2 : ∀ k c, 0 ≤ k → k < M 9 6 → 0 ≤ c → c < 8 → AskP M len 60 (8 * k + c) → ls ≤ k ∧ M 10 (8 * k + c) = -1 := by
    rintro k c z1 z2 z3 z4 ⟨r, y1, y2, y3, y4⟩
    have w := (hlo r y1 y2 y3).2
    have v := hlv r y1 y2 y3
    have ek : M 14 r = k := by omega
    exact ⟨by omega, hno k c (by omega) z2 z3 z4⟩
  have notm : ∀ k c, 0 ≤ k → k < M 9 6 → 0 ≤ c → c < 8 → ¬ AskP M len 60 (8 * k + c) → M2 10 (8 * k + c) = M 10 (8 * k + c) := by
    intro k c z1 z2 z3 z4 z
    have e1 := (h1.2 (8 * k + c)).2 z
    have e2 := tr.2.2.1 k c z1 z2 z3 z4
    rw [(f k c z1 z2 z3 z4).1 (by omega), e1]
  have isn : ∀ k c, 0 ≤ k → k < M 9 6 → 0 ≤ c → c < 8 → AskP M len 60 (8 * k + c) → M 9 6 ≤ M2 10 (8 * k + c) ∧ M2 10 (8 * k + c) < M2 9 6 ∧ M2 11 (M2 10 (8 * k + c)) = k ∧ M2 12 (M2 10 (8 * k + c)) = c :=
    fun k c z1 z2 z3 z4 z => (f k c z1 z2 z3 z4).2.1 ((h1.2 (8 * k + c)).1 z) (Or.inl z2)
  have keep : ∀ k c, 0 ≤ k → k < M 9 6 → 0 ≤ c → c < 8 → ¬ M 10 (8 * k + c) = -1 → M2 10 (8 * k + c) = M 10 (8 * k + c) :=
    fun k c z1 z2 z3 z4 z => notm k c z1 z2 z3 z4 (fun y => z (ask2 k c z1 z2 z3 z4 y).2)
  have ndk : ∀ r, 0 ≤ r → r < 60 → ∀ l : Nat, (l : Int) ≤ cul M len r → ndf (M2 10) (M 4) r l = ndf (M 10) (M 4) r l := fun r z1 z2 => nd_keep hcul tr keep ⟨z1, z2⟩
  have new : ∀ r, 0 ≤ r → r < 60 → len < M 13 r → ndf (M2 10) (M 4) r (len.toNat + 1) = M2 10 (8 * M 14 r + M 4 (12 * r + len)) ∧ M 9 6 ≤ M2 10 (8 * M 14 r + M 4 (12 * r + len)) := by
    intro r z1 z2 z3
    have ec : cul M len r = len := by unfold cul; rw [if_neg (by omega)]
    have k1 := ndk r z1 z2 len.toNat (by omega)
    have k2 := hre r z1 z2
    rw [ec] at k2
    have w := hlo r z1 z2 z3
    have i := LvI_in h hl.1 ⟨z1, z2⟩
    have k3 := isn (M 14 r) (M 4 (12 * r + len)) i.1 i.2 w.2.1 w.2.2 ⟨r, z1, z2, z3, rfl⟩
    refine ⟨?_, k3.1⟩
    show M2 10 (8 * ndf (M2 10) (M 4) r len.toNat + M 4 (12 * r + (len.toNat : Int))) = _
    rw [k1, ← k2, show ((len.toNat : Nat) : Int) = len by omega]
  have c1 : ∀ r, 0 ≤ r → r < 60 → len < M 13 r → cul M (len + 1) r = len + 1 := fun r _ _ z => by unfold cul; rw [if_neg (by omega)]
  have c2 : ∀ r, 0 ≤ r → r < 60 → ¬ len < M 13 r → cul M (len + 1) r = M 13 r ∧ cul M len r = M 13 r := fun r _ _ z => by
    unfold cul
    rw [if_pos (by omega)]
    refine ⟨rfl, ?_⟩
    split
    · rfl
    · omega
  have c3 : ∀ r, cul M len r ≤ cul M (len + 1) r := fun r => by unfold cul; split <;> split <;> omega
  have f4 : M3 4 = M 4 := by rw [h3.1 4 (by decide), q4]
  have f13 : M3 13 = M 13 := by rw [h3.1 13 (by decide), q13]
  have f9 : M3 9 = M2 9 := h3.1 9 (by decide)
  have f10 : M3 10 = M2 10 := h3.1 10 (by decide)
  have f11 : M3 11 = M2 11 := h3.1 11 (by decide)
  have f12 : M3 12 = M2 12 := h3.1 12 (by decide)
  have fc : cul M3 (len + 1) = cul M (len + 1) := by funext r; unfold cul; rw [f13]
  have trn : TrOk 60 (cul M (len + 1)) (M 4) (M2 9 6) (M2 10) (M2 11) (M2 12) := by
    have t1 := tr.1
    refine ⟨by omega, fun k z1 z2 => ?_, fun k c z1 z2 z3 z4 => ?_, fun j k z1 z2 z3 => ?_, fun r z1 z2 l z3 => ?_, fun k z1 z2 => ?_⟩
    · by_cases y : k < M 9 6
      · have t := tr.2.1 k z1 y
        have o := cc k y
        rw [o.1, o.2, m11, m12]
        exact ⟨t.1, t.2.1, t.2.2.1, t.2.2.2.1, by rw [keep _ _ t.1 (by omega) t.2.2.1 t.2.2.2.1 (by omega)]; exact t.2.2.2.2⟩
      · have t := d k (by omega) z2
        exact ⟨by omega, by omega, t.1.1, t.1.2, t.2.2.2.1⟩
    · by_cases y : k < M 9 6
      · by_cases z : AskP M len 60 (8 * k + c)
        · have t := isn k c z1 y z3 z4 z
          exact Or.inr ⟨by omega, t.2.1, t.2.2⟩
        · rw [notm k c z1 y z3 z4 z]
          rcases tr.2.2.1 k c z1 y z3 z4 with t | t
          · exact Or.inl t
          · have o := cc _ t.2.1
            refine Or.inr ⟨t.1, by omega, ?_, ?_⟩
            · rw [o.1, m11]; exact t.2.2.1
            · rw [o.2, m12]; exact t.2.2.2
      · exact Or.inl (g k c (by omega) z2 z3 z4)
    · by_cases y : k < M 9 6
      · have o1 := cc j (by omega); have o2 := cc k y
        rw [o1.1, o1.2, o2.1, o2.2, m11, m12]
        exact tr.2.2.2.1 j k z1 z2 y
      · by_cases y2 : j < M 9 6
        · have o1 := cc j y2
          have t := d k (by omega) z3
          have p := hpa j z1 y2
          rw [o1.1, m11]
          left; omega
        · exact e j k (by omega) z2 z3
    · by_cases y : (l : Int) < cul M len r
      · rw [ndk r z1 z2 (l + 1) (by omega)]; exact tr.2.2.2.2.1 r z1 z2 l y
      · by_cases z : len < M 13 r
        · have ec : cul M len r = len := by unfold cul; rw [if_neg (by omega)]
          have e1 := c1 r z1 z2 z
          have el : l = len.toNat := by omega
          have t := new r z1 z2 z
          rw [el, t.1]; omega
        · have e2 := c2 r z1 z2 z; omega
    · by_cases y : k < M 9 6
      · obtain ⟨r, l, y1, y2, y3, y4⟩ := tr.2.2.2.2.2 k z1 y
        have := c3 r
        exact ⟨r, l, y1, y2, by omega, by rw [ndk r y1 y2 l y3]; exact y4⟩
      · have t := d k (by omega) z2
        have as : AskP M len 60 (8 * M2 11 k + M2 12 k) := by
          by_cases w : AskP M len 60 (8 * M2 11 k + M2 12 k)
          · exact w
          · have e1 := (h1.2 _).2 w
            have e2 := tr.2.2.1 (M2 11 k) (M2 12 k) (by omega) (by omega) t.1.1 t.1.2
            omega
        obtain ⟨r, y1, y2, y3, y4⟩ := as
        have n := new r y1 y2 y3
        have e1 := c1 r y1 y2 y3
        exact ⟨r, len.toNat + 1, y1, y2, by omega, by rw [n.1, ← y4]; exact t.2.2.2.1⟩
  refine ⟨by rw [fc, f4, f9, f10, f11, f12]; exact trn, by rw [f9]; omega, fun r z1 z2 => ?_, fun r z1 z2 z3 => ?_, fun k c z1 z2 z3 z4 => ?_, fun k z1 z2 => ?_, by rw [f13, f4]; exact hcu, by rw [f13]; exact hrg⟩
  · rw [h3.2 r z1 z2, if_pos z2, fc, f10, f4]
    unfold gdV
    rw [q13, q14, q4]
    by_cases z : len < M 13 r
    · have n := new r z1 z2 z
      rw [iteP_pos z, c1 r z1 z2 z, ← n.1, show (len + 1).toNat = len.toNat + 1 by omega]
    · have e2 := c2 r z1 z2 z
      have rr := hrg r z1 z2
      rw [iteP_neg z, e2.1, ndk r z1 z2 _ (by omega), hre r z1 z2, e2.2]
  · rw [f13] at z3
    rw [h3.2 r z1 z2, if_pos z2]
    unfold gdV
    rw [q13, q14, q4, iteP_pos (by omega)]
    exact (new r z1 z2 (by omega)).2
  · rw [f9] at z2
    rw [f10]
    exact g k c z1 z2 z3 z4
  · rw [f9] at z2
    rw [f11]
    by_cases y : k < M 9 6
    · rw [(cc k y).1, m11]
      have := hpa k z1 y
      omega
    · have t := d k (by omega) z2
      omega
