/-! WORDS (the last letter first), ways, breaks, and the search through groups -/
def Ecl (Ep : Int → Int → Prop) (p q : Int) : Prop := ∀ S : Int → Prop, S p → (∀ x y, S x → Ep x y → S y) → S q
def Pth (Ep : Int → Int → Prop) (St : Int → Int → Int → Prop) : List Int → Int → Prop
  | [], q => Ecl Ep 0 q
  | c :: w, q => ∃ p p', Pth Ep St w p ∧ St p c p' ∧ Ecl Ep p' q
def lst (nx : Int → Int) : List Int → Int
  | [] => 0
  | c :: w => if lst nx w = -1 then -1 else nx (8 * lst nx w + c)
def Brk (Ep : Int → Int → Prop) (St : Int → Int → Int → Prop) (nx : Int → Int) : List Int → Prop
  | [] => False
  | c :: w => ¬ lst nx w = -1 ∧ nx (8 * lst nx w + c) = -1 ∧ ∃ p p', Pth Ep St w p ∧ St p c p'
def Lx : List Int → List Int → Prop
  | c :: w, d :: v => Lx w v ∨ (w = v ∧ c < d)
  | _, _ => False
def SLt (w v : List Int) : Prop := w.length < v.length ∨ (w.length = v.length ∧ Lx w v)
def SLe (w v : List Int) : Prop := w = v ∨ SLt w v
def BrkL (Ep : Int → Int → Prop) (St : Int → Int → Int → Prop) (nx : Int → Int) (w : List Int) : Prop := Brk Ep St nx w ∧ ∀ v, Brk Ep St nx v → SLe w v
theorem Ecl_r {Ep : Int → Int → Prop} {p : Int} : Ecl Ep p p := fun _ h _ => h
theorem Ecl_s {Ep : Int → Int → Prop} {p q r : Int} (h : Ecl Ep p q) (e : Ep q r) : Ecl Ep p r := fun S a b => b q r (h S a b) e
theorem Ecl_t {Ep : Int → Int → Prop} {p q r : Int} (h : Ecl Ep p q) (e : Ecl Ep q r) : Ecl Ep p r := fun S a b => e S (h S a b) b
theorem Pth_e {Ep : Int → Int → Prop} {St : Int → Int → Int → Prop} {w : List Int} {p q : Int} (h : Pth Ep St w p) (e : Ecl Ep p q) : Pth Ep St w q := by
  cases w with
  | nil => exact Ecl_t h e
  | cons c w => obtain ⟨a, b, h1, h2, h3⟩ := h; exact ⟨a, b, h1, h2, Ecl_t h3 e⟩
theorem Lx_irr : ∀ w : List Int, ¬ Lx w w
  | [], h => h
  | c :: w, h => by
    rcases h with h | h
    · exact Lx_irr w h
    · omega
theorem Lx_tr : ∀ {u v w : List Int}, Lx u v → Lx v w → Lx u w
  | [], _, _, h, _ => absurd h (by intro h; exact h)
  | _ :: _, [], _, h, _ => absurd h (by intro h; exact h)
  | _ :: _, _ :: _, [], _, h => absurd h (by intro h; exact h)
  | a :: u, b :: v, c :: w, h, g => by
    rcases h with h | ⟨h, h2⟩
    · rcases g with g | ⟨g, g2⟩
      · exact Or.inl (Lx_tr h g)
      · rw [← g]; exact Or.inl h
    · rcases g with g | ⟨g, g2⟩
      · rw [h]; exact Or.inl g
      · exact Or.inr ⟨h.trans g, by omega⟩
theorem SLt_irr (w : List Int) : ¬ SLt w w := fun h => by
  rcases h with h | h
  · omega
  · exact Lx_irr w h.2
theorem SLt_tr {u v w : List Int} (h : SLt u v) (g : SLt v w) : SLt u w := by
  rcases h with h | ⟨h, h2⟩ <;> rcases g with g | ⟨g, g2⟩
  · exact Or.inl (by omega)
  · exact Or.inl (by omega)
  · exact Or.inl (by omega)
  · exact Or.inr ⟨by omega, Lx_tr h2 g2⟩
theorem SLe_tr {u v w : List Int} (h : SLe u v) (g : SLe v w) : SLe u w := by
  rcases h with h | h
  · rw [h]; exact g
  · rcases g with g | g
    · rw [← g]; exact Or.inr h
    · exact Or.inr (SLt_tr h g)
theorem SLe_len {u v : List Int} (h : SLe u v) : u.length ≤ v.length := by
  rcases h with h | h | h
  · rw [h]; exact Nat.le_refl _
  · omega
  · omega
theorem SLt_c {u v : List Int} (h : SLt u v) (c d : Int) : SLt (c :: u) (d :: v) := by
  rcases h with h | ⟨h, h2⟩
  · exact Or.inl (by rw [List.length_cons, List.length_cons]; omega)
  · exact Or.inr ⟨by rw [List.length_cons, List.length_cons]; omega, Or.inl h2⟩
theorem SLe_c {u v : List Int} (h : SLe u v) {c d : Int} (e : c ≤ d) : SLe (c :: u) (d :: v) := by
  rcases h with h | h
  · rw [h]
    by_cases z : c = d
    · rw [z]; exact Or.inl rfl
    · exact Or.inr (Or.inr ⟨rfl, Or.inr ⟨rfl, by omega⟩⟩)
  · exact Or.inr (SLt_c h c d)
theorem BrkL_one {Ep : Int → Int → Prop} {St : Int → Int → Int → Prop} {nx : Int → Int} {w v : List Int} (h : BrkL Ep St nx w) (g : BrkL Ep St nx v) : w = v := by
  rcases h.2 v g.1 with a | a
  · exact a
  · rcases g.2 w h.1 with b | b
    · exact b.symm
    · exact absurd (SLt_tr a b) (SLt_irr w)
/-- the groups of a search: pa the pairs (30 place + state), those of group k from gs k on; W k its word -/
def GIn (pa : Int → Int) (e x : Int) : Prop := ∃ i, 0 ≤ i ∧ i < e ∧ pa i = x
def GrpA (G : Int) (gs : Int → Int) (ps : Int) : Prop := 1 ≤ G ∧ gs 0 = 0 ∧ gs G = ps ∧ ∀ k, 0 ≤ k → k < G → gs k < gs (k + 1)
def GrpB (G g c : Int) (gf gc : Int → Int) (W : Int → List Int) : Prop := W 0 = [] ∧ (∀ k, 1 ≤ k → k < G → 0 ≤ gf k ∧ gf k < k ∧ 0 ≤ gc k ∧ gc k < 8 ∧ W k = gc k :: W (gf k) ∧ (gf k < g ∨ (gf k = g ∧ gc k < c))) ∧ ∀ j k, 1 ≤ j → j < k → k < G → gf j < gf k ∨ (gf j = gf k ∧ gc j < gc k)
def GrpC (Ep : Int → Int → Prop) (St : Int → Int → Int → Prop) (nx pa gs : Int → Int) (G : Int) (W : Int → List Int) : Prop := ∀ k i, 0 ≤ k → k < G → gs k ≤ i → i < gs (k + 1) → 0 ≤ pa i ∧ pa i % 30 = lst nx (W k) ∧ ¬ lst nx (W k) = -1 ∧ Pth Ep St (W k) (pa i / 30)
def GrpD (Ep : Int → Int → Prop) (pa gs : Int → Int) (G : Int) : Prop := ∀ k i p, 0 ≤ k → k < G → gs k ≤ i → i < gs (k + 1) → Ep (pa i / 30) p → GIn pa (gs (k + 1)) (30 * p + pa i % 30)
def GrpE (St : Int → Int → Int → Prop) (nx pa gs gf gc : Int → Int) (G g c : Int) : Prop := ∀ k d i p, 0 ≤ k → k < G → 0 ≤ d → d < 8 → (k < g ∨ (k = g ∧ d < c)) → gs k ≤ i → i < gs (k + 1) → St (pa i / 30) d p → ¬ nx (8 * (pa i % 30) + d) = -1 ∧ ∃ l j, 0 ≤ l ∧ l < G ∧ gs l ≤ j ∧ j < gs (l + 1) ∧ pa j = 30 * p + nx (8 * (pa i % 30) + d) ∧ (l = 0 ∨ gf l < k ∨ (gf l = k ∧ gc l ≤ d))
def NxOk (many : Int) (nx : Int → Int) : Prop := (1 ≤ many ∧ many ≤ 30) ∧ ∀ s c, 0 ≤ s → s < many → 0 ≤ c → c < 8 → -1 ≤ nx (8 * s + c) ∧ nx (8 * s + c) < many
theorem lst_rg {Ep : Int → Int → Prop} {St : Int → Int → Int → Prop} {nx : Int → Int} {many : Int} (hst : ∀ p d q, St p d q → 0 ≤ p ∧ 0 ≤ d ∧ d < 8) (hnx : NxOk many nx) : ∀ (w : List Int) (p : Int), Pth Ep St w p → lst nx w = -1 ∨ (0 ≤ lst nx w ∧ lst nx w < many)
  | [], _, _ => Or.inr ⟨Int.le_refl _, by show (0 : Int) < many; have := hnx.1; omega⟩
  | c :: w, p, h => by
    obtain ⟨a, b, h1, h2, h3⟩ := h
    have ih := lst_rg hst hnx w a h1
    have s := hst _ _ _ h2
    rw [lst]
    by_cases z : lst nx w = -1
    · rw [if_pos z]; exact Or.inl rfl
    · rw [if_neg z]
      have := hnx.2 (lst nx w) c (by omega) (by omega) s.2.1 s.2.2
      omega
section GROUPS
variable {Ep : Int → Int → Prop} {St : Int → Int → Int → Prop} {nx pa gs gf gc : Int → Int} {G g c ps many : Int} {W : Int → List Int}
theorem gs_mono (hA : GrpA G gs ps) : ∀ (n : Nat) (k : Int), 0 ≤ k → k + n ≤ G → gs k + n ≤ gs (k + n)
  | 0, k, _, _ => by rw [show k + ((0 : Nat) : Int) = k by omega]; omega
  | n + 1, k, h0, h1 => by
    have ih := gs_mono hA n k h0 (by omega)
    have := hA.2.2.2 (k + n) (by omega) (by omega)
    rw [show k + ((n + 1 : Nat) : Int) = k + n + 1 by omega]; omega
theorem gs_le (hA : GrpA G gs ps) {k l : Int} (h0 : 0 ≤ k) (h1 : k ≤ l) (h2 : l ≤ G) : gs k + (l - k) ≤ gs l := by
  have := gs_mono hA (l - k).toNat k h0 (by omega)
  rw [show k + ((l - k).toNat : Int) = l by omega] at this
  omega
/-- the group in which a pair lies -/
theorem grp_of (hA : GrpA G gs ps) : ∀ (n : Nat) (e : Int), e = n → e ≤ G → ∀ i, 0 ≤ i → i < gs e → ∃ k, 0 ≤ k ∧ k < e ∧ gs k ≤ i ∧ i < gs (k + 1)
  | 0, e, he, h1, i, a, b => by rw [he] at b; rw [show ((0 : Nat) : Int) = 0 by omega, hA.2.1] at b; omega
  | n + 1, e, he, h1, i, a, b => by
    by_cases z : i < gs (e - 1)
    · obtain ⟨k, k1, k2, k3⟩ := grp_of hA n (e - 1) (by omega) (by omega) i a z
      exact ⟨k, k1, by omega, k3⟩
    · exact ⟨e - 1, by omega, by omega, by omega, by rw [show e - 1 + 1 = e by omega]; exact b⟩
theorem W_mono (hB : GrpB G g c gf gc W) : ∀ (N : Nat) (k l : Int), l < N → 0 ≤ k → k < l → l < G → SLt (W k) (W l)
  | 0, k, l, hN, h0, h1, _ => by omega
  | N + 1, k, l, hN, h0, h1, h2 => by
    have bl := hB.2.1 l (by omega) h2
    rw [bl.2.2.2.2.1]
    by_cases z : k = 0
    · rw [z, hB.1]; exact Or.inl (by rw [List.length_cons]; exact Nat.succ_pos _)
    · have bk := hB.2.1 k (by omega) (by omega)
      rw [bk.2.2.2.2.1]
      rcases hB.2.2 k l (by omega) h1 h2 with o | o
      · exact SLt_c (W_mono hB N (gf k) (gf l) (by omega) bk.1 o (by omega)) _ _
      · rw [o.1]; exact Or.inr ⟨rfl, Or.inr ⟨rfl, o.2⟩⟩
theorem W_le (hB : GrpB G g c gf gc W) {k l : Int} (h0 : 0 ≤ k) (h1 : k ≤ l) (h2 : l < G) : SLe (W k) (W l) := by
  by_cases e : k = l
  · rw [e]; exact Or.inl rfl
  · exact Or.inr (W_mono hB (l.toNat + 1) k l (by omega) h0 (by omega) h2)
theorem W_len (hB : GrpB G g c gf gc W) : ∀ (N : Nat) (k : Int), k < N → 0 ≤ k → k < G → ((W k).length : Int) ≤ k
  | 0, k, hN, h0, _ => by omega
  | N + 1, k, hN, h0, h1 => by
    by_cases z : k = 0
    · rw [z, hB.1]; exact Int.le_refl _
    · have bk := hB.2.1 k (by omega) h1
      have := W_len hB N (gf k) (by omega) bk.1 (by omega)
      rw [bk.2.2.2.2.1, List.length_cons]; omega
/-- every beginning that the law takes was met, by a group whose word is no later -/
theorem met_all (hA : GrpA G gs ps) (hB : GrpB G g c gf gc W) (hC : GrpC Ep St nx pa gs G W) (hD : GrpD Ep pa gs G) (hE : GrpE St nx pa gs gf gc G g c) (h00 : pa 0 = 0) (hg : 0 ≤ g) (hst : ∀ p d q, St p d q → 0 ≤ p ∧ 0 ≤ d ∧ d < 8) (hnx : NxOk many nx) :
    ∀ (w : List Int) (p : Int), (g = G ∨ (g < G ∧ w.length ≤ (W g).length)) → Pth Ep St w p → ¬ lst nx w = -1 → ∃ k i, 0 ≤ k ∧ k < G ∧ gs k ≤ i ∧ i < gs (k + 1) ∧ pa i = 30 * p + lst nx w ∧ SLe (W k) w := by
  have cl : ∀ (w : List Int) (p q : Int), Ecl Ep p q → 0 ≤ lst nx w → lst nx w < 30 → (∃ k i, 0 ≤ k ∧ k < G ∧ gs k ≤ i ∧ i < gs (k + 1) ∧ pa i = 30 * p + lst nx w ∧ SLe (W k) w) → ∃ k i, 0 ≤ k ∧ k < G ∧ gs k ≤ i ∧ i < gs (k + 1) ∧ pa i = 30 * q + lst nx w ∧ SLe (W k) w := by
    intro w p q e l0 l1 h
    refine e (fun q => ∃ k i, 0 ≤ k ∧ k < G ∧ gs k ≤ i ∧ i < gs (k + 1) ∧ pa i = 30 * q + lst nx w ∧ SLe (W k) w) h ?_
    rintro x y ⟨k, i, k1, k2, k3, k4, k5, k6⟩ exy
    have e1 : pa i / 30 = x ∧ pa i % 30 = lst nx w := by omega
    obtain ⟨j, j1, j2, j3⟩ := hD k i y k1 k2 k3 k4 (by rw [e1.1]; exact exy)
    rw [e1.2] at j3
    obtain ⟨l, l1, l2, l3, l4⟩ := grp_of hA (k + 1).toNat (k + 1) (by omega) (by omega) j j1 j2
    exact ⟨l, j, l1, by omega, l3, l4, j3, SLe_tr (W_le hB l1 (by omega) k2) k6⟩
  intro w
  induction w with
  | nil =>
    intro p hl hp hn
    refine cl [] 0 p hp (Int.le_refl _) (by show (0 : Int) < 30; decide) ⟨0, 0, by omega, by have := hA.1; omega, by rw [hA.2.1]; omega, ?_, by rw [h00]; rfl, by rw [hB.1]; exact Or.inl rfl⟩
    have := hA.2.2.2 0 (by omega) (by have := hA.1; omega)
    rw [hA.2.1] at this; omega
  | cons d w ih =>
    intro p hl hp hn
    obtain ⟨p1, p2, h1, h2, h3⟩ := hp
    have s2 := hst _ _ _ h2
    have nw : ¬ lst nx w = -1 := fun z => hn (by rw [lst, if_pos z])
    have hl2 : g = G ∨ (g < G ∧ w.length ≤ (W g).length) := by
      rcases hl with z | z
      · exact Or.inl z
      · rw [List.length_cons] at z; exact Or.inr ⟨z.1, by omega⟩
    obtain ⟨k, i, k1, k2, k3, k4, k5, k6⟩ := ih p1 hl2 h1 nw
    have ck := hC k i k1 k2 k3 k4
    have kg : k < g := by
      rcases hl with z | z
      · omega
      · by_cases y : k < g
        · exact y
        · have a1 := SLe_len (W_le hB hg (by omega : g ≤ k) k2)
          have a2 := SLe_len k6
          rw [List.length_cons] at z
          omega
    have lr := lst_rg hst hnx w p1 h1
    have m30 := hnx.1
    have e1 : pa i / 30 = p1 ∧ pa i % 30 = lst nx w := by omega
    obtain ⟨q1, l, j, l1, l2, l3, l4, l5, l6⟩ := hE k d i p2 k1 k2 s2.2.1 s2.2.2 (Or.inl kg) k3 k4 (by rw [e1.1]; exact h2)
    rw [e1.2] at l5 q1
    have ls : lst nx (d :: w) = nx (8 * lst nx w + d) := by rw [lst, if_neg nw]
    have cj := hC l j l1 l2 l3 l4
    have sle : SLe (W l) (d :: w) := by
      refine SLe_tr ?_ (SLe_c k6 (Int.le_refl d))
      by_cases z : l = 0
      · rw [z, hB.1]; exact Or.inr (Or.inl (by rw [List.length_cons]; exact Nat.succ_pos _))
      · have bl := hB.2.1 l (by omega) l2
        rw [bl.2.2.2.2.1]
        rcases l6 with l6 | l6 | l6
        · exact absurd l6 z
        · exact Or.inr (SLt_c (W_mono hB (k.toNat + 1) (gf l) k (by omega) bl.1 l6 k2) _ _)
        · rw [l6.1]; exact SLe_c (Or.inl rfl) l6.2
    have nr := lst_rg hst hnx (d :: w) p ⟨p1, p2, h1, h2, h3⟩
    exact cl (d :: w) p2 p h3 (by omega) (by omega) ⟨l, j, l1, l2, l3, l4, by rw [ls]; exact l5, sle⟩
/-- the first break that is met is the least -/
theorem brk_first (hA : GrpA G gs ps) (hB : GrpB G g c gf gc W) (hC : GrpC Ep St nx pa gs G W) (hD : GrpD Ep pa gs G) (hE : GrpE St nx pa gs gf gc G g c) (h00 : pa 0 = 0) (hg : 0 ≤ g ∧ g < G) (hst : ∀ p d q, St p d q → 0 ≤ p ∧ 0 ≤ d ∧ d < 8) (hnx : NxOk many nx)
    {i q : Int} (hi : gs g ≤ i ∧ i < gs (g + 1)) (hs : St (pa i / 30) c q) (hb : nx (8 * (pa i % 30) + c) = -1) : BrkL Ep St nx (c :: W g) := by
  have ci := hC g i hg.1 hg.2 hi.1 hi.2
  refine ⟨⟨ci.2.2.1, by rw [← ci.2.1]; exact hb, pa i / 30, q, ci.2.2.2, hs⟩, fun v hv => ?_⟩
  cases v with
  | nil => exact absurd hv (by intro h; exact h)
  | cons d v =>
    obtain ⟨v1, v2, p, p', v3, v4⟩ := hv
    by_cases lv : v.length ≤ (W g).length
    · obtain ⟨k, j, k1, k2, k3, k4, k5, k6⟩ := met_all hA hB hC hD hE h00 hg.1 hst hnx v p (Or.inr ⟨hg.2, lv⟩) v3 v1
      have s4 := hst _ _ _ v4
      have ck := hC k j k1 k2 k3 k4
      have lr := lst_rg hst hnx v p v3
      have m30 := hnx.1
      have e1 : pa j / 30 = p ∧ pa j % 30 = lst nx v := by omega
      by_cases o : k < g ∨ (k = g ∧ d < c)
      · have := (hE k d j p' k1 k2 s4.2.1 s4.2.2 o k3 k4 (by rw [e1.1]; exact v4)).1
        rw [e1.2] at this
        exact absurd v2 this
      · by_cases z : k = g
        · rw [z] at k6
          exact SLe_c k6 (by omega)
        · have := W_mono hB (k.toNat + 1) g k (by omega) hg.1 (by omega) k2
          rcases k6 with k6 | k6
          · rw [k6] at this; exact Or.inr (SLt_c this _ _)
          · exact Or.inr (SLt_c (SLt_tr this k6) _ _)
    · exact Or.inr (Or.inl (by rw [List.length_cons, List.length_cons]; omega))
theorem brk_none (hA : GrpA G gs ps) (hB : GrpB G G 0 gf gc W) (hC : GrpC Ep St nx pa gs G W) (hD : GrpD Ep pa gs G) (hE : GrpE St nx pa gs gf gc G G 0) (h00 : pa 0 = 0) (hst : ∀ p d q, St p d q → 0 ≤ p ∧ 0 ≤ d ∧ d < 8) (hnx : NxOk many nx) (v : List Int) : ¬ Brk Ep St nx v := by
  intro hv
  cases v with
  | nil => exact hv
  | cons d v =>
    obtain ⟨v1, v2, p, p', v3, v4⟩ := hv
    obtain ⟨k, j, k1, k2, k3, k4, k5, k6⟩ := met_all hA hB hC hD hE h00 (by have := hA.1; omega) hst hnx v p (Or.inl rfl) v3 v1
    have s4 := hst _ _ _ v4
    have ck := hC k j k1 k2 k3 k4
    have lr := lst_rg hst hnx v p v3
    have m30 := hnx.1
    have e1 : pa j / 30 = p ∧ pa j % 30 = lst nx v := by omega
    have := (hE k d j p' k1 k2 s4.2.1 s4.2.2 (Or.inl k2) k3 k4 (by rw [e1.1]; exact v4)).1
    rw [e1.2] at this
    exact this v2
end GROUPS
