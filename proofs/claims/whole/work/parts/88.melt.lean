/-! MELTING, pure. it: melted into; ch: children; st: the pairs that wait; m nodes -/
theorem cn_le {P Q : Int → Prop} : ∀ n : Nat, (∀ j, 0 ≤ j → j < (n : Int) → P j → Q j) → cnI P n ≤ cnI Q n
  | 0, _ => Int.le_refl _
  | n + 1, h => by
    have ih := cn_le n (fun j a b => h j a (by omega))
    rw [show ((n + 1 : Nat) : Int) = (n : Int) + 1 by omega, cnI_s _ (by omega), cnI_s _ (by omega)]
    by_cases p : P n
    · rw [iteP_pos p, iteP_pos (h n (by omega) (by omega) p)]; omega
    · rw [iteP_neg p]
      by_cases q : Q n
      · rw [iteP_pos q]; omega
      · rw [iteP_neg q]; omega
theorem cn_add {P Q : Int → Prop} {i : Int} (hi : 0 ≤ i) : ∀ n : Nat, (∀ j, 0 ≤ j → j < (n : Int) → Q j → P j ∨ j = i) → cnI Q n ≤ cnI P n + (if i < n then 1 else 0)
  | 0, _ => by rw [if_neg (by omega)]; exact Int.le_refl _
  | n + 1, h => by
    have ih := cn_add hi n (fun j a b => h j a (by omega))
    rw [show ((n + 1 : Nat) : Int) = (n : Int) + 1 by omega, cnI_s _ (by omega), cnI_s _ (by omega)]
    by_cases q : Q n
    · rw [iteP_pos q]
      rcases h n (by omega) (by omega) q with p | p
      · rw [iteP_pos p]; split at ih <;> split <;> omega
      · rw [if_neg (by omega)] at ih
        rw [if_pos (by omega)]
        by_cases p : P n
        · rw [iteP_pos p]; omega
        · rw [iteP_neg p]; omega
    · rw [iteP_neg q]
      by_cases p : P n
      · rw [iteP_pos p]; split at ih <;> split <;> omega
      · rw [iteP_neg p]; split at ih <;> split <;> omega
theorem cn_del {P Q : Int → Prop} {i : Int} (hi : 0 ≤ i) (hp : P i) : ∀ n : Nat, (∀ j, 0 ≤ j → j < (n : Int) → Q j → P j ∧ j ≠ i) → cnI Q n + (if i < n then 1 else 0) ≤ cnI P n
  | 0, _ => by rw [if_neg (by omega)]; exact Int.le_refl _
  | n + 1, h => by
    have ih := cn_del hi hp n (fun j a b => h j a (by omega))
    rw [show ((n + 1 : Nat) : Int) = (n : Int) + 1 by omega, cnI_s _ (by omega), cnI_s _ (by omega)]
    by_cases e : i = n
    · rw [if_neg (by omega)] at ih
      rw [if_pos (by omega), iteP_neg (fun q => (h n (by omega) (by omega) q).2 e.symm), iteP_pos (by rw [← e]; exact hp)]; omega
    · by_cases q : Q n
      · rw [iteP_pos q, iteP_pos (h n (by omega) (by omega) q).1]; split at ih <;> split <;> omega
      · rw [iteP_neg q]
        by_cases p : P n
        · rw [iteP_pos p]; split at ih <;> split <;> omega
        · rw [iteP_neg p]; split at ih <;> split <;> omega
theorem cn_zero {P : Int → Prop} : ∀ n : Nat, (∀ j, 0 ≤ j → j < (n : Int) → ¬ P j) → cnI P n ≤ 0
  | 0, _ => Int.le_refl _
  | n + 1, h => by
    have ih := cn_zero n (fun j a b => h j a (by omega))
    rw [show ((n + 1 : Nat) : Int) = (n : Int) + 1 by omega, cnI_s _ (by omega), iteP_neg (h n (by omega) (by omega))]; omega
def updI (f : Int → Int) (i v : Int) : Int → Int := fun j => if j = i then v else f j
theorem updI_at {f : Int → Int} {i v : Int} : updI f i v i = v := by unfold updI; rw [if_pos rfl]
theorem updI_ne {f : Int → Int} {i v j : Int} (h : j ≠ i) : updI f i v j = f j := by unfold updI; rw [if_neg h]
/-- the children of lo when the calls below c of hi have been joined to it -/
def jn (ch : Int → Int) (lo hi c : Int) : Int → Int := fun i => if (8 * lo ≤ i ∧ i < 8 * lo + c) ∧ ch i = -1 then ch (8 * hi + (i - 8 * lo)) else ch i
def pshI (ch : Int → Int) (lo hi : Int) : Nat → List (Int × Int)
  | 0 => []
  | c + 1 => if ch (8 * hi + c) = -1 ∨ ch (8 * lo + c) = -1 then pshI ch lo hi c else (ch (8 * hi + c), ch (8 * lo + c)) :: pshI ch lo hi c
def mst : Nat → (Int → Int) → (Int → Int) → List (Int × Int) → (Int → Int) × (Int → Int)
  | 0, it, ch, _ => (it, ch)
  | _ + 1, it, ch, [] => (it, ch)
  | f + 1, it, ch, (x, y) :: st =>
    if rt it x = rt it y then mst f it ch st
    else if rt it x < rt it y then mst f (updI it (rt it y) (rt it x)) (jn ch (rt it x) (rt it y) 8) (pshI ch (rt it x) (rt it y) 8 ++ st)
    else mst f (updI it (rt it x) (rt it y)) (jn ch (rt it y) (rt it x) 8) (pshI ch (rt it y) (rt it x) 8 ++ st)
theorem mst_nil {f : Nat} {it ch : Int → Int} : mst f it ch [] = (it, ch) := by cases f <;> rfl
theorem mst_eq {f : Nat} {it ch : Int → Int} {x y : Int} {st : List (Int × Int)} (h : rt it x = rt it y) : mst (f + 1) it ch ((x, y) :: st) = mst f it ch st := by
  rw [mst, if_pos h]
/-- a pair, in whatever order, whose roots are lo and hi -/
def isP (it : Int → Int) (x y lo hi : Int) : Prop := (rt it x = lo ∧ rt it y = hi) ∨ (rt it x = hi ∧ rt it y = lo)
theorem mst_ne {f : Nat} {it ch : Int → Int} {x y lo hi : Int} {st : List (Int × Int)} (h : isP it x y lo hi) (hl : lo < hi) : mst (f + 1) it ch ((x, y) :: st) = mst f (updI it hi lo) (jn ch lo hi 8) (pshI ch lo hi 8 ++ st) := by
  rcases h with ⟨a, b⟩ | ⟨a, b⟩
  · rw [mst, a, b, if_neg (by omega), if_pos hl]
  · rw [mst, a, b, if_neg (by omega), if_neg (by omega)]
def ChOk (m : Int) (ch : Int → Int) : Prop := ∀ i, 0 ≤ i → i < 8 * m → ch i = -1 ∨ (0 ≤ ch i ∧ ch i < m)
def StOk (m : Int) (st : List (Int × Int)) : Prop := ∀ p, p ∈ st → (0 ≤ p.1 ∧ p.1 < m) ∧ (0 ≤ p.2 ∧ p.2 < m)
noncomputable def Eg (m : Int) (it ch : Int → Int) : Int := cnI (fun i => it (i / 8) = i / 8 ∧ ¬ ch i = -1) (8 * m)
def MI (m : Int) (it ch : Int → Int) (st : List (Int × Int)) (t : Int) : Prop := Fo m it ∧ ChOk m ch ∧ StOk m st ∧ t + st.length + Eg m it ch ≤ 721
theorem jn_ok {m : Int} {ch : Int → Int} {lo hi c : Int} (h : ChOk m ch) (hh : 0 ≤ hi ∧ hi < m) (hc : c ≤ 8) : ChOk m (jn ch lo hi c) := by
  intro i a b
  unfold jn
  by_cases e : (8 * lo ≤ i ∧ i < 8 * lo + c) ∧ ch i = -1
  · rw [if_pos e]; exact h _ (by omega) (by omega)
  · rw [if_neg e]; exact h i a b
theorem pshI_ok {m : Int} {ch : Int → Int} {lo hi : Int} (h : ChOk m ch) (hl : 0 ≤ lo ∧ lo < m) (hh : 0 ≤ hi ∧ hi < m) : ∀ c : Nat, c ≤ 8 → StOk m (pshI ch lo hi c)
  | 0, _ => fun p hp => by cases hp
  | c + 1, hc => fun p hp => by
    have ih := pshI_ok h hl hh c (by omega)
    unfold pshI at hp
    by_cases e : ch (8 * hi + c) = -1 ∨ ch (8 * lo + c) = -1
    · rw [if_pos e] at hp; exact ih p hp
    · rw [if_neg e] at hp
      rcases List.mem_cons.1 hp with z | z
      · rw [z]
        have a := h (8 * hi + c) (by omega) (by omega)
        have b := h (8 * lo + c) (by omega) (by omega)
        exact ⟨by show 0 ≤ ch _ ∧ ch _ < m; omega, by show 0 ≤ ch _ ∧ ch _ < m; omega⟩
      · exact ih p z
theorem pshI_len {ch : Int → Int} {lo hi : Int} : ∀ c d : Nat, c ≤ d → (pshI ch lo hi c).length ≤ (pshI ch lo hi d).length
  | c, 0, h => by rw [show c = 0 by omega]; exact Nat.le_refl _
  | c, d + 1, h => by
    by_cases e : c = d + 1
    · rw [e]; exact Nat.le_refl _
    · have ih := pshI_len (ch := ch) (lo := lo) (hi := hi) c d (by omega)
      have : (pshI ch lo hi d).length ≤ (pshI ch lo hi (d + 1)).length := by
        conv => rhs; unfold pshI
        split
        · exact Nat.le_refl _
        · exact Nat.le_succ _
      omega
theorem updI_fo {m : Int} {it : Int → Int} {lo hi : Int} (h : Fo m it) (h0 : 0 ≤ lo) (hl : lo < hi) : Fo m (updI it hi lo) := by
  intro x a b
  unfold updI
  by_cases e : x = hi
  · rw [if_pos e]; omega
  · rw [if_neg e]; exact h x a b
theorem rt_upd {m : Int} {it : Int → Int} {lo hi : Int} (h : Fo m it) (h0 : 0 ≤ lo) (hl : lo < hi) (el : it lo = lo) (eh : it hi = hi) : ∀ (N : Nat) (x : Int), x < N → 0 ≤ x → x < m → rt (updI it hi lo) x = if rt it x = hi then lo else rt it x
  | 0, x, a, b, _ => by omega
  | N + 1, x, a, b, c => by
    have h' := updI_fo h h0 hl
    by_cases e : it x = x
    · by_cases e2 : x = hi
      · rw [rt_self e, if_pos e2, rt_go h' b c, e2, updI_at]
        exact rt_self (by rw [updI_ne (by omega)]; exact el)
      · rw [rt_self e, if_neg e2]; exact rt_self (by rw [updI_ne e2]; exact e)
    · have e2 : x ≠ hi := fun q => e (by rw [q]; exact eh)
      have f := h x b c
      rw [rt_go h' b c, updI_ne e2, rt_go h b c]
      exact rt_upd h h0 hl el eh N (it x) (by omega) f.1 (by omega)
theorem rt_up {m : Int} {it : Int → Int} {lo hi : Int} (h : Fo m it) (h0 : 0 ≤ lo) (hl : lo < hi) (el : it lo = lo) (eh : it hi = hi) {x : Int} (a : 0 ≤ x) (b : x < m) : rt (updI it hi lo) x = if rt it x = hi then lo else rt it x := rt_upd h h0 hl el eh (x.toNat + 1) x (by omega) a b
theorem rt_root {m : Int} {it : Int → Int} (h : Fo m it) {x : Int} (a : 0 ≤ x) (b : x < m) : rt it x = x ↔ it x = x := by
  refine ⟨fun e => ?_, rt_self⟩
  have := (rt_ok h a b).2.2
  rw [e] at this; exact this
/-- a joining uses up a step for each pair -/
theorem eg_step {m : Int} {it ch : Int → Int} {lo hi : Int} (hm : 0 ≤ m) (h0 : 0 ≤ lo) (hl : lo < hi) (hh : hi < m) (eh : it hi = hi) (el : it lo = lo) : ((pshI ch lo hi 8).length : Int) + Eg m (updI it hi lo) (jn ch lo hi 8) ≤ Eg m it ch := by
  have key : ∀ c : Nat, c ≤ 8 → ((pshI ch lo hi c).length : Int) + cnI (fun i => ¬ jn ch lo hi c i = -1 ∧ ((it (i / 8) = i / 8 ∧ ¬ i / 8 = hi) ∨ (i / 8 = hi ∧ (c : Int) ≤ i % 8))) ((8 * m).toNat : Nat) ≤ Eg m it ch := by
    intro c
    induction c with
    | zero =>
      intro _
      have := cn_le (P := fun i => ¬ jn ch lo hi ((0 : Nat) : Int) i = -1 ∧ ((it (i / 8) = i / 8 ∧ ¬ i / 8 = hi) ∨ (i / 8 = hi ∧ ((0 : Nat) : Int) ≤ i % 8))) (Q := fun i => it (i / 8) = i / 8 ∧ ¬ ch i = -1) (8 * m).toNat (fun j a b ⟨p, q⟩ => by
        have e : jn ch lo hi ((0 : Nat) : Int) j = ch j := by unfold jn; rw [if_neg (by omega)]
        rw [e] at p
        refine ⟨?_, p⟩
        rcases q with q | q
        · exact q.1
        · rw [q.1]; exact eh)
      unfold Eg
      have e : ((pshI ch lo hi 0).length : Int) = 0 := rfl
      rw [show ((8 * m).toNat : Int) = 8 * m by omega] at this ⊢
      omega
    | succ c ih =>
      intro hc
      have ih := ih (by omega)
      have jo : ∀ i, i ≠ 8 * lo + c → jn ch lo hi ((c + 1 : Nat) : Int) i = jn ch lo hi (c : Int) i := by
        intro i hi2
        unfold jn
        by_cases e : (8 * lo ≤ i ∧ i < 8 * lo + (c : Int)) ∧ ch i = -1
        · rw [if_pos e, if_pos ⟨by omega, e.2⟩]
        · rw [if_neg e, if_neg (fun q => e ⟨by omega, q.2⟩)]
      have jc : jn ch lo hi (c : Int) (8 * lo + c) = ch (8 * lo + c) := by unfold jn; rw [if_neg (by omega)]
      have jh : ∀ d : Nat, d ≤ 8 → jn ch lo hi (d : Int) (8 * hi + c) = ch (8 * hi + c) := fun d hd => by unfold jn; rw [if_neg (by omega)]
      have hir : (8 * hi + (c : Int)) / 8 = hi ∧ (8 * hi + (c : Int)) % 8 = c := by omega
      have lor : (8 * lo + (c : Int)) / 8 = lo ∧ (8 * lo + (c : Int)) % 8 = c := by omega
      by_cases g : ch (8 * hi + c) = -1
      · have hp : pshI ch lo hi (c + 1) = pshI ch lo hi c := by rw [pshI, if_pos (Or.inl g)]
        rw [hp]
        refine Int.le_trans (Int.add_le_add_left (cn_le _ (fun j a b ⟨p, q⟩ => ?_)) _) ih
        have ej : jn ch lo hi ((c + 1 : Nat) : Int) j = jn ch lo hi (c : Int) j := by
          by_cases e : j = 8 * lo + c
          · subst e
            rw [jc]; unfold jn
            by_cases e2 : ch (8 * lo + c) = -1
            · rw [if_pos ⟨by omega, e2⟩, e2, show 8 * hi + (8 * lo + (c : Int) - 8 * lo) = 8 * hi + c by omega]; exact g
            · rw [if_neg (fun q => e2 q.2)]
          · exact jo j e
        rw [ej] at p
        exact ⟨p, by omega⟩
      · by_cases l : ch (8 * lo + c) = -1
        · have hp : pshI ch lo hi (c + 1) = pshI ch lo hi c := by rw [pshI, if_pos (Or.inr l)]
          rw [hp]
          have d1 := cn_del (P := fun i => ¬ jn ch lo hi (c : Int) i = -1 ∧ ((it (i / 8) = i / 8 ∧ ¬ i / 8 = hi) ∨ (i / 8 = hi ∧ (c : Int) ≤ i % 8))) (Q := fun i => (¬ jn ch lo hi (c : Int) i = -1 ∧ ((it (i / 8) = i / 8 ∧ ¬ i / 8 = hi) ∨ (i / 8 = hi ∧ (c : Int) ≤ i % 8))) ∧ i ≠ 8 * hi + c) (i := 8 * hi + c) (by omega) ⟨by rw [jh c (by omega)]; exact g, Or.inr (by omega)⟩ (8 * m).toNat (fun j a b q => q)
          have d2 := cn_add (P := fun i => (¬ jn ch lo hi (c : Int) i = -1 ∧ ((it (i / 8) = i / 8 ∧ ¬ i / 8 = hi) ∨ (i / 8 = hi ∧ (c : Int) ≤ i % 8))) ∧ i ≠ 8 * hi + c) (Q := fun i => ¬ jn ch lo hi ((c + 1 : Nat) : Int) i = -1 ∧ ((it (i / 8) = i / 8 ∧ ¬ i / 8 = hi) ∨ (i / 8 = hi ∧ ((c + 1 : Nat) : Int) ≤ i % 8))) (i := 8 * lo + c) (by omega) (8 * m).toNat (fun j a b ⟨p, q⟩ => by
            by_cases e : j = 8 * lo + c
            · exact Or.inr e
            · rw [jo j e] at p
              exact Or.inl ⟨⟨p, by omega⟩, by omega⟩)
          rw [if_pos (by omega)] at d1 d2
          omega
        · have hp : pshI ch lo hi (c + 1) = (ch (8 * hi + c), ch (8 * lo + c)) :: pshI ch lo hi c := by rw [pshI, if_neg (by omega)]
          rw [hp]
          have d1 := cn_del (P := fun i => ¬ jn ch lo hi (c : Int) i = -1 ∧ ((it (i / 8) = i / 8 ∧ ¬ i / 8 = hi) ∨ (i / 8 = hi ∧ (c : Int) ≤ i % 8))) (Q := fun i => ¬ jn ch lo hi ((c + 1 : Nat) : Int) i = -1 ∧ ((it (i / 8) = i / 8 ∧ ¬ i / 8 = hi) ∨ (i / 8 = hi ∧ ((c + 1 : Nat) : Int) ≤ i % 8))) (i := 8 * hi + c) (by omega) ⟨by rw [jh c (by omega)]; exact g, Or.inr (by omega)⟩ (8 * m).toNat (fun j a b ⟨p, q⟩ => by
            have ej : jn ch lo hi ((c + 1 : Nat) : Int) j = jn ch lo hi (c : Int) j := by
              by_cases e : j = 8 * lo + c
              · subst e
                rw [jc]; unfold jn
                rw [if_neg (fun q => l q.2)]
              · exact jo j e
            rw [ej] at p
            exact ⟨⟨p, by omega⟩, by omega⟩)
          rw [if_pos (by omega)] at d1
          have : (((ch (8 * hi + c), ch (8 * lo + c)) :: pshI ch lo hi c).length : Int) = (pshI ch lo hi c).length + 1 := by rw [List.length_cons]; omega
          omega
  have k8 := key 8 (Nat.le_refl _)
  have := cn_le (P := fun i => updI it hi lo (i / 8) = i / 8 ∧ ¬ jn ch lo hi 8 i = -1) (Q := fun i => ¬ jn ch lo hi ((8 : Nat) : Int) i = -1 ∧ ((it (i / 8) = i / 8 ∧ ¬ i / 8 = hi) ∨ (i / 8 = hi ∧ ((8 : Nat) : Int) ≤ i % 8))) (8 * m).toNat (fun j a b ⟨p, q⟩ => by
    refine ⟨q, Or.inl ?_⟩
    by_cases e : j / 8 = hi
    · rw [e, updI_at] at p; omega
    · rw [updI_ne e] at p; exact ⟨p, e⟩)
  rw [show ((8 * m).toNat : Int) = 8 * m by omega] at this k8
  unfold Eg at k8 ⊢
  omega
theorem MI_eq {m : Int} {it ch : Int → Int} {x y : Int} {st : List (Int × Int)} {t : Int} (h : MI m it ch ((x, y) :: st) t) : MI m it ch st (t + 1) := by
  refine ⟨h.1, h.2.1, fun p hp => h.2.2.1 p (List.mem_cons_of_mem _ hp), ?_⟩
  have := h.2.2.2
  rw [List.length_cons] at this
  omega
theorem isP_ok {m : Int} {it : Int → Int} {x y lo hi : Int} (h : Fo m it) (hx : 0 ≤ x ∧ x < m) (hy : 0 ≤ y ∧ y < m) (hp : isP it x y lo hi) (hl : lo < hi) : 0 ≤ lo ∧ hi < m ∧ it lo = lo ∧ it hi = hi := by
  have a := rt_ok h hx.1 hx.2
  have b := rt_ok h hy.1 hy.2
  rcases hp with ⟨p, q⟩ | ⟨p, q⟩
  · rw [p] at a; rw [q] at b; exact ⟨a.1, by omega, a.2.2, b.2.2⟩
  · rw [p] at a; rw [q] at b; exact ⟨b.1, by omega, b.2.2, a.2.2⟩
theorem MI_ne {m : Int} {it ch : Int → Int} {x y lo hi : Int} {st : List (Int × Int)} {t : Int} (h : MI m it ch ((x, y) :: st) t) (hp : isP it x y lo hi) (hl : lo < hi) : MI m (updI it hi lo) (jn ch lo hi 8) (pshI ch lo hi 8 ++ st) (t + 1) := by
  have g := h.2.2.1 (x, y) (List.mem_cons_self ..)
  obtain ⟨a, b, c, d⟩ := isP_ok h.1 g.1 g.2 hp hl
  refine ⟨updI_fo h.1 a hl, jn_ok h.2.1 (by omega) (by omega), fun p hp => ?_, ?_⟩
  · rcases List.mem_append.1 hp with z | z
    · exact pshI_ok h.2.1 (by omega) (by omega) 8 (by omega) p z
    · exact h.2.2.1 p (List.mem_cons_of_mem _ z)
  · have e := eg_step (it := it) (ch := ch) (by omega : 0 ≤ m) a hl b d c
    have := h.2.2.2
    rw [List.length_cons] at this
    rw [List.length_append]
    omega
/-- the tree's steps are steps of what was melted: true of every f that holds what waits as one -/
def EH (m : Int) (c0 it ch : Int → Int) (st : List (Int × Int)) : Prop := ∀ f : Int → Int, (∀ x, 0 ≤ x → x < m → f (rt it x) = f x) → (∀ p, p ∈ st → f p.1 = f p.2) → ∀ x c, 0 ≤ x → x < m → 0 ≤ c → c < 8 → ¬ c0 (8 * x + c) = -1 → ¬ ch (8 * rt it x + c) = -1 ∧ f (ch (8 * rt it x + c)) = f (c0 (8 * x + c))
theorem EH_eq {m : Int} {c0 it ch : Int → Int} {x y : Int} {st : List (Int × Int)} (hx : 0 ≤ x ∧ x < m) (hy : 0 ≤ y ∧ y < m) (h : EH m c0 it ch ((x, y) :: st)) (e : rt it x = rt it y) : EH m c0 it ch st := by
  intro f h1 h2
  refine h f h1 (fun p hp => ?_)
  rcases List.mem_cons.1 hp with z | z
  · rw [z]; show f x = f y
    rw [← h1 x hx.1 hx.2, ← h1 y hy.1 hy.2, e]
  · exact h2 p z
theorem pshI_mem {ch : Int → Int} {lo hi : Int} : ∀ (d : Nat) (c : Nat), c < d → ¬ ch (8 * hi + c) = -1 → ¬ ch (8 * lo + c) = -1 → (ch (8 * hi + c), ch (8 * lo + c)) ∈ pshI ch lo hi d
  | 0, c, h, _, _ => by omega
  | d + 1, c, h, p, q => by
    unfold pshI
    by_cases e : c = d
    · subst e; rw [if_neg (by omega)]; exact List.mem_cons_self ..
    · have ih := pshI_mem d c (by omega) p q
      split
      · exact ih
      · exact List.mem_cons_of_mem _ ih
theorem EH_ne {m : Int} {c0 it ch : Int → Int} {x y lo hi : Int} {st : List (Int × Int)} (hF : Fo m it) (hx : 0 ≤ x ∧ x < m) (hy : 0 ≤ y ∧ y < m) (h : EH m c0 it ch ((x, y) :: st)) (hp : isP it x y lo hi) (hl : lo < hi) : EH m c0 (updI it hi lo) (jn ch lo hi 8) (pshI ch lo hi 8 ++ st) := by
  obtain ⟨q1, q2, q3, q4⟩ := isP_ok hF hx hy hp hl
  intro f h1 h2
  have ru := fun z (a : 0 ≤ z) (b : z < m) => rt_up hF q1 hl q3 q4 a b
  have fh : f hi = f lo := by
    have := h1 hi (by omega) q2
    rw [ru hi (by omega) q2, rt_self q4, if_pos rfl] at this
    exact this.symm
  have g1 : ∀ z, 0 ≤ z → z < m → f (rt it z) = f z := by
    intro z a b
    have := h1 z a b
    rw [ru z a b] at this
    by_cases e : rt it z = hi
    · rw [if_pos e] at this; rw [e, fh]; exact this
    · rw [if_neg e] at this; exact this
  have g2 : ∀ p, p ∈ (x, y) :: st → f p.1 = f p.2 := by
    intro p hp2
    rcases List.mem_cons.1 hp2 with z | z
    · rw [z]; show f x = f y
      rw [← g1 x hx.1 hx.2, ← g1 y hy.1 hy.2]
      rcases hp with ⟨a, b⟩ | ⟨a, b⟩
      · rw [a, b, fh]
      · rw [a, b, fh]
    · exact h2 p (List.mem_append_right _ z)
  intro z c a b a' b' hc
  obtain ⟨w1, w2⟩ := h f g1 g2 z c a b a' b' hc
  rw [ru z a b]
  have rz := rt_ok hF a b
  by_cases e : rt it z = hi
  · rw [if_pos e]
    rw [e] at w1 w2
    unfold jn
    by_cases e2 : ch (8 * lo + c) = -1
    · rw [if_pos ⟨by omega, e2⟩, show 8 * hi + (8 * lo + c - 8 * lo) = 8 * hi + c by omega]; exact ⟨w1, w2⟩
    · rw [if_neg (fun q => e2 q.2)]
      refine ⟨e2, ?_⟩
      have := h2 _ (List.mem_append_left _ (pshI_mem (ch := ch) (lo := lo) (hi := hi) 8 c.toNat (by omega) (by rw [show (c.toNat : Int) = c by omega]; exact w1) (by rw [show (c.toNat : Int) = c by omega]; exact e2)))
      simp only [show (c.toNat : Int) = c by omega] at this
      rw [← this]; exact w2
  · rw [if_neg e]
    unfold jn
    rw [if_neg (fun q => by
      have : rt it z = lo := by omega
      rw [this] at w1
      exact w1 (by rw [← this]; exact q.2))]
    exact ⟨w1, w2⟩
/-- what a melting leaves -/
theorem mst_ok {m : Int} {c0 : Int → Int} : ∀ (f : Nat) (it ch : Int → Int) (st : List (Int × Int)) (t : Int), t + f = 721 → MI m it ch st t → EH m c0 it ch st →
    (∃ t2, t ≤ t2 ∧ MI m (mst f it ch st).1 (mst f it ch st).2 [] t2) ∧ EH m c0 (mst f it ch st).1 (mst f it ch st).2 [] ∧ (∀ x, ¬ it x = x → ¬ (mst f it ch st).1 x = x)
  | 0, it, ch, st, t, ht, h, e => by
    have h4 := h.2.2.2
    have eg : 0 ≤ Eg m it ch := by
      unfold Eg
      by_cases m0 : 0 ≤ 8 * m
      · exact (cnI_rg _ m0).1
      · unfold cnI; rw [show (8 * m).toNat = 0 by omega]; exact Int.le_refl _
    have s : st = [] := List.eq_nil_of_length_eq_zero (by omega)
    subst s
    exact ⟨⟨t, Int.le_refl _, h⟩, e, fun x hx => hx⟩
  | f + 1, it, ch, [], t, ht, h, e => ⟨⟨t, Int.le_refl _, h⟩, e, fun x hx => hx⟩
  | f + 1, it, ch, (x, y) :: st, t, ht, h, e => by
    have g := h.2.2.1 (x, y) (List.mem_cons_self ..)
    by_cases q : rt it x = rt it y
    · rw [mst_eq q]
      obtain ⟨⟨t2, a1, a2⟩, b⟩ := mst_ok f it ch st (t + 1) (by omega) (MI_eq h) (EH_eq g.1 g.2 e q)
      exact ⟨⟨t2, by omega, a2⟩, b⟩
    · obtain ⟨lo, hi, hp, hl⟩ : ∃ lo hi, isP it x y lo hi ∧ lo < hi := by
        rcases Int.lt_or_gt_of_ne q with z | z
        · exact ⟨_, _, Or.inl ⟨rfl, rfl⟩, z⟩
        · exact ⟨_, _, Or.inr ⟨rfl, rfl⟩, z⟩
      rw [mst_ne hp hl]
      obtain ⟨⟨t2, a1, a2⟩, b, c⟩ := mst_ok f _ _ _ (t + 1) (by omega) (MI_ne h hp hl) (EH_ne h.1 g.1 g.2 e hp hl)
      refine ⟨⟨t2, by omega, a2⟩, b, fun z hz => c z ?_⟩
      unfold updI
      by_cases ez : z = hi
      · rw [if_pos ez]; omega
      · rw [if_neg ez]; exact hz
/-- the melted node stands no more -/
theorem mst_low {m : Int} {c0 it ch : Int → Int} {f : Nat} {k x : Int} (hf : f = 720) (h : MI m it ch [(k, x)] 0) (e : EH m c0 it ch [(k, x)]) (hk : k < x) (hx : it x = x) : ¬ (mst (f + 1) it ch [(k, x)]).1 x = x := by
  have g := h.2.2.1 (k, x) (List.mem_cons_self ..)
  have rk := rt_ok h.1 g.1.1 g.1.2
  have hp : isP it k x (rt it k) x := Or.inl ⟨rfl, rt_self hx⟩
  have hk2 : rt it k ≤ k := rk.2.1
  have hl : rt it k < x := by omega
  rw [mst_ne hp hl]
  refine (mst_ok f _ _ _ 1 (by omega) (MI_ne h hp hl) (EH_ne h.1 g.1 g.2 e hp hl)).2.2 x ?_
  rw [updI_at]; omega
/-- a tree has fewer steps than nodes -/
theorem eg_tree {n m : Int} {cu ca ch pr lc : Int → Int} (h : TrOk n cu ca m ch pr lc) : Eg m (fun x => x) ch ≤ m - 1 := by
  have h1 := h.1
  have sl : ∀ i, 0 ≤ i → i < 8 * m → ch i = -1 ∨ (1 ≤ ch i ∧ ch i < m ∧ pr (ch i) = i / 8 ∧ lc (ch i) = i % 8) := fun i a b => by
    have := h.2.2.1 (i / 8) (i % 8) (by omega) (by omega) (by omega) (by omega)
    rw [show 8 * (i / 8) + i % 8 = i by omega] at this; exact this
  have key : ∀ j : Nat, (j : Int) + 1 ≤ m → cnI (fun i => ¬ ch i = -1 ∧ ch i < (j : Int) + 1) ((8 * m).toNat : Nat) ≤ j := by
    intro j
    induction j with
    | zero =>
      intro _
      exact cn_zero _ (fun i a b ⟨p, q⟩ => by have := sl i a (by omega); omega)
    | succ j ih =>
      intro hj
      have ih := ih (by omega)
      have bj := h.2.1 ((j : Int) + 1) (by omega) (by omega)
      have := cn_add (P := fun i => ¬ ch i = -1 ∧ ch i < (j : Int) + 1) (Q := fun i => ¬ ch i = -1 ∧ ch i < ((j + 1 : Nat) : Int) + 1) (i := 8 * pr ((j : Int) + 1) + lc ((j : Int) + 1)) (by omega) (8 * m).toNat (fun i a b ⟨p, q⟩ => by
        by_cases e : ch i = (j : Int) + 1
        · right
          have := sl i a (by omega)
          rw [e] at this
          omega
        · exact Or.inl ⟨p, by omega⟩)
      split at this <;> omega
  have k := key (m - 1).toNat (by omega)
  have := cn_le (P := fun i => (fun x : Int => x) (i / 8) = i / 8 ∧ ¬ ch i = -1) (Q := fun i => ¬ ch i = -1 ∧ ch i < ((m - 1).toNat : Int) + 1) (8 * m).toNat (fun i a b ⟨p, q⟩ => ⟨q, by have := sl i a (by omega); omega⟩)
  rw [show ((8 * m).toNat : Int) = 8 * m by omega] at this k
  unfold Eg
  omega
theorem EH_0 {m : Int} {ch : Int → Int} : EH m ch (fun x => x) ch [] := by
  intro f h1 h2 x c a b a' b' hc
  have e : rt (fun x : Int => x) x = x := rt_self rfl
  rw [e]; exact ⟨hc, rfl⟩
