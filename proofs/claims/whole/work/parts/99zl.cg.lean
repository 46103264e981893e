/-! COMPARING, pure: the two laws agree on the states that they have -/
theorem zc_cg {P P' : Int → Prop} {n : Int} (hn : 0 ≤ n) (h : ∀ i, 0 ≤ i → i < n → (P i ↔ P' i)) : cnI P n = cnI P' n := by
  obtain ⟨k, rfl⟩ : ∃ k : Nat, n = k := ⟨n.toNat, by omega⟩
  clear hn
  induction k with
  | zero => rfl
  | succ k ih =>
    have e : ((k + 1 : Nat) : Int) = (k : Int) + 1 := by omega
    have q := h k (by omega) (by omega)
    rw [e, cnI_s _ (by omega), cnI_s _ (by omega), ih (fun i a b => h i a (by omega))]
    by_cases z : P k
    · rw [iteP_pos z, iteP_pos (q.1 z)]
    · rw [iteP_neg z, iteP_neg (fun y => z (q.2 y))]
theorem zc_cut {P : Int → Prop} {k : Int} (hk : 0 ≤ k) : ∀ d : Nat, (∀ i, k ≤ i → i < k + d → ¬ P i) → cnI P (k + d) = cnI P k
  | 0, _ => by rw [show k + ((0 : Nat) : Int) = k by omega]
  | d + 1, h => by
    have ih := zc_cut hk d (fun i a b => h i a (by omega))
    rw [show k + ((d + 1 : Nat) : Int) = (k + (d : Int)) + 1 by omega, cnI_s _ (by omega), ih, iteP_neg (h (k + d) (by omega) (by omega))]
    omega
theorem iteP_cg {α : Type} {P P' : Prop} {a b a' b' : α} (h : P ↔ P') (ha : P → a = a') (hb : ¬ P → b = b') : iteP P a b = iteP P' a' b' := by
  by_cases z : P
  · rw [iteP_pos z, iteP_pos (h.1 z)]; exact ha z
  · rw [iteP_neg z, iteP_neg (fun y => z (h.2 y))]; exact hb z
section NX
variable {ls : Int} {nx nx' hd : Int → Int} {n : Int}
theorem nx_ok (hn : okN2 ls nx) (e : ∀ i, 0 ≤ i → i < 8 * ls → nx' i = nx i) : okN2 ls nx' := ⟨hn.1, hn.2.1, fun s c a b a' b' => by rw [e _ (by omega) (by omega)]; exact hn.2.2 s c a b a' b'⟩
theorem tk_cg (hn : okN2 ls nx) (hh : ∀ i, 0 ≤ i → i < n → 0 ≤ hd i ∧ hd i < 8) (e : ∀ i, 0 ≤ i → i < 8 * ls → nx' i = nx i) : ∀ (f : Nat) (i s : Int), 0 ≤ i → 0 ≤ s → s < ls → tkP nx' hd n f i s = tkP nx hd n f i s
  | 0, _, _, _, _, _ => rfl
  | f + 1, i, s, a, b, c => by
    show (if i < n then (if nx' (8 * s + hd i) = -1 then i else tkP nx' hd n f (i + 1) (nx' (8 * s + hd i))) else i) = (if i < n then (if nx (8 * s + hd i) = -1 then i else tkP nx hd n f (i + 1) (nx (8 * s + hd i))) else i)
    by_cases z : i < n
    · rw [if_pos z, if_pos z]
      have q := hh i a z
      have r := hn.2.2 s (hd i) b c q.1 q.2
      rw [e _ (by omega) (by omega)]
      by_cases y : nx (8 * s + hd i) = -1
      · rw [if_pos y, if_pos y]
      · rw [if_neg y, if_neg y]
        exact tk_cg hn hh e f (i + 1) _ (by omega) (by omega) (by omega)
    · rw [if_neg z, if_neg z]
theorem ini_cg (e : ∀ i, 0 ≤ i → i < 8 * ls → nx' i = nx i) {g : Int → Int} {x s : Int} (hx : 0 ≤ x ∧ x < 8) (hs : 0 ≤ s ∧ s < ls) : ini1 nx' g x s = ini1 nx g x s := by
  unfold ini1
  rw [e (8 * s + x) (by omega) (by omega)]
theorem COk_nx (hh : ∀ i, 0 ≤ i → i < n → 0 ≤ hd i ∧ hd i < 8) (e : ∀ i, 0 ≤ i → i < 8 * ls → nx' i = nx i) {cost : Int → Int → Int} (h : COk ls nx' hd n 0 cost) : COk ls nx hd n 0 cost := by
  refine ⟨h.1, fun i a b => ?_, h.2.2⟩
  exact MS_congr (fun s c x y x' y' => (e _ (by omega) (by omega)).symm) (fun s x y => (ini_cg e (hh i a b) ⟨x, y⟩).symm) (h.2.1 i a b)
theorem fst8_cg {P P' : Int → Prop} (h : ∀ c, 0 ≤ c → c < 8 → (P c ↔ P' c)) : fst8 P = fst8 P' := by
  unfold fst8
  exact iteP_cg (h 0 (by decide) (by decide)) (fun _ => rfl) (fun _ => iteP_cg (h 1 (by decide) (by decide)) (fun _ => rfl) (fun _ => iteP_cg (h 2 (by decide) (by decide)) (fun _ => rfl) (fun _ => iteP_cg (h 3 (by decide) (by decide)) (fun _ => rfl) (fun _ => iteP_cg (h 4 (by decide) (by decide)) (fun _ => rfl) (fun _ => iteP_cg (h 5 (by decide) (by decide)) (fun _ => rfl) (fun _ => iteP_cg (h 6 (by decide) (by decide)) (fun _ => rfl) (fun _ => rfl)))))))
theorem wlk_cg (hn : okN2 ls nx) (hh : ∀ i, 0 ≤ i → i < n → 0 ≤ hd i ∧ hd i < 8) (h0 : 0 ≤ n) (e : ∀ i, 0 ≤ i → i < 8 * ls → nx' i = nx i) {cost cost' : Int → Int → Int} (h : COk ls nx hd n 0 cost) (ec : ∀ i s, 0 ≤ i → i ≤ n → 0 ≤ s → s < ls → cost' i s = cost i s) : ∀ t : Nat, wlk nx' hd cost' n t = wlk nx hd cost n t
  | 0 => rfl
  | t + 1 => by
    have ih := wlk_cg hn hh h0 e h ec t
    have ok := wlk_ok hn hh h0 h t
    show iteP ((wlk nx' hd cost' n t).1 < n) (wst nx' hd cost' (wlk nx' hd cost' n t)) (wlk nx' hd cost' n t) = iteP ((wlk nx hd cost n t).1 < n) (wst nx hd cost (wlk nx hd cost n t)) (wlk nx hd cost n t)
    rw [ih]
    generalize wlk nx hd cost n t = q at ok ⊢
    refine iteP_cg Iff.rfl (fun z => ?_) (fun _ => rfl)
    obtain ⟨⟨i0, i1⟩, ⟨s0, s1⟩, -⟩ := ok
    have hq := hh q.1 i0 z
    have en : ∀ c, 0 ≤ c → c < 8 → nx' (8 * q.2.1 + c) = nx (8 * q.2.1 + c) := fun c a b => e _ (by omega) (by omega)
    have rn : ∀ c, 0 ≤ c → c < 8 → -1 ≤ nx (8 * q.2.1 + c) ∧ nx (8 * q.2.1 + c) < ls := fun c a b => hn.2.2 q.2.1 c s0 s1 a b
    have k1 : kpP nx' hd cost' q.1 q.2.1 ↔ kpP nx hd cost q.1 q.2.1 := by
      unfold kpP
      rw [en _ hq.1 hq.2, ec q.1 q.2.1 i0 i1 s0 s1]
      have r := rn _ hq.1 hq.2
      constructor
      · intro y
        rw [ec _ _ (by omega) (by omega) y.1 r.2] at y; exact y
      · intro y
        rw [ec _ _ (by omega) (by omega) y.1 r.2]; exact y
    have k2 : otP cost' q.1 q.2.1 ↔ otP cost q.1 q.2.1 := by
      unfold otP
      rw [ec q.1 q.2.1 i0 i1 s0 s1, ec (q.1 + 1) q.2.1 (by omega) (by omega) s0 s1]
    have k3 : fst8 (ptP nx' cost' q.1 q.2.1) = fst8 (ptP nx cost q.1 q.2.1) := fst8_cg (fun c a b => by
      unfold ptP
      rw [en c a b, ec q.1 q.2.1 i0 i1 s0 s1]
      have r := rn c a b
      constructor
      · intro y
        rw [ec _ _ i0 i1 y.1 r.2] at y; exact y
      · intro y
        rw [ec _ _ i0 i1 y.1 r.2]; exact y)
    have f8 : 0 ≤ fst8 (ptP nx cost q.1 q.2.1) ∧ fst8 (ptP nx cost q.1 q.2.1) < 8 := by
      unfold fst8
      repeat' (first | (unfold iteP; split) | omega)
    unfold wst
    rw [k3, en _ hq.1 hq.2, en _ f8.1 f8.2]
    exact iteP_cg k1 (fun _ => rfl) (fun _ => iteP_cg k2 (fun _ => rfl) (fun _ => rfl))
end NX
section BX
variable {many : Int} {nx nx' : Int → Int} {Ep : Int → Int → Prop} {St : Int → Int → Int → Prop}
theorem lst_cg (hN : NxOk many nx) (e : ∀ i, 0 ≤ i → i < 8 * many → nx' i = nx i) : ∀ w : List Int, (∀ c ∈ w, 0 ≤ c ∧ c < 8) → lst nx' w = lst nx w ∧ (lst nx w = -1 ∨ (0 ≤ lst nx w ∧ lst nx w < many))
  | [], _ => ⟨rfl, Or.inr ⟨Int.le_refl _, by have := hN.1.1; show (0 : Int) < many; omega⟩⟩
  | c :: w, h => by
    obtain ⟨i1, i2⟩ := lst_cg hN e w (fun d hd => h d (List.mem_cons_of_mem _ hd))
    have hc := h c List.mem_cons_self
    show (if lst nx' w = -1 then -1 else nx' (8 * lst nx' w + c)) = (if lst nx w = -1 then -1 else nx (8 * lst nx w + c)) ∧ ((if lst nx w = -1 then -1 else nx (8 * lst nx w + c)) = -1 ∨ (0 ≤ (if lst nx w = -1 then -1 else nx (8 * lst nx w + c)) ∧ (if lst nx w = -1 then -1 else nx (8 * lst nx w + c)) < many))
    rw [i1]
    by_cases z : lst nx w = -1
    · rw [if_pos z, if_pos z]; exact ⟨rfl, Or.inl rfl⟩
    · rw [if_neg z, if_neg z]
      have r : 0 ≤ lst nx w ∧ lst nx w < many := by omega
      have q := hN.2 (lst nx w) c r.1 r.2 hc.1 hc.2
      exact ⟨e _ (by omega) (by omega), by omega⟩
theorem Pth_let (hst : ∀ p d q, St p d q → 0 ≤ d ∧ d < 8) : ∀ (w : List Int) (q : Int), Pth Ep St w q → ∀ c ∈ w, 0 ≤ c ∧ c < 8
  | [], _, _, c, hc => by cases hc
  | d :: w, q, h, c, hc => by
    obtain ⟨p, p', h1, h2, h3⟩ := h
    rcases List.mem_cons.mp hc with rfl | hc
    · exact hst _ _ _ h2
    · exact Pth_let hst w p h1 c hc
theorem Brk_nx (hst : ∀ p d q, St p d q → 0 ≤ d ∧ d < 8) (hN : NxOk many nx) (e : ∀ i, 0 ≤ i → i < 8 * many → nx' i = nx i) : ∀ w : List Int, Brk Ep St nx' w ↔ Brk Ep St nx w
  | [] => Iff.rfl
  | c :: w => by
    have key : (∃ p p', Pth Ep St w p ∧ St p c p') → lst nx' w = lst nx w ∧ (¬ lst nx w = -1 → nx' (8 * lst nx w + c) = nx (8 * lst nx w + c)) := by
      intro h
      obtain ⟨p, p', h1, h2⟩ := h
      have a := lst_cg hN e w (Pth_let hst w p h1)
      have hc := hst _ _ _ h2
      exact ⟨a.1, fun z => e _ (by omega) (by omega)⟩
    constructor
    · intro h
      have k := key h.2.2
      have h1 : ¬ lst nx' w = -1 := h.1
      have h2 : nx' (8 * lst nx' w + c) = -1 := h.2.1
      rw [k.1] at h1 h2
      rw [k.2 h1] at h2
      exact ⟨h1, h2, h.2.2⟩
    · intro h
      have k := key h.2.2
      have h1 : ¬ lst nx w = -1 := h.1
      have h2 : nx (8 * lst nx w + c) = -1 := h.2.1
      rw [← k.2 h1] at h2
      rw [← k.1] at h1 h2
      exact ⟨h1, h2, h.2.2⟩
theorem BrkL_iff {Ep' : Int → Int → Prop} {St' : Int → Int → Int → Prop} (h : ∀ v, Brk Ep St nx v ↔ Brk Ep' St' nx' v) (w : List Int) : BrkL Ep St nx w ↔ BrkL Ep' St' nx' w := by
  unfold BrkL
  constructor
  · intro q; exact ⟨(h w).1 q.1, fun v hv => q.2 v ((h v).2 hv)⟩
  · intro q; exact ⟨(h w).2 q.1, fun v hv => q.2 v ((h v).1 hv)⟩
end BX
section RK
variable {hv ho hv' ho' : Int → Int}
theorem rkd_cg (e1 : ∀ x, 0 ≤ x → x < 8 → hv' x = hv x) {g : Int} (hg : 0 ≤ g ∧ g < 64) : rkd hv' g ↔ rkd hv g := by
  unfold rkd
  rw [e1 (g / 8) (by omega) (by omega)]
theorem ahN_cg (e1 : ∀ x, 0 ≤ x → x < 8 → hv' x = hv x) (e2 : ∀ x, 0 ≤ x → x < 64 → ho' x = ho x) {g : Int} (hg : 0 ≤ g ∧ g < 64) : ahN hv' ho' g = ahN hv ho g := by
  unfold ahN
  refine zc_cg (by decide) (fun i a b => ?_)
  rw [rkd_cg e1 ⟨a, b⟩]
  unfold ahd
  rw [e1 (i / 8) (by omega) (by omega), e1 (g / 8) (by omega) (by omega), e2 i a b, e2 g hg.1 hg.2]
theorem RkP_one (e1 : ∀ x, 0 ≤ x → x < 8 → hv' x = hv x) (e2 : ∀ x, 0 ≤ x → x < 64 → ho' x = ho x) {k q q' : Int} (h : RkP hv ho k q) (h' : RkP hv' ho' k q') : q' = q := by
  have cg : ∀ g, 0 ≤ g → g < 64 → ((rkd hv' g ∧ ahN hv' ho' g = k) ↔ (rkd hv g ∧ ahN hv ho g = k)) := fun g a b => by rw [rkd_cg e1 ⟨a, b⟩, ahN_cg e1 e2 ⟨a, b⟩]
  rcases h with ⟨a1, a2, a3, a4, a5⟩ | ⟨a1, a2⟩
  · rcases h' with ⟨b1, b2, b3, b4, b5⟩ | ⟨b1, b2⟩
    · have c1 := (cg q a1 a2).2 ⟨a3, a4⟩
      have c2 := (cg q' b1 b2).1 ⟨b3, b4⟩
      by_cases z : q' < q
      · exact absurd c2 (a5 q' b1 z)
      · by_cases y : q < q'
        · exact absurd c1 (b5 q a1 y)
        · omega
    · exact absurd ((cg q a1 a2).2 ⟨a3, a4⟩) (b2 q a1 a2)
  · rcases h' with ⟨b1, b2, b3, b4, b5⟩ | ⟨b1, b2⟩
    · exact absurd ((cg q' b1 b2).1 ⟨b3, b4⟩) (a2 q' b1 b2)
    · omega
end RK
theorem gwB_s {n : Nat} : ∀ (f bl : Nat), gwS n f bl + 2 * bl = 2 * gwB n f bl ∧ bl ≤ gwB n f bl
  | 0, bl => ⟨by show 0 + 2 * bl = 2 * bl; omega, Nat.le_refl _⟩
  | f + 1, bl => by
    have ih := gwB_s (n := n) f (2 * bl)
    show (if n ≤ bl then 0 else 2 * bl + gwS n f (2 * bl)) + 2 * bl = 2 * (if n ≤ bl then bl else gwB n f (2 * bl)) ∧ bl ≤ (if n ≤ bl then bl else gwB n f (2 * bl))
    by_cases z : n ≤ bl
    · rw [if_pos z, if_pos z]; omega
    · rw [if_neg z, if_neg z]; omega
theorem gwC_s {n : Nat} : ∀ (f bl : Nat), 1 ≤ bl → gwC n f bl ≤ gwS n f bl
  | 0, bl, _ => Nat.le_refl _
  | f + 1, bl, h => by
    have ih := gwC_s (n := n) f (2 * bl) (by omega)
    show (if n ≤ bl then 0 else 1 + gwC n f (2 * bl)) ≤ (if n ≤ bl then 0 else 2 * bl + gwS n f (2 * bl))
    by_cases z : n ≤ bl
    · rw [if_pos z, if_pos z]; exact Nat.le_refl _
    · rw [if_neg z, if_neg z]; omega
theorem gwB_u {n : Nat} : ∀ (f bl : Nat), gwB n f bl ≤ bl ∨ gwB n f bl ≤ 2 * n
  | 0, bl => Or.inl (Nat.le_refl _)
  | f + 1, bl => by
    have ih := gwB_u (n := n) f (2 * bl)
    show (if n ≤ bl then bl else gwB n f (2 * bl)) ≤ bl ∨ (if n ≤ bl then bl else gwB n f (2 * bl)) ≤ 2 * n
    by_cases z : n ≤ bl
    · rw [if_pos z]; exact Or.inl (Nat.le_refl _)
    · rw [if_neg z]
      rcases ih with h | h
      · right; omega
      · exact Or.inr h
theorem gwB_n {n : Nat} : ∀ (f bl : Nat), 1 ≤ bl → n ≤ bl + f → n ≤ gwB n f bl
  | 0, bl, _, h => h
  | f + 1, bl, h1, h => by
    show n ≤ (if n ≤ bl then bl else gwB n f (2 * bl))
    by_cases z : n ≤ bl
    · rw [if_pos z]; exact z
    · rw [if_neg z]; exact gwB_n (n := n) f (2 * bl) (by omega) (by omega)
