/-! THE REFERENCE: its reader (reads, bracket) -/

def isL (x : Int) : Prop := 97 ≤ x ∧ x ≤ 104
/-- a step e of the text: from a to b by c -/
def EdA (fr to by1 : Int → Int) (e a b c : Int) : Prop := fr e = a ∧ to e = b ∧ by1 e = c
/-- the steps of the text up to i -/
def PZ (tx : Int → Int) (i : Int) (fr to by1 : Int → Int) : Prop := ∀ k, 0 ≤ k → k < i → (isL (tx k) → EdA fr to by1 (ee tx k) (fi tx k) (cnt tx k) (tx k - 97)) ∧ (tx k = 40 → EdA fr to by1 (ee tx k) (fi tx k) (cnt tx k) 8) ∧ (tx k = 124 ∨ tx k = 41 → EdA fr to by1 (ee tx k) (fi tx k) (cnt tx (opn tx k) + 1) 8) ∧ (tx k = 42 → ∃ r, 0 ≤ r ∧ r < k ∧ tx r = 41 ∧ (∀ j, r < j → j < k → tx j = 32) ∧ EdA fr to by1 (ee tx k) (cnt tx (opn tx r)) (cnt tx (opn tx r) + 1) 8 ∧ EdA fr to by1 (ee tx k + 1) (cnt tx (opn tx r) + 1) (cnt tx (opn tx r)) 8)
/-- the place of the fault is that of the rest -/
def SC (tx : Int → Int) (n i : Int) : Prop := ∃ f : Nat, n - i < f ∧ scf tx n 201 0 0 0 = scf tx n f i (dep tx i) (sta tx i)
theorem SC_s {tx : Int → Int} {n i : Int} (h : SC tx n i) (h0 : 0 ≤ i ∧ i < n) (hm : tx i = 32 ∨ mayP (tx i) (dep tx i) (sta tx i)) : SC tx n (i + 1) := by
  obtain ⟨f, hf, e⟩ := h
  obtain ⟨g, rfl⟩ : ∃ g, f = g + 1 := ⟨f - 1, by omega⟩
  refine ⟨g, by omega, ?_⟩
  rw [e, scf, if_pos h0.2, dep_s h0.1, sta_s h0.1]
  by_cases c : tx i = 32
  · rw [if_pos c, if_neg (by omega), if_neg (by omega), if_pos c, show dep tx i + 0 = dep tx i by omega]
  · rw [if_neg c, if_pos (by rcases hm with z | z; exact absurd z c; exact z), if_neg c]
theorem SC_bad {tx : Int → Int} {n i : Int} (h : SC tx n i) (h0 : 0 ≤ i ∧ i < n) (hn : tx i ≠ 32) (hm : ¬ mayP (tx i) (dep tx i) (sta tx i)) : scf tx n 201 0 0 0 = i := by
  obtain ⟨f, hf, e⟩ := h
  obtain ⟨g, rfl⟩ : ∃ g, f = g + 1 := ⟨f - 1, by omega⟩
  rw [e, scf, if_pos h0.2, if_neg hn, if_neg hm]
theorem SC_end {tx : Int → Int} {n : Int} (h : SC tx n n) : scf tx n 201 0 0 0 = if dep tx n = 0 then -1 else n := by
  obtain ⟨f, hf, e⟩ := h
  obtain ⟨g, rfl⟩ : ∃ g, f = g + 1 := ⟨f - 1, by omega⟩
  rw [e, scf, if_neg (by omega)]
theorem skp_ok {tx : Int → Int} {n : Int} : ∀ (f : Nat) (i : Int), 0 ≤ i → i ≤ n → n - i < f → (i ≤ skp tx n f i ∧ skp tx n f i ≤ n) ∧ (∀ k, i ≤ k → k < skp tx n f i → tx k = 32) ∧ (skp tx n f i < n → tx (skp tx n f i) ≠ 32)
  | 0, i, _, _, h => by omega
  | f + 1, i, h0, h1, h => by
    rw [skp]
    by_cases c : i < n ∧ tx i = 32
    · rw [if_pos c]
      obtain ⟨a, b, d⟩ := skp_ok (n := n) f (i + 1) (by omega) (by omega) (by omega)
      refine ⟨by omega, fun k x y => ?_, d⟩
      by_cases z : k = i
      · rw [z]; exact c.2
      · exact b k (by omega) y
    · rw [if_neg c]
      exact ⟨by omega, fun k x y => by omega, fun q z => c ⟨q, z⟩⟩
/-- over blanks nothing changes -/
theorem sp_same {tx : Int → Int} {i : Int} (h0 : 0 ≤ i) : ∀ k : Nat, (∀ j, i ≤ j → j < i + k → tx j = 32) → dep tx (i + k) = dep tx i ∧ sta tx (i + k) = sta tx i ∧ cnt tx (i + k) = cnt tx i ∧ ee tx (i + k) = ee tx i ∧ fi tx (i + k) = fi tx i
  | 0, _ => by rw [show i + ((0 : Nat) : Int) = i by omega]; exact ⟨rfl, rfl, rfl, rfl, rfl⟩
  | k + 1, h => by
    have ih := sp_same h0 k (fun j a b => h j a (by omega))
    have e := h (i + k) (by omega) (by omega)
    rw [show i + ((k + 1 : Nat) : Int) = i + k + 1 by omega, dep_s (by omega), sta_s (by omega), cnt_s (by omega), ee_s (by omega), fi_s (by omega), if_neg (by omega), if_neg (by omega), if_pos e, if_neg (by omega), if_neg (by omega), if_neg (by omega), if_pos e, if_neg (by omega), if_neg (by omega), if_neg (by omega), if_neg (by omega)]
    exact ⟨by omega, ih.2.1, by omega, by omega, ih.2.2.2.2⟩
theorem sp_to {tx : Int → Int} {i j : Int} (h0 : 0 ≤ i) (hj : i ≤ j) (h : ∀ k, i ≤ k → k < j → tx k = 32) : dep tx j = dep tx i ∧ sta tx j = sta tx i ∧ cnt tx j = cnt tx i ∧ ee tx j = ee tx i ∧ fi tx j = fi tx i := by
  have := sp_same (tx := tx) h0 (j - i).toNat (fun k a b => h k a (by omega))
  rw [show i + ((j - i).toNat : Int) = j by omega] at this; exact this
theorem SC_sp {tx : Int → Int} {n i : Int} (h0 : 0 ≤ i) : ∀ k : Nat, i + k ≤ n → SC tx n i → (∀ j, i ≤ j → j < i + k → tx j = 32) → SC tx n (i + k)
  | 0, _, h, _ => by rw [show i + ((0 : Nat) : Int) = i by omega]; exact h
  | k + 1, hk, h, hs => by
    have ih := SC_sp h0 k (by omega) h (fun j a b => hs j a (by omega))
    rw [show i + ((k + 1 : Nat) : Int) = i + k + 1 by omega]
    exact SC_s ih (by omega) (Or.inl (hs (i + k) (by omega) (by omega)))
/-- what stands fast while it reads: the text, its length -/
def RdW (M N : Mem) : Prop := (∀ j, j ≠ 0 → j ≠ 28 → j ≠ 29 → j ≠ 30 → N j = M j) ∧ ∀ i, i ≠ 32 → i ≠ 33 → i ≠ 43 → i ≠ 44 → i ≠ 45 → N 0 i = M 0 i
/-- the text of the tape -/
def TxM (M : Mem) (tx : Int → Int) : Prop := (0 ≤ M 0 31 ∧ M 0 31 ≤ 200) ∧ ∀ i, 0 ≤ i → i < M 0 31 → tx i = M 24 i % 256 ∧ -128 ≤ M 24 i ∧ M 24 i ≤ 127
/-- it stands at i, all read well -/
def PS (tx : Int → Int) (M N : Mem) (i : Int) : Prop := RdW M N ∧ N 0 32 = i ∧ (0 ≤ i ∧ i ≤ M 0 31) ∧ N 0 33 = dep tx i ∧ (0 ≤ dep tx i ∧ dep tx i ≤ 10) ∧ N 0 43 = ee tx i ∧ N 0 44 = cnt tx i ∧ N 0 45 = 0 ∧ PZ tx i (N 28) (N 29) (N 30) ∧ SC tx (M 0 31) i
/-- a fault was found -/
def PW (tx : Int → Int) (M N : Mem) (D : Int) : Prop := RdW M N ∧ N 0 45 = 1 ∧ scf tx (M 0 31) 201 0 0 0 = N 0 32 ∧ (0 ≤ N 0 32 ∧ N 0 32 ≤ 200) ∧ (0 ≤ N 0 43 ∧ N 0 43 ≤ 411 - D)
/-- no star may follow -/
def NSt (tx : Int → Int) (n i : Int) : Prop := ∀ j, i ≤ j → j < n → (∀ k, i ≤ k → k < j → tx k = 32) → tx j = 42 → sta tx i = 0
def RdP (tx : Int → Int) (M N : Mem) (i D r : Int) : Prop := (∃ j, i ≤ j ∧ PS tx M N j ∧ r = fi tx j ∧ dep tx j = D ∧ (∀ k, i ≤ k → k ≤ j → D ≤ dep tx k) ∧ (j < M 0 31 → tx j ≠ 32 ∧ tx j ≠ 40 ∧ ¬ isL (tx j) ∧ (tx j = 42 → sta tx j = 0))) ∨ PW tx M N D
def RbP (tx : Int → Int) (M N : Mem) (p D r : Int) : Prop := (∃ j, p < j ∧ PS tx M N j ∧ r = fi tx j ∧ dep tx j = D ∧ (∀ k, p ≤ k → k ≤ j → D ≤ dep tx k) ∧ NSt tx (M 0 31) j) ∨ PW tx M N D
theorem RdW.a {M N : Mem} (h : RdW M N) {i v : Int} (hi : i = 32 ∨ i = 33 ∨ i = 43 ∨ i = 44 ∨ i = 45) : RdW M (up N 0 i v) :=
  ⟨fun j a b c d => by rw [up_ne a]; exact h.1 j a b c d, fun x a b c d e => by rw [up_at, if_neg (by omega)]; exact h.2 x a b c d e⟩
theorem RdW.b {M N : Mem} (h : RdW M N) {k : Nat} {i v : Int} (hk : k = 28 ∨ k = 29 ∨ k = 30) : RdW M (up N k i v) :=
  ⟨fun j a b c d => by rw [up_ne (by omega)]; exact h.1 j a b c d, fun x a b c d e => by rw [up_ne (by omega)]; exact h.2 x a b c d e⟩
theorem RdW.e {M N : Mem} (h : RdW M N) : N 24 = M 24 ∧ N 0 31 = M 0 31 := ⟨h.1 24 (by decide) (by decide) (by decide) (by decide), h.2 31 (by decide) (by decide) (by decide) (by decide) (by decide)⟩
/-- adds, as a memory -/
def adM (M : Mem) (a b c : Int) : Mem := up (up (up (up M 28 (M 0 43) a) 29 (M 0 43) b) 30 (M 0 43) c) 0 43 (M 0 43 + 1)
theorem adM_f {M : Mem} {a b c : Int} : (∀ j, j ≠ 0 → j ≠ 28 → j ≠ 29 → j ≠ 30 → adM M a b c j = M j) ∧ (∀ i, adM M a b c 0 i = if i = 43 then M 0 43 + 1 else M 0 i) ∧ (∀ i, adM M a b c 28 i = if i = M 0 43 then a else M 28 i) ∧ (∀ i, adM M a b c 29 i = if i = M 0 43 then b else M 29 i) ∧ ∀ i, adM M a b c 30 i = if i = M 0 43 then c else M 30 i := by
  unfold adM
  exact ⟨fun j p q r s => by rw [up_ne p, up_ne s, up_ne r, up_ne q], fun i => by rw [up_at, up_ne (by decide), up_ne (by decide), up_ne (by decide)], fun i => by rw [up_ne (by decide), up_ne (by decide), up_ne (by decide), up_at], fun i => by rw [up_ne (by decide), up_ne (by decide), up_at, up_ne (by decide)], fun i => by rw [up_ne (by decide), up_at, up_ne (by decide), up_ne (by decide)]⟩
theorem RdW.ad {M N : Mem} (h : RdW M N) {a b c : Int} : RdW M (adM N a b c) := by unfold adM; exact (((h.b (by decide)).b (by decide)).b (by decide)).a (by decide)
/-- the steps told stay when more are added -/
theorem PZ_ext {tx : Int → Int} {i : Int} {fr to by1 fr' to' by1' : Int → Int} (h : PZ tx i fr to by1) (he : ∀ e, 0 ≤ e → e < ee tx i → fr' e = fr e ∧ to' e = to e ∧ by1' e = by1 e) : PZ tx i fr' to' by1' := by
  have ed : ∀ e a b c, 0 ≤ e → e < ee tx i → EdA fr to by1 e a b c → EdA fr' to' by1' e a b c := fun e a b c p q r => by
    have := he e p q
    unfold EdA; rw [this.1, this.2.1, this.2.2]; exact r
  intro k p q
  obtain ⟨h1, h2, h3, h4⟩ := h k p q
  have b0 := ee_b (tx := tx) p
  have b1 := ee_le (tx := tx) (p := k + 1) (q := i) (by omega) (by omega)
  have es := ee_s (tx := tx) p
  refine ⟨fun a => ?_, fun a => ?_, fun a => ?_, fun a => ?_⟩
  · unfold isL at a
    rw [if_neg (by omega), if_neg (by omega)] at es
    exact ed _ _ _ _ (by omega) (by omega) (h1 a)
  · rw [if_neg (by omega), if_neg (by omega)] at es
    exact ed _ _ _ _ (by omega) (by omega) (h2 a)
  · rw [if_neg (by omega), if_neg (by omega)] at es
    exact ed _ _ _ _ (by omega) (by omega) (h3 a)
  · rw [if_pos a] at es
    obtain ⟨r, r1, r2, r3, r4, r5, r6⟩ := h4 a
    exact ⟨r, r1, r2, r3, r4, ed _ _ _ _ (by omega) (by omega) r5, ed _ _ _ _ (by omega) (by omega) r6⟩
theorem PZ_s {tx : Int → Int} {i : Int} {fr to by1 : Int → Int} (h : PZ tx i fr to by1) (h0 : 0 ≤ i) (hi : (isL (tx i) → EdA fr to by1 (ee tx i) (fi tx i) (cnt tx i) (tx i - 97)) ∧ (tx i = 40 → EdA fr to by1 (ee tx i) (fi tx i) (cnt tx i) 8) ∧ (tx i = 124 ∨ tx i = 41 → EdA fr to by1 (ee tx i) (fi tx i) (cnt tx (opn tx i) + 1) 8) ∧ (tx i = 42 → ∃ r, 0 ≤ r ∧ r < i ∧ tx r = 41 ∧ (∀ j, r < j → j < i → tx j = 32) ∧ EdA fr to by1 (ee tx i) (cnt tx (opn tx r)) (cnt tx (opn tx r) + 1) 8 ∧ EdA fr to by1 (ee tx i + 1) (cnt tx (opn tx r) + 1) (cnt tx (opn tx r)) 8)) : PZ tx (i + 1) fr to by1 := by
  intro k p q
  by_cases z : k = i
  · rw [z]; exact hi
  · exact h k p (by omega)
theorem PZ_sp {tx : Int → Int} {i j : Int} {fr to by1 : Int → Int} (h : PZ tx i fr to by1) (hs : ∀ k, i ≤ k → k < j → tx k = 32) : PZ tx j fr to by1 := by
  intro k p q
  by_cases z : k < i
  · exact h k p z
  · have := hs k (by omega) q
    unfold isL
    exact ⟨fun a => by omega, fun a => by omega, fun a => by omega, fun a => by omega⟩
/-- now: over the blanks -/
theorem PS_now {tx : Int → Int} {M N : Mem} {i : Int} (hT : TxM M tx) (h : PS tx M N i) : ∃ j, (i ≤ j ∧ j ≤ M 0 31) ∧ skp (N 24) (N 0 31) 201 (N 0 32) = j ∧ (∀ k, i ≤ k → k < j → tx k = 32) ∧ (j < M 0 31 → tx j ≠ 32) ∧ PS tx M (up N 0 32 j) j ∧ (if skp (N 24) (N 0 31) 201 (N 0 32) < N 0 31 then N 24 (skp (N 24) (N 0 31) 201 (N 0 32)) % 256 else 0) = (if j < M 0 31 then tx j else 0) := by
  obtain ⟨a, b, c, d, e, f, g, w, z, s⟩ := id h
  rw [a.e.1, a.e.2, b]
  obtain ⟨k1, k2, k3⟩ := skp_ok (tx := M 24) (n := M 0 31) 201 i c.1 c.2 (by have := hT.1; omega)
  generalize skp (M 24) (M 0 31) 201 i = j at *
  have t1 : ∀ k, i ≤ k → k < j → tx k = 32 := fun k p q => by
    have := hT.2 k (by omega) (by omega)
    rw [this.1, k2 k p q]; rfl
  have sm := sp_to (tx := tx) c.1 k1.1 t1
  refine ⟨j, k1, rfl, t1, fun q => ?_, ⟨a.a (by decide), up_same, by omega, by rw [up_at, if_neg (by decide), sm.1]; exact d, by rw [sm.1]; exact e, by rw [up_at, if_neg (by decide), sm.2.2.2.1]; exact f, by rw [up_at, if_neg (by decide), sm.2.2.1]; exact g, by rw [up_at, if_neg (by decide)]; exact w, ?_, ?_⟩, ?_⟩
  · have := hT.2 j (by omega) q
    have := k3 q
    omega
  · rw [up_ne (by decide), up_ne (by decide), up_ne (by decide)]; exact PZ_sp z t1
  · have := SC_sp (tx := tx) c.1 (j - i).toNat (by omega) s (fun k p q => t1 k p (by omega))
    rw [show i + ((j - i).toNat : Int) = j by omega] at this; exact this
  · by_cases q : j < M 0 31
    · rw [if_pos q, if_pos q]; exact (hT.2 j (by omega) q).1.symm
    · rw [if_neg q, if_neg q]
set_option maxHeartbeats 4000000 in
set_option maxRecDepth 100000 in
theorem c_M_add (bl : Nat) (M : Mem) (hs : 0 ≤ M 0 43 ∧ M 0 43 < 1200) (a b c : Int) (ha : inR a) (hb : inR b) (hc : inR c) : Ct (shM bl) nM yX11_adds cX11_adds 4 none (lvl 0) [.inr 0, .inl a, .inl b, .inl c] M (fun _ M' => M' = adM M a b c) := by
  exact c_M_adds bl M hs a b c ha hb hc
theorem fi_b {tx : Int → Int} {i : Int} (h : 0 ≤ i ∧ i ≤ 200) : -1000 ≤ fi tx i ∧ fi tx i ≤ 1000 := by
  have cb : ∀ x : Int, cnt tx x ≤ 1 + 2 * (if 0 ≤ x then x else 0) ∧ 1 ≤ cnt tx x := fun x => by
    by_cases z : 0 ≤ x
    · rw [if_pos z]; have := cnt_b (tx := tx) z; omega
    · rw [if_neg z]; unfold cnt; rw [show x.toNat = 0 by omega]; exact ⟨Int.le_refl _, Int.le_refl _⟩
  have lb : ∀ (d : Int) (k : Nat), loN tx d k < (k : Int) := fun d k => by
    induction k with
    | zero => show (-1 : Int) < ((0 : Nat) : Int); omega
    | succ k ih => rw [loN]; split <;> omega
  obtain ⟨k, rfl⟩ : ∃ k : Nat, i = k := ⟨i.toNat, by omega⟩
  have key : ∀ k : Nat, (k : Int) ≤ 200 → -1000 ≤ fi tx k ∧ fi tx k ≤ 1000 := by
    intro k
    induction k with
    | zero => intro _; show (-1000 : Int) ≤ 0 ∧ (0 : Int) ≤ 1000; omega
    | succ k ih =>
      intro hk
      have ih := ih (by omega)
      rw [show ((k + 1 : Nat) : Int) = (k : Int) + 1 by omega, fi_s (by omega)]
      have c1 := cb k
      rw [if_pos (by omega)] at c1
      have c2 := cb (opn tx k)
      have l1 : opn tx k < k := by
        have := lb (dep tx k - 1) (k : Int).toNat
        unfold opn lo; omega
      have c3 : cnt tx (opn tx k) ≤ 1 + 2 * 200 := by split at c2 <;> omega
      split
      · omega
      · split
        · omega
        · split
          · omega
          · split <;> omega
  exact key k h.2
set_option maxHeartbeats 4000000 in
set_option maxRecDepth 100000 in
theorem m_reads {K : Kt} (bl : Nat) (tx : Int → Int) (M : Mem) (hT : TxM M tx) (e : Nat) (D : Int) (hD : D = 10 - e) (ib : ∀ (N : Mem) (p : Int), PS tx M N p → p < M 0 31 → tx p = 40 → dep tx p = D → Ct (shM bl) nM yX11_bracket cX11_bracket 4 (some .int) (lvl (1 + 2 * e)) [.inr 0, .inl (fi tx p)] N (fun r M' => RbP tx M M' p D r)) (i0 fr : Int) (C : Ctx (shM bl) nM RX11 cX11_reads 5 (some .int) (lvl (2 + 2 * e)) (fun r M' => RdP tx M M' i0 D r) K) (N : Mem) (i : Int) (hP : PS tx M N i) (hi : 0 ≤ i0 ∧ i0 ≤ i) (hd : dep tx i = D) (hdk : ∀ k, i0 ≤ k → k ≤ i → D ≤ dep tx k) (hns : NSt tx (M 0 31) i) : K 2 [(0, .inr 0), (1, .inl fr), (2, .inl (fi tx i))] [] N := by
  obtain ⟨a1, a2, a3, a4, a5, a6, a7, a8, a9, a10⟩ := id hP
  have t1 := hT.1
  obtain ⟨j, j1, j2, j3, j4, j5, j6⟩ := PS_now hT hP
  have sm := sp_to (tx := tx) a3.1 j1.1 j3
  have fib := fi_b (tx := tx) (i := i) (by omega)
  refine k_aload_n C dX11_reads_2 rfl rfl ?_
  refine k_getJ C 45 45 rfl okC11 rfl (by decide) (by decide) rfl flX11_219 dX11_reads_3 (fun ld3 => ?_)
  rw [a8] at ld3 ⊢
  refine k_if_ne C (tgt := 79) dX11_reads_6 rfl (by omega) (fun c6 => ?_) (fun c6 => ?_)
  · refine k_iload_n C dX11_reads_79 rfl rfl ?_
    exact k_iret C dX11_reads_80 (by omega) (fun _ => by exfalso; omega)
  · refine k_aload_n C dX11_reads_9 rfl rfl ?_
    refine k_callV C okX11_223 dX11_reads_10 (c_M_now bl N (by rw [a2, a1.e.2]; omega)) rfl rfl (by decide) rfl ⟨rfl, rfl, by show 0 + 1 ≤ 2 + 2 * e; omega, by show 8 + (1 + 11) + 64 * (0) ≤ 64 * (2 + 2 * e); omega⟩ rfl (Nat.le_of_ble_eq_true rfl) (fun r10 M10 hr10 hp10 => ?_)
    obtain ⟨z10, hq10⟩ := hp10
    rw [j2] at z10
    rw [j6] at hq10
    subst z10
    subst hq10
    refine k_istore_n C dX11_reads_13 rfl (by decide) ?_
    refine k_iload_n C dX11_reads_14 rfl rfl ?_
    refine k_bipush C dX11_reads_15 (by decide) ?_
    refine k_icmp_lt C (tgt := 59) dX11_reads_17 rfl (by omega) (by omega) (fun c17 => ?_) (fun c17 => ?_)
    · refine k_iload_n C dX11_reads_59 rfl rfl ?_
      refine k_bipush C dX11_reads_60 (by decide) ?_
      refine k_icmp_ne C (tgt := 74) dX11_reads_62 rfl (by omega) (by omega) (fun c62 => ?_) (fun c62 => ?_)
      · refine k_iload_n C dX11_reads_74 rfl rfl ?_
        exact k_iret C dX11_reads_75 (by omega) (fun _ => by
      refine Or.inl ⟨j, by omega, j5, by rw [sm.2.2.2.2], by rw [sm.1]; exact hd, fun k p q => ?_, fun q => ?_⟩
      · by_cases z : k ≤ i
        · exact hdk k p z
        · have := sp_to (tx := tx) (i := i) (j := k) a3.1 (by omega) (fun x p q => j3 x p (by omega))
          rw [this.1]; omega
      · first | rw [if_pos q] at c17 | skip
        first | rw [if_pos q] at c62 | skip
        first | rw [if_pos q] at c23 | skip
        refine ⟨j4 q, by omega, fun l => by unfold isL at l; omega, fun s => ?_⟩
        rw [sm.2.1]; exact hns j j1.1 q j3 s)
      · have jn : j < M 0 31 := by by_cases z : j < M 0 31; exact z; (rw [if_neg z] at c62; omega)
        rw [if_pos jn] at c62
        refine k_aload_n C dX11_reads_65 rfl rfl ?_
        refine k_iload_n C dX11_reads_66 rfl rfl ?_
        refine k_callV C okX11_234 dX11_reads_67 ((by have q := ib (up N 0 32 j) j j5 jn c62 (by rw [sm.1]; exact hd); rw [sm.2.2.2.2] at q; exact q)) rfl rfl (by decide) rfl ⟨rfl, rfl, by show 1 + 2 * e + 1 ≤ 2 + 2 * e; omega, by show 8 + (4 + 11) + 64 * (1 + 2 * e) ≤ 64 * (2 + 2 * e); omega⟩ rfl (Nat.le_of_ble_eq_true rfl) (fun r67 M67 hr67 hp67 => ?_)
        refine k_istore_n C dX11_reads_70 rfl (by decide) ?_
        refine k_goto C (tgt := 76) dX11_reads_71 rfl ?_
        refine k_goto C (tgt := 2) dX11_reads_76 rfl ?_
        refine k_cut2 C (lv' := [(0, _), (1, _), (2, _)]) ⟨rfl, rfl, rfl, trivial⟩ ?_
        first
        | (rw [hq27]
           have F := fi_s (tx := tx) (p := j) (by omega)
           have lt : isL (tx j) := ⟨c17, by omega⟩
           unfold isL at lt
           rw [if_neg (by omega), if_pos lt] at F
           obtain ⟨g0, g1, g2, g3, g4⟩ := adM_f (M := up (up N 0 32 j) 0 44 (up N 0 32 j 0 44 + 1)) (a := fi tx i) (b := cnt tx j) (c := tx j - 97)
           rw [L43] at g1 g2 g3 g4
           rw [hq27] at *
           have W0 : RdW M (up (adM (up (up N 0 32 j) 0 44 (up N 0 32 j 0 44 + 1)) (fi tx i) (cnt tx j) (tx j - 97)) 0 32 (j + 1)) := (b1.a (by decide)).ad.a (by decide)
           have o : ∀ x, x ≠ 0 → up (adM (up (up N 0 32 j) 0 44 (up N 0 32 j 0 44 + 1)) (fi tx i) (cnt tx j) (tx j - 97)) 0 32 (j + 1) x = adM (up (up N 0 32 j) 0 44 (up N 0 32 j 0 44 + 1)) (fi tx i) (cnt tx j) (tx j - 97) x := fun x hx => up_ne hx
           have o0 : ∀ x, up (adM (up (up N 0 32 j) 0 44 (up N 0 32 j 0 44 + 1)) (fi tx i) (cnt tx j) (tx j - 97)) 0 32 (j + 1) 0 x = if x = 32 then j + 1 else if x = 43 then ee tx j + 1 else if x = 44 then cnt tx j + 1 else up N 0 32 j 0 x := fun x => by
             rw [up_at]
             by_cases z : x = 32
             · rw [if_pos z, if_pos z]
             · rw [if_neg z, if_neg z, g1]
               by_cases y : x = 43
               · rw [if_pos y, if_pos y]
               · rw [if_neg y, if_neg y, up_at, b7]
           generalize up (adM (up (up N 0 32 j) 0 44 (up N 0 32 j 0 44 + 1)) (fi tx i) (cnt tx j) (tx j - 97)) 0 32 (j + 1) = L at *
           rw [← F]
           have ds := dep_s (tx := tx) (p := j) (by omega)
           have es := ee_s (tx := tx) (p := j) (by omega)
           have cs := cnt_s (tx := tx) (p := j) (by omega)
           have ss := sta_s (tx := tx) (p := j) (by omega)
           rw [if_neg (by omega), if_neg (by omega)] at ds es
           rw [if_neg (by omega), if_pos lt] at cs
           rw [if_neg (by omega), if_neg (by omega)] at ss
           have p28 := o 28 (by decide)
           have p29 := o 29 (by decide)
           have p30 := o 30 (by decide)
           refine m_reads bl tx M hT e D hD ib i0 fr C L (j + 1) ⟨W0, by rw [o0, if_pos rfl], by omega, by rw [o0, if_neg (by decide), if_neg (by decide), if_neg (by decide), ds, b4]; omega, by omega, by rw [o0, if_neg (by decide), if_pos rfl, es], by rw [o0, if_neg (by decide), if_neg (by decide), if_pos rfl, cs], by rw [o0, if_neg (by decide), if_neg (by decide), if_neg (by decide)]; exact b8, PZ_s ?_ (by omega) ⟨fun _ => ⟨by rw [p28, g2, if_pos rfl, sm.2.2.2.2], by rw [p29, g3, if_pos rfl], by rw [p30, g4, if_pos rfl]⟩, fun q => by omega, fun q => by omega, fun q => by omega⟩, SC_s b10 ⟨by omega, jn⟩ (Or.inr (Or.inr (Or.inr (Or.inr lt))))⟩ (by omega) (by rw [ds, sm.1]; omega) (fun k p q => ?_) (fun x p q r s => by rw [ss])
           · refine PZ_ext b9 (fun x p q => ⟨?_, ?_, ?_⟩)
             · rw [p28, g2, if_neg (by omega), up_ne (by decide)]
             · rw [p29, g3, if_neg (by omega), up_ne (by decide)]
             · rw [p30, g4, if_neg (by omega), up_ne (by decide)]
           · by_cases z : k ≤ i
             · exact hdk k p z
             · by_cases y : k = j + 1
               · rw [y, ds, sm.1]; omega
               · have := sp_to (tx := tx) (i := i) (j := k) a3.1 (by omega) (fun x p q => j3 x p (by omega))
                 rw [this.1]; omega)
        | (rcases hp67 with ⟨j', q1, q2, q3, q4, q5, q6⟩ | q
           · rw [q3]
             refine m_reads bl tx M hT e D hD ib i0 fr C M67 j' q2 (by omega) q4 (fun k p q => ?_) q6
             by_cases z : k ≤ i
             · exact hdk k p z
             · by_cases y : k ≤ j
               · have := sp_to (tx := tx) (i := i) (j := k) a3.1 (by omega) (fun x p q => j3 x p (by omega))
                 rw [this.1]; omega
               · exact q5 k (by omega) q
           · refine k_aload_n C dX11_reads_2 rfl rfl ?_
             refine k_getJ C 45 45 rfl okC11 rfl (by decide) (by decide) rfl flX11_219 dX11_reads_3 (fun ld3 => ?_)
             rw [q.2.1] at ld3 ⊢
             refine k_if_ne C (tgt := 79) dX11_reads_6 rfl (by omega) (fun c6 => ?_) (fun c6 => ?_)
             · refine k_iload_n C dX11_reads_79 rfl rfl ?_
               exact k_iret C dX11_reads_80 (by omega) (fun _ => Or.inr q)
             · exfalso; omega
           )
    · refine k_iload_n C dX11_reads_20 rfl rfl ?_
      refine k_bipush C dX11_reads_21 (by decide) ?_
      refine k_icmp_gt C (tgt := 59) dX11_reads_23 rfl (by omega) (by omega) (fun c23 => ?_) (fun c23 => ?_)
      · refine k_iload_n C dX11_reads_59 rfl rfl ?_
        refine k_bipush C dX11_reads_60 (by decide) ?_
        refine k_icmp_ne C (tgt := 74) dX11_reads_62 rfl (by omega) (by omega) (fun c62 => ?_) (fun c62 => ?_)
        · refine k_iload_n C dX11_reads_74 rfl rfl ?_
          exact k_iret C dX11_reads_75 (by omega) (fun _ => by
      refine Or.inl ⟨j, by omega, j5, by rw [sm.2.2.2.2], by rw [sm.1]; exact hd, fun k p q => ?_, fun q => ?_⟩
      · by_cases z : k ≤ i
        · exact hdk k p z
        · have := sp_to (tx := tx) (i := i) (j := k) a3.1 (by omega) (fun x p q => j3 x p (by omega))
          rw [this.1]; omega
      · first | rw [if_pos q] at c17 | skip
        first | rw [if_pos q] at c62 | skip
        first | rw [if_pos q] at c23 | skip
        refine ⟨j4 q, by omega, fun l => by unfold isL at l; omega, fun s => ?_⟩
        rw [sm.2.1]; exact hns j j1.1 q j3 s)
        · have jn : j < M 0 31 := by by_cases z : j < M 0 31; exact z; (rw [if_neg z] at c62; omega)
          rw [if_pos jn] at c62
          refine k_aload_n C dX11_reads_65 rfl rfl ?_
          refine k_iload_n C dX11_reads_66 rfl rfl ?_
          refine k_callV C okX11_234 dX11_reads_67 ((by have q := ib (up N 0 32 j) j j5 jn c62 (by rw [sm.1]; exact hd); rw [sm.2.2.2.2] at q; exact q)) rfl rfl (by decide) rfl ⟨rfl, rfl, by show 1 + 2 * e + 1 ≤ 2 + 2 * e; omega, by show 8 + (4 + 11) + 64 * (1 + 2 * e) ≤ 64 * (2 + 2 * e); omega⟩ rfl (Nat.le_of_ble_eq_true rfl) (fun r67 M67 hr67 hp67 => ?_)
          refine k_istore_n C dX11_reads_70 rfl (by decide) ?_
          refine k_goto C (tgt := 76) dX11_reads_71 rfl ?_
          refine k_goto C (tgt := 2) dX11_reads_76 rfl ?_
          refine k_cut2 C (lv' := [(0, _), (1, _), (2, _)]) ⟨rfl, rfl, rfl, trivial⟩ ?_
          first
          | (rw [hq27]
             have F := fi_s (tx := tx) (p := j) (by omega)
             have lt : isL (tx j) := ⟨c17, by omega⟩
             unfold isL at lt
             rw [if_neg (by omega), if_pos lt] at F
             obtain ⟨g0, g1, g2, g3, g4⟩ := adM_f (M := up (up N 0 32 j) 0 44 (up N 0 32 j 0 44 + 1)) (a := fi tx i) (b := cnt tx j) (c := tx j - 97)
             rw [L43] at g1 g2 g3 g4
             rw [hq27] at *
             have W0 : RdW M (up (adM (up (up N 0 32 j) 0 44 (up N 0 32 j 0 44 + 1)) (fi tx i) (cnt tx j) (tx j - 97)) 0 32 (j + 1)) := (b1.a (by decide)).ad.a (by decide)
             have o : ∀ x, x ≠ 0 → up (adM (up (up N 0 32 j) 0 44 (up N 0 32 j 0 44 + 1)) (fi tx i) (cnt tx j) (tx j - 97)) 0 32 (j + 1) x = adM (up (up N 0 32 j) 0 44 (up N 0 32 j 0 44 + 1)) (fi tx i) (cnt tx j) (tx j - 97) x := fun x hx => up_ne hx
             have o0 : ∀ x, up (adM (up (up N 0 32 j) 0 44 (up N 0 32 j 0 44 + 1)) (fi tx i) (cnt tx j) (tx j - 97)) 0 32 (j + 1) 0 x = if x = 32 then j + 1 else if x = 43 then ee tx j + 1 else if x = 44 then cnt tx j + 1 else up N 0 32 j 0 x := fun x => by
               rw [up_at]
               by_cases z : x = 32
               · rw [if_pos z, if_pos z]
               · rw [if_neg z, if_neg z, g1]
                 by_cases y : x = 43
                 · rw [if_pos y, if_pos y]
                 · rw [if_neg y, if_neg y, up_at, b7]
             generalize up (adM (up (up N 0 32 j) 0 44 (up N 0 32 j 0 44 + 1)) (fi tx i) (cnt tx j) (tx j - 97)) 0 32 (j + 1) = L at *
             rw [← F]
             have ds := dep_s (tx := tx) (p := j) (by omega)
             have es := ee_s (tx := tx) (p := j) (by omega)
             have cs := cnt_s (tx := tx) (p := j) (by omega)
             have ss := sta_s (tx := tx) (p := j) (by omega)
             rw [if_neg (by omega), if_neg (by omega)] at ds es
             rw [if_neg (by omega), if_pos lt] at cs
             rw [if_neg (by omega), if_neg (by omega)] at ss
             have p28 := o 28 (by decide)
             have p29 := o 29 (by decide)
             have p30 := o 30 (by decide)
             refine m_reads bl tx M hT e D hD ib i0 fr C L (j + 1) ⟨W0, by rw [o0, if_pos rfl], by omega, by rw [o0, if_neg (by decide), if_neg (by decide), if_neg (by decide), ds, b4]; omega, by omega, by rw [o0, if_neg (by decide), if_pos rfl, es], by rw [o0, if_neg (by decide), if_neg (by decide), if_pos rfl, cs], by rw [o0, if_neg (by decide), if_neg (by decide), if_neg (by decide)]; exact b8, PZ_s ?_ (by omega) ⟨fun _ => ⟨by rw [p28, g2, if_pos rfl, sm.2.2.2.2], by rw [p29, g3, if_pos rfl], by rw [p30, g4, if_pos rfl]⟩, fun q => by omega, fun q => by omega, fun q => by omega⟩, SC_s b10 ⟨by omega, jn⟩ (Or.inr (Or.inr (Or.inr (Or.inr lt))))⟩ (by omega) (by rw [ds, sm.1]; omega) (fun k p q => ?_) (fun x p q r s => by rw [ss])
             · refine PZ_ext b9 (fun x p q => ⟨?_, ?_, ?_⟩)
               · rw [p28, g2, if_neg (by omega), up_ne (by decide)]
               · rw [p29, g3, if_neg (by omega), up_ne (by decide)]
               · rw [p30, g4, if_neg (by omega), up_ne (by decide)]
             · by_cases z : k ≤ i
               · exact hdk k p z
               · by_cases y : k = j + 1
                 · rw [y, ds, sm.1]; omega
                 · have := sp_to (tx := tx) (i := i) (j := k) a3.1 (by omega) (fun x p q => j3 x p (by omega))
                   rw [this.1]; omega)
          | (rcases hp67 with ⟨j', q1, q2, q3, q4, q5, q6⟩ | q
             · rw [q3]
               refine m_reads bl tx M hT e D hD ib i0 fr C M67 j' q2 (by omega) q4 (fun k p q => ?_) q6
               by_cases z : k ≤ i
               · exact hdk k p z
               · by_cases y : k ≤ j
                 · have := sp_to (tx := tx) (i := i) (j := k) a3.1 (by omega) (fun x p q => j3 x p (by omega))
                   rw [this.1]; omega
                 · exact q5 k (by omega) q
             · refine k_aload_n C dX11_reads_2 rfl rfl ?_
               refine k_getJ C 45 45 rfl okC11 rfl (by decide) (by decide) rfl flX11_219 dX11_reads_3 (fun ld3 => ?_)
               rw [q.2.1] at ld3 ⊢
               refine k_if_ne C (tgt := 79) dX11_reads_6 rfl (by omega) (fun c6 => ?_) (fun c6 => ?_)
               · refine k_iload_n C dX11_reads_79 rfl rfl ?_
                 exact k_iret C dX11_reads_80 (by omega) (fun _ => Or.inr q)
               · exfalso; omega
             )
      · have jn : j < M 0 31 := by by_cases z : j < M 0 31; exact z; (rw [if_neg z] at c17; omega)
        rw [if_pos jn] at c17 c23 ⊢
        obtain ⟨b1, b2, b3, b4, b5, b6, b7, b8, b9, b10⟩ := id j5
        have cb := cnt_b (tx := tx) (p := j) (by omega)
        have eb := ee_b (tx := tx) (p := j) (by omega)
        have L43 : up (up N 0 32 j) 0 44 (up N 0 32 j 0 44 + 1) 0 43 = ee tx j := by rw [up_at, if_neg (by decide)]; exact b6
        refine k_aload_n C dX11_reads_26 rfl rfl ?_
        refine k_callV C okX11_227 dX11_reads_27 (c_M_state bl (up N 0 32 j) (by rw [b7]; omega)) rfl rfl (by decide) rfl ⟨rfl, rfl, by show 0 + 1 ≤ 2 + 2 * e; omega, by show 8 + (1 + 11) + 64 * (0) ≤ 64 * (2 + 2 * e); omega⟩ rfl (Nat.le_of_ble_eq_true rfl) (fun r27 M27 hr27 hp27 => ?_)
        obtain ⟨hq27, z27⟩ := hp27
        subst z27
        rw [b7] at hq27
        refine k_istore C dX11_reads_30 (by decide) ?_
        refine k_aload_n C dX11_reads_32 rfl rfl ?_
        refine k_iload_n C dX11_reads_33 rfl rfl ?_
        refine k_iload C dX11_reads_34 rfl ?_
        refine k_iload_n C dX11_reads_36 rfl rfl ?_
        refine k_bipush C dX11_reads_37 (by decide) ?_
        refine k_isub C dX11_reads_39 ?_
        refine k_callV C okX11_230 dX11_reads_40 (c_M_add bl (up (up N 0 32 j) 0 44 (up N 0 32 j 0 44 + 1)) (by rw [L43]; omega) (fi tx i) r27 (tx j - 97) (by omega) (by omega) (by omega)) rfl rfl (by decide) rfl ⟨rfl, rfl, by show 0 + 1 ≤ 2 + 2 * e; omega, by show 8 + (4 + 11) + 64 * (0) ≤ 64 * (2 + 2 * e); omega⟩ rfl (Nat.le_of_ble_eq_true rfl) (fun r40 M40 hr40 hp40 => ?_)
        subst hp40
        refine k_iload C dX11_reads_43 rfl ?_
        refine k_istore_n C dX11_reads_45 rfl (by decide) ?_
        refine k_aload_n C dX11_reads_46 rfl rfl ?_
        refine k_dup C dX11_reads_47 ?_
        refine k_getJ C 32 32 rfl okC11 rfl (by decide) (by decide) rfl flX11_207 dX11_reads_48 (fun ld48 => ?_)
        rw [(adM_f).2.1, if_neg (by decide), up_at, if_neg (by decide), up_same]
        refine k_iconst C dX11_reads_51 ?_
        refine k_iadd C dX11_reads_52 ?_
        refine k_putJ C 32 32 rfl okC11 rfl (by decide) (by decide) rfl rfl rfl (by omega) flX11_207 dX11_reads_53 ?_
        refine k_goto C (tgt := 76) dX11_reads_56 rfl ?_
        refine k_goto C (tgt := 2) dX11_reads_76 rfl ?_
        refine k_cut2 C (lv' := [(0, _), (1, _), (2, _)]) ⟨rfl, rfl, rfl, trivial⟩ ?_
        first
        | (rw [hq27]
           have F := fi_s (tx := tx) (p := j) (by omega)
           have lt : isL (tx j) := ⟨c17, by omega⟩
           unfold isL at lt
           rw [if_neg (by omega), if_pos lt] at F
           obtain ⟨g0, g1, g2, g3, g4⟩ := adM_f (M := up (up N 0 32 j) 0 44 (up N 0 32 j 0 44 + 1)) (a := fi tx i) (b := cnt tx j) (c := tx j - 97)
           rw [L43] at g1 g2 g3 g4
           rw [hq27] at *
           have W0 : RdW M (up (adM (up (up N 0 32 j) 0 44 (up N 0 32 j 0 44 + 1)) (fi tx i) (cnt tx j) (tx j - 97)) 0 32 (j + 1)) := (b1.a (by decide)).ad.a (by decide)
           have o : ∀ x, x ≠ 0 → up (adM (up (up N 0 32 j) 0 44 (up N 0 32 j 0 44 + 1)) (fi tx i) (cnt tx j) (tx j - 97)) 0 32 (j + 1) x = adM (up (up N 0 32 j) 0 44 (up N 0 32 j 0 44 + 1)) (fi tx i) (cnt tx j) (tx j - 97) x := fun x hx => up_ne hx
           have o0 : ∀ x, up (adM (up (up N 0 32 j) 0 44 (up N 0 32 j 0 44 + 1)) (fi tx i) (cnt tx j) (tx j - 97)) 0 32 (j + 1) 0 x = if x = 32 then j + 1 else if x = 43 then ee tx j + 1 else if x = 44 then cnt tx j + 1 else up N 0 32 j 0 x := fun x => by
             rw [up_at]
             by_cases z : x = 32
             · rw [if_pos z, if_pos z]
             · rw [if_neg z, if_neg z, g1]
               by_cases y : x = 43
               · rw [if_pos y, if_pos y]
               · rw [if_neg y, if_neg y, up_at, b7]
           generalize up (adM (up (up N 0 32 j) 0 44 (up N 0 32 j 0 44 + 1)) (fi tx i) (cnt tx j) (tx j - 97)) 0 32 (j + 1) = L at *
           rw [← F]
           have ds := dep_s (tx := tx) (p := j) (by omega)
           have es := ee_s (tx := tx) (p := j) (by omega)
           have cs := cnt_s (tx := tx) (p := j) (by omega)
           have ss := sta_s (tx := tx) (p := j) (by omega)
           rw [if_neg (by omega), if_neg (by omega)] at ds es
           rw [if_neg (by omega), if_pos lt] at cs
           rw [if_neg (by omega), if_neg (by omega)] at ss
           have p28 := o 28 (by decide)
           have p29 := o 29 (by decide)
           have p30 := o 30 (by decide)
           refine m_reads bl tx M hT e D hD ib i0 fr C L (j + 1) ⟨W0, by rw [o0, if_pos rfl], by omega, by rw [o0, if_neg (by decide), if_neg (by decide), if_neg (by decide), ds, b4]; omega, by omega, by rw [o0, if_neg (by decide), if_pos rfl, es], by rw [o0, if_neg (by decide), if_neg (by decide), if_pos rfl, cs], by rw [o0, if_neg (by decide), if_neg (by decide), if_neg (by decide)]; exact b8, PZ_s ?_ (by omega) ⟨fun _ => ⟨by rw [p28, g2, if_pos rfl, sm.2.2.2.2], by rw [p29, g3, if_pos rfl], by rw [p30, g4, if_pos rfl]⟩, fun q => by omega, fun q => by omega, fun q => by omega⟩, SC_s b10 ⟨by omega, jn⟩ (Or.inr (Or.inr (Or.inr (Or.inr lt))))⟩ (by omega) (by rw [ds, sm.1]; omega) (fun k p q => ?_) (fun x p q r s => by rw [ss])
           · refine PZ_ext b9 (fun x p q => ⟨?_, ?_, ?_⟩)
             · rw [p28, g2, if_neg (by omega), up_ne (by decide)]
             · rw [p29, g3, if_neg (by omega), up_ne (by decide)]
             · rw [p30, g4, if_neg (by omega), up_ne (by decide)]
           · by_cases z : k ≤ i
             · exact hdk k p z
             · by_cases y : k = j + 1
               · rw [y, ds, sm.1]; omega
               · have := sp_to (tx := tx) (i := i) (j := k) a3.1 (by omega) (fun x p q => j3 x p (by omega))
                 rw [this.1]; omega)
        | (rcases hp67 with ⟨j', q1, q2, q3, q4, q5, q6⟩ | q
           · rw [q3]
             refine m_reads bl tx M hT e D hD ib i0 fr C M67 j' q2 (by omega) q4 (fun k p q => ?_) q6
             by_cases z : k ≤ i
             · exact hdk k p z
             · by_cases y : k ≤ j
               · have := sp_to (tx := tx) (i := i) (j := k) a3.1 (by omega) (fun x p q => j3 x p (by omega))
                 rw [this.1]; omega
               · exact q5 k (by omega) q
           · refine k_aload_n C dX11_reads_2 rfl rfl ?_
             refine k_getJ C 45 45 rfl okC11 rfl (by decide) (by decide) rfl flX11_219 dX11_reads_3 (fun ld3 => ?_)
             rw [q.2.1] at ld3 ⊢
             refine k_if_ne C (tgt := 79) dX11_reads_6 rfl (by omega) (fun c6 => ?_) (fun c6 => ?_)
             · refine k_iload_n C dX11_reads_79 rfl rfl ?_
               exact k_iret C dX11_reads_80 (by omega) (fun _ => Or.inr q)
             · exfalso; omega
           )
termination_by (M 0 31 - i).toNat
decreasing_by all_goals omega
