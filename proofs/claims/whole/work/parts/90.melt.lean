/-! MELTING, the class's: join, melt, takeBack -/
def UC (B N : Mem) : Prop := (∀ e, 0 ≤ e → e < N 15 12 → (0 ≤ N 22 e ∧ N 22 e < 5768) ∧ B 10 (N 22 e) = -1) ∧ (∀ e, 0 ≤ e → e < N 15 11 → (0 ≤ N 21 e ∧ N 21 e < 721) ∧ B 16 (N 21 e) = N 21 e) ∧
  (∀ i, N 10 i = B 10 i ∨ (¬ N 10 i = -1 ∧ ∃ e, 0 ≤ e ∧ e < N 15 12 ∧ N 22 e = i)) ∧ ∀ x, N 16 x = B 16 x ∨ (N 16 x < x ∧ ∃ e, 0 ≤ e ∧ e < N 15 11 ∧ N 21 e = x)
def CF (M N : Mem) : Prop := (∀ j, j ≠ 10 → j ≠ 15 → j ≠ 16 → j ≠ 19 → j ≠ 20 → j ≠ 21 → j ≠ 22 → N j = M j) ∧ ∀ i, i ≠ 10 → i ≠ 11 → i ≠ 12 → N 15 i = M 15 i
def CG (m : Int) (N : Mem) (it ch : Int → Int) : Prop := Fo m (N 16) ∧ (∀ x, 0 ≤ x → x < m → rt (N 16) x = rt it x) ∧ ∀ i, 0 ≤ i → i < 8 * m → N 10 i = ch i
theorem CF.t {M N L : Mem} (h : CF M N) (h2 : CF N L) : CF M L := ⟨fun j a b c d e f g => by rw [h2.1 j a b c d e f g, h.1 j a b c d e f g], fun i a b c => by rw [h2.2 i a b c, h.2 i a b c]⟩
/-- a high node into a low one, written down -/
def j16 (N : Mem) (lo hi : Int) : Mem := up (up (up N 16 hi lo) 21 (N 15 11) hi) 15 11 (N 15 11 + 1)
def j10 (N : Mem) (s v : Int) : Mem := up (up (up N 10 s v) 22 (N 15 12) s) 15 12 (N 15 12 + 1)
theorem j16_f {N : Mem} {lo hi : Int} : (∀ j, j ≠ 15 → j ≠ 16 → j ≠ 21 → j16 N lo hi j = N j) ∧ (∀ i, j16 N lo hi 15 i = if i = 11 then N 15 11 + 1 else N 15 i) ∧ (∀ i, j16 N lo hi 16 i = if i = hi then lo else N 16 i) ∧ ∀ i, j16 N lo hi 21 i = if i = N 15 11 then hi else N 21 i := by
  unfold j16
  exact ⟨fun j a b c => by rw [up_ne a, up_ne c, up_ne b], fun i => by rw [up_at, up_ne (by decide), up_ne (by decide)], fun i => by rw [up_ne (by decide), up_ne (by decide), up_at], fun i => by rw [up_ne (by decide), up_at, up_ne (by decide)]⟩
theorem j10_f {N : Mem} {s v : Int} : (∀ j, j ≠ 15 → j ≠ 10 → j ≠ 22 → j10 N s v j = N j) ∧ (∀ i, j10 N s v 15 i = if i = 12 then N 15 12 + 1 else N 15 i) ∧ (∀ i, j10 N s v 10 i = if i = s then v else N 10 i) ∧ ∀ i, j10 N s v 22 i = if i = N 15 12 then s else N 22 i := by
  unfold j10
  exact ⟨fun j a b c => by rw [up_ne a, up_ne c, up_ne b], fun i => by rw [up_at, up_ne (by decide), up_ne (by decide)], fun i => by rw [up_ne (by decide), up_ne (by decide), up_at], fun i => by rw [up_ne (by decide), up_at, up_ne (by decide)]⟩
theorem UC_16 {B N : Mem} {lo hi : Int} (h : UC B N) (hs : 0 ≤ N 15 11) (hx : 0 ≤ hi ∧ hi < 721) (hr : N 16 hi = hi) (hv : lo < hi) : UC B (j16 N lo hi) := by
  obtain ⟨f0, f1, f2, f3⟩ := j16_f (N := N) (lo := lo) (hi := hi)
  have e10 := f0 10 (by decide) (by decide) (by decide)
  have e22 := f0 22 (by decide) (by decide) (by decide)
  have e11 : j16 N lo hi 15 11 = N 15 11 + 1 := by rw [f1, if_pos rfl]
  have e12 : j16 N lo hi 15 12 = N 15 12 := by rw [f1, if_neg (by decide)]
  generalize j16 N lo hi = N' at *
  obtain ⟨a, b, c, d⟩ := h
  refine ⟨by rw [e22, e12]; exact a, fun e p q => ?_, by rw [e10, e22, e12]; exact c, fun x => ?_⟩
  · rw [f3]
    by_cases z : e = N 15 11
    · rw [if_pos z]
      refine ⟨hx, ?_⟩
      rcases d hi with w | w
      · rw [← w]; exact hr
      · omega
    · rw [if_neg z]; exact b e p (by omega)
  · rw [f2]
    by_cases z : x = hi
    · right; rw [if_pos z]; exact ⟨by omega, N 15 11, hs, by omega, by rw [f3, if_pos rfl, z]⟩
    · rw [if_neg z]
      rcases d x with w | ⟨w, e, w1, w2, w3⟩
      · exact Or.inl w
      · exact Or.inr ⟨w, e, w1, by omega, by rw [f3, if_neg (by omega)]; exact w3⟩
theorem UC_10 {B N : Mem} {s v : Int} (h : UC B N) (hs : 0 ≤ N 15 12) (hx : 0 ≤ s ∧ s < 5768) (hr : N 10 s = -1) (hv : ¬ v = -1) : UC B (j10 N s v) := by
  obtain ⟨f0, f1, f2, f3⟩ := j10_f (N := N) (s := s) (v := v)
  have e16 := f0 16 (by decide) (by decide) (by decide)
  have e21 := f0 21 (by decide) (by decide) (by decide)
  have e12 : j10 N s v 15 12 = N 15 12 + 1 := by rw [f1, if_pos rfl]
  have e11 : j10 N s v 15 11 = N 15 11 := by rw [f1, if_neg (by decide)]
  generalize j10 N s v = N' at *
  obtain ⟨a, b, c, d⟩ := h
  refine ⟨fun e p q => ?_, by rw [e21, e11]; exact b, fun i => ?_, by rw [e16, e21, e11]; exact d⟩
  · rw [f3]
    by_cases z : e = N 15 12
    · rw [if_pos z]
      refine ⟨hx, ?_⟩
      rcases c s with w | w
      · rw [← w]; exact hr
      · exact absurd hr w.1
    · rw [if_neg z]; exact a e p (by omega)
  · rw [f2]
    by_cases z : i = s
    · right; rw [if_pos z]; exact ⟨hv, N 15 12, hs, by omega, by rw [f3, if_pos rfl, z]⟩
    · rw [if_neg z]
      rcases c i with w | ⟨w, e, w1, w2, w3⟩
      · exact Or.inl w
      · exact Or.inr ⟨w, e, w1, by omega, by rw [f3, if_neg (by omega)]; exact w3⟩
theorem UC.p {B N : Mem} (h : UC B N) {a b v w z : Int} : UC B (up (up (up N 19 a v) 20 b w) 15 10 z) := by
  unfold UC
  rw [up_ne (show (10 : Nat) ≠ 15 by decide), up_ne (show (10 : Nat) ≠ 20 by decide), up_ne (show (10 : Nat) ≠ 19 by decide), up_ne (show (16 : Nat) ≠ 15 by decide), up_ne (show (16 : Nat) ≠ 20 by decide), up_ne (show (16 : Nat) ≠ 19 by decide), up_ne (show (21 : Nat) ≠ 15 by decide), up_ne (show (21 : Nat) ≠ 20 by decide), up_ne (show (21 : Nat) ≠ 19 by decide), up_ne (show (22 : Nat) ≠ 15 by decide), up_ne (show (22 : Nat) ≠ 20 by decide), up_ne (show (22 : Nat) ≠ 19 by decide), up_at, up_at, if_neg (by decide), if_neg (by decide), up_ne (show (15 : Nat) ≠ 20 by decide), up_ne (show (15 : Nat) ≠ 19 by decide)]
  exact h
theorem CF.p {B N : Mem} (h : CF B N) {a b v w z : Int} : CF B (up (up (up N 19 a v) 20 b w) 15 10 z) :=
  ⟨fun j p q r s t u x => by rw [up_ne q, up_ne t, up_ne s]; exact h.1 j p q r s t u x, fun i p q r => by rw [up_at, if_neg p, up_ne (by decide), up_ne (by decide)]; exact h.2 i p q r⟩
theorem CF.j16 {B N : Mem} (h : CF B N) {lo hi : Int} : CF B (j16 N lo hi) := by
  obtain ⟨f0, f1, -, -⟩ := j16_f (N := N) (lo := lo) (hi := hi)
  exact ⟨fun j p q r s t u x => by rw [f0 j q r u]; exact h.1 j p q r s t u x, fun i p q r => by rw [f1, if_neg q]; exact h.2 i p q r⟩
theorem CF.j10 {B N : Mem} (h : CF B N) {s v : Int} : CF B (j10 N s v) := by
  obtain ⟨f0, f1, -, -⟩ := j10_f (N := N) (s := s) (v := v)
  exact ⟨fun j p q r s t u x => by rw [f0 j q p x]; exact h.1 j p q r s t u x, fun i p q r => by rw [f1, if_neg r]; exact h.2 i p q r⟩
def JoP (B M N : Mem) (st : List (Int × Int)) (lo hi : Int) : Prop := CF M N ∧ UC B N ∧ N 16 = updI (M 16) hi lo ∧ N 10 = jn (M 10) lo hi 8 ∧ StR (N 19) (N 20) (pshI (M 10) lo hi 8 ++ st) ∧ N 15 10 = ((pshI (M 10) lo hi 8 ++ st).length : Int) ∧ N 15 11 = M 15 11 + 1 ∧ 0 ≤ N 15 12 ∧ N 15 12 ≤ M 15 12 + 8
theorem jn_cg {ch ch' : Int → Int} {m lo hi c : Int} (h : ∀ i, 0 ≤ i → i < 8 * m → ch i = ch' i) (hl : 0 ≤ lo ∧ lo < m) (hh : 0 ≤ hi ∧ hi < m) (hc : c ≤ 8) : ∀ i, 0 ≤ i → i < 8 * m → jn ch lo hi c i = jn ch' lo hi c i := by
  intro i a b
  unfold jn
  rw [h i a b]
  by_cases e : (8 * lo ≤ i ∧ i < 8 * lo + c) ∧ ch' i = -1
  · rw [if_pos e, if_pos e]; exact h _ (by omega) (by omega)
  · rw [if_neg e, if_neg e]
theorem psh_cg {ch ch' : Int → Int} {m lo hi : Int} (h : ∀ i, 0 ≤ i → i < 8 * m → ch i = ch' i) (hl : 0 ≤ lo ∧ lo < m) (hh : 0 ≤ hi ∧ hi < m) : ∀ c : Nat, c ≤ 8 → pshI ch lo hi c = pshI ch' lo hi c
  | 0, _ => rfl
  | c + 1, hc => by
    rw [pshI, pshI, psh_cg h hl hh c (by omega), h (8 * hi + c) (by omega) (by omega), h (8 * lo + c) (by omega) (by omega)]
set_option maxHeartbeats 4000000 in
set_option maxRecDepth 100000 in
theorem l_join {K : Kt} (B M : Mem) (st : List (Int × Int)) (lo hi : Int) (h0 : 0 ≤ lo ∧ lo < hi ∧ hi < 721) (hst : ((pshI (M 10) lo hi 8 ++ st).length : Int) ≤ 721) (h12 : 0 ≤ M 15 12 ∧ M 15 12 ≤ 5760) (C : Ctx shC nC RX6 cX6_join 6 none (lvl 1) (fun _ M' => JoP B M M' st lo hi) K) (N : Mem) (c : Int) (hc : 0 ≤ c ∧ c ≤ 8) (hF : CF M N) (hU : UC B N) (e16 : N 16 = updI (M 16) hi lo) (e10 : N 10 = jn (M 10) lo hi c) (hS : StR (N 19) (N 20) (pshI (M 10) lo hi c.toNat ++ st)) (hn : N 15 10 = ((pshI (M 10) lo hi c.toNat ++ st).length : Int)) (e11 : N 15 11 = M 15 11 + 1) (e12 : 0 ≤ N 15 12 ∧ N 15 12 ≤ M 15 12 + c) : K 51 [(0, .inr 15), (1, .inl lo), (2, .inl hi), (3, .inl c)] [] N := by
  have pl := pshI_len (ch := M 10) (lo := lo) (hi := hi) c.toNat 8 (by omega)
  have hstA := hst
  have hnA := hn
  rw [List.length_append] at hst hn
  refine k_iload_n C dX6_join_51 rfl rfl ?_
  refine k_bipush C dX6_join_52 (by decide) ?_
  refine k_icmp_ge C (tgt := 172) dX6_join_54 rfl (by omega) (by omega) (fun c54 => ?_) (fun c54 => ?_)
  · exact k_vret C dX6_join_172 (fun _ => by
      have e8 : c = 8 := by omega
      subst e8
      exact ⟨hF, hU, e16, e10, hS, hnA, e11, e12.1, e12.2⟩)
  · have eh : N 10 (8 * hi + c) = M 10 (8 * hi + c) := by rw [e10]; exact jn_hi (by omega) ⟨hc.1, c54⟩ hc.2
    have el : N 10 (8 * lo + c) = M 10 (8 * lo + c) := by rw [e10]; exact jn_lo
    have pl2 := pshI_len (ch := M 10) (lo := lo) (hi := hi) (c + 1).toNat 8 (by omega)
    refine k_aload_n C dX6_join_57 rfl rfl ?_
    refine k_getR C (j := 1) okC6 rfl (by decide) (by decide) rfl flX6_37 dX6_join_58 ?_
    refine k_getR C (j := 1) okC9 rfl (by decide) (by decide) rfl flX6_114 dX6_join_61 ?_
    refine k_iload_n C dX6_join_64 rfl rfl ?_
    refine k_bipush C dX6_join_65 (by decide) ?_
    refine k_imul C dX6_join_67 ?_
    refine k_iload_n C dX6_join_68 rfl rfl ?_
    refine k_iadd C dX6_join_69 ?_
    rw [show hi * 8 + c = 8 * hi + c by omega]
    refine k_iaload C rfl (by decide) (by decide) ⟨by omega, by omega⟩ dX6_join_70 (fun ld70 => ?_)
    rw [eh] at ld70 ⊢
    refine k_istore C dX6_join_71 (by decide) ?_
    refine k_iload_n C dX6_join_73 rfl rfl ?_
    refine k_bipush C dX6_join_74 (by decide) ?_
    refine k_imul C dX6_join_76 ?_
    refine k_iload_n C dX6_join_77 rfl rfl ?_
    refine k_iadd C dX6_join_78 ?_
    rw [show lo * 8 + c = 8 * lo + c by omega]
    refine k_istore C dX6_join_79 (by decide) ?_
    refine k_iload C dX6_join_81 rfl ?_
    refine k_iconst C dX6_join_83 ?_
    refine k_icmp_ne C (tgt := 90) dX6_join_84 rfl (by omega) (by omega) (fun c84 => ?_) (fun c84 => ?_)
    · refine k_aload_n C dX6_join_90 rfl rfl ?_
      refine k_getR C (j := 1) okC6 rfl (by decide) (by decide) rfl flX6_37 dX6_join_91 ?_
      refine k_getR C (j := 1) okC9 rfl (by decide) (by decide) rfl flX6_114 dX6_join_94 ?_
      refine k_iload C dX6_join_97 rfl ?_
      refine k_iaload C rfl (by decide) (by decide) ⟨by omega, by omega⟩ dX6_join_99 (fun ld99 => ?_)
      rw [el] at ld99 ⊢
      refine k_iconst C dX6_join_100 ?_
      refine k_icmp_eq C (tgt := 123) dX6_join_101 rfl (by omega) (by omega) (fun c101 => ?_) (fun c101 => ?_)
      · refine k_aload_n C dX6_join_123 rfl rfl ?_
        refine k_getJ C 12 12 rfl okC6 rfl (by decide) (by decide) rfl flX6_94 dX6_join_124 (fun ld124 => ?_)
        refine k_sipush C dX6_join_127 (by decide) ?_
        refine k_icmp_ge C (tgt := 166) dX6_join_130 rfl (by omega) (by omega) (fun c130 => ?_) (fun c130 => ?_)
        · refine k_iinc C dX6_join_166 (by decide) rfl ?_
          refine k_goto C (tgt := 51) dX6_join_169 rfl ?_
          refine k_cut2 C (lv' := [(0, _), (1, _), (2, _), (3, _)]) ⟨rfl, rfl, rfl, rfl, trivial⟩ ?_
          first
          | (have z0 : M 10 (8 * hi + c) = -1 := by omega
             have ps := pshI_s0 (lo := lo) hc.1 (Or.inl z0)
             exact l_join B M st lo hi h0 hstA h12 C N (c + 1) (by omega) hF hU e16 (by rw [jn_s0 hc.1 (Or.inl z0)]; exact e10) (by rw [ps]; exact hS) (by rw [ps]; exact hnA) e11 (by omega))
          | (refine l_join B M st lo hi h0 hstA h12 C _ (c + 1) (by omega) hF.p hU.p (by rw [up_ne (by decide), up_ne (by decide), up_ne (by decide)]; exact e16) (by rw [up_ne (by decide), up_ne (by decide), up_ne (by decide), jn_s0 hc.1 (Or.inr (by omega))]; exact e10) ?_ (by rw [up_same, ps, List.cons_append, List.length_cons, List.length_append]; omega) (by rw [up_at, if_neg (by decide), up_ne (by decide), up_ne (by decide)]; exact e11) (by rw [up_at, if_neg (by decide), up_ne (by decide), up_ne (by decide)]; omega)
             rw [ps, List.cons_append]
             refine ⟨Or.inl ?_, StR_up (fun i p1 p2 => ?_) hS⟩
             · rw [List.length_append, up_ne (show (19 : Nat) ≠ 15 by decide), up_ne (show (19 : Nat) ≠ 20 by decide), up_ne (show (20 : Nat) ≠ 15 by decide), up_at, up_at, if_pos (by omega), if_pos (by omega)]; exact ⟨rfl, rfl⟩
             · rw [List.length_append] at p2; rw [up_ne (show (19 : Nat) ≠ 15 by decide), up_ne (show (19 : Nat) ≠ 20 by decide), up_ne (show (20 : Nat) ≠ 15 by decide), up_at, up_at, if_neg (by omega), if_neg (by omega), up_ne (show (20 : Nat) ≠ 19 by decide)]; exact ⟨rfl, rfl⟩)
          | (have z0 : M 10 (8 * lo + c) = -1 := by omega
             have ps := pshI_s0 (hi := hi) hc.1 (Or.inr z0)
             obtain ⟨f0, f1, f2, f3⟩ := j10_f (N := N) (s := 8 * lo + c) (v := M 10 (8 * hi + c))
             have g12 : j10 N (8 * lo + c) (M 10 (8 * hi + c)) 15 12 = N 15 12 + 1 := by rw [f1, if_pos rfl]
             exact l_join B M st lo hi h0 hstA h12 C (j10 N (8 * lo + c) (M 10 (8 * hi + c))) (c + 1) (by omega) hF.j10 (UC_10 hU e12.1 (by omega) (by omega) (by omega)) (by rw [f0 16 (by decide) (by decide) (by decide)]; exact e16) (by funext i; rw [f2, jn_s2 hc.1 z0, e10]) (by rw [ps, f0 19 (by decide) (by decide) (by decide), f0 20 (by decide) (by decide) (by decide)]; exact hS) (by rw [ps, f1, if_neg (by decide)]; exact hnA) (by rw [f1, if_neg (by decide)]; exact e11) (by omega))
          | (exfalso; omega)
        · refine k_aload_n C dX6_join_133 rfl rfl ?_
          refine k_getR C (j := 1) okC6 rfl (by decide) (by decide) rfl flX6_37 dX6_join_134 ?_
          refine k_getR C (j := 1) okC9 rfl (by decide) (by decide) rfl flX6_114 dX6_join_137 ?_
          refine k_iload C dX6_join_140 rfl ?_
          refine k_iload C dX6_join_142 rfl ?_
          refine k_iastore C rfl (by decide) (by decide) ⟨by omega, by omega⟩ (by omega) dX6_join_144 ?_
          refine k_aload_n C dX6_join_145 rfl rfl ?_
          refine k_getR C (j := 8) okC6 rfl (by decide) (by decide) rfl flX6_30 dX6_join_146 ?_
          refine k_aload_n C dX6_join_149 rfl rfl ?_
          refine k_getJ C 12 12 rfl okC6 rfl (by decide) (by decide) rfl flX6_94 dX6_join_150 (fun ld150 => ?_)
          rw [up_ne (show (15 : Nat) ≠ 10 by decide)]
          refine k_iload C dX6_join_153 rfl ?_
          refine k_iastore C rfl (by decide) (by decide) ⟨by omega, by omega⟩ (by omega) dX6_join_155 ?_
          refine k_aload_n C dX6_join_156 rfl rfl ?_
          refine k_dup C dX6_join_157 ?_
          refine k_getJ C 12 12 rfl okC6 rfl (by decide) (by decide) rfl flX6_94 dX6_join_158 (fun ld158 => ?_)
          rw [up_ne (show (15 : Nat) ≠ 22 by decide), up_ne (show (15 : Nat) ≠ 10 by decide)]
          refine k_iconst C dX6_join_161 ?_
          refine k_iadd C dX6_join_162 ?_
          refine k_putJ C 12 12 rfl okC6 rfl (by decide) (by decide) rfl rfl rfl (by omega) flX6_94 dX6_join_163 ?_
          refine k_iinc C dX6_join_166 (by decide) rfl ?_
          refine k_goto C (tgt := 51) dX6_join_169 rfl ?_
          refine k_cut2 C (lv' := [(0, _), (1, _), (2, _), (3, _)]) ⟨rfl, rfl, rfl, rfl, trivial⟩ ?_
          first
          | (have z0 : M 10 (8 * hi + c) = -1 := by omega
             have ps := pshI_s0 (lo := lo) hc.1 (Or.inl z0)
             exact l_join B M st lo hi h0 hstA h12 C N (c + 1) (by omega) hF hU e16 (by rw [jn_s0 hc.1 (Or.inl z0)]; exact e10) (by rw [ps]; exact hS) (by rw [ps]; exact hnA) e11 (by omega))
          | (refine l_join B M st lo hi h0 hstA h12 C _ (c + 1) (by omega) hF.p hU.p (by rw [up_ne (by decide), up_ne (by decide), up_ne (by decide)]; exact e16) (by rw [up_ne (by decide), up_ne (by decide), up_ne (by decide), jn_s0 hc.1 (Or.inr (by omega))]; exact e10) ?_ (by rw [up_same, ps, List.cons_append, List.length_cons, List.length_append]; omega) (by rw [up_at, if_neg (by decide), up_ne (by decide), up_ne (by decide)]; exact e11) (by rw [up_at, if_neg (by decide), up_ne (by decide), up_ne (by decide)]; omega)
             rw [ps, List.cons_append]
             refine ⟨Or.inl ?_, StR_up (fun i p1 p2 => ?_) hS⟩
             · rw [List.length_append, up_ne (show (19 : Nat) ≠ 15 by decide), up_ne (show (19 : Nat) ≠ 20 by decide), up_ne (show (20 : Nat) ≠ 15 by decide), up_at, up_at, if_pos (by omega), if_pos (by omega)]; exact ⟨rfl, rfl⟩
             · rw [List.length_append] at p2; rw [up_ne (show (19 : Nat) ≠ 15 by decide), up_ne (show (19 : Nat) ≠ 20 by decide), up_ne (show (20 : Nat) ≠ 15 by decide), up_at, up_at, if_neg (by omega), if_neg (by omega), up_ne (show (20 : Nat) ≠ 19 by decide)]; exact ⟨rfl, rfl⟩)
          | (have z0 : M 10 (8 * lo + c) = -1 := by omega
             have ps := pshI_s0 (hi := hi) hc.1 (Or.inr z0)
             obtain ⟨f0, f1, f2, f3⟩ := j10_f (N := N) (s := 8 * lo + c) (v := M 10 (8 * hi + c))
             have g12 : j10 N (8 * lo + c) (M 10 (8 * hi + c)) 15 12 = N 15 12 + 1 := by rw [f1, if_pos rfl]
             exact l_join B M st lo hi h0 hstA h12 C (j10 N (8 * lo + c) (M 10 (8 * hi + c))) (c + 1) (by omega) hF.j10 (UC_10 hU e12.1 (by omega) (by omega) (by omega)) (by rw [f0 16 (by decide) (by decide) (by decide)]; exact e16) (by funext i; rw [f2, jn_s2 hc.1 z0, e10]) (by rw [ps, f0 19 (by decide) (by decide) (by decide), f0 20 (by decide) (by decide) (by decide)]; exact hS) (by rw [ps, f1, if_neg (by decide)]; exact hnA) (by rw [f1, if_neg (by decide)]; exact e11) (by omega))
          | (exfalso; omega)
      · refine k_aload_n C dX6_join_104 rfl rfl ?_
        refine k_iload C dX6_join_105 rfl ?_
        refine k_aload_n C dX6_join_107 rfl rfl ?_
        refine k_getR C (j := 1) okC6 rfl (by decide) (by decide) rfl flX6_37 dX6_join_108 ?_
        refine k_getR C (j := 1) okC9 rfl (by decide) (by decide) rfl flX6_114 dX6_join_111 ?_
        refine k_iload C dX6_join_114 rfl ?_
        refine k_iaload C rfl (by decide) (by decide) ⟨by omega, by omega⟩ dX6_join_116 (fun ld116 => ?_)
        rw [el] at ld116 ⊢
        have ps := pshI_s1 (ch := M 10) (lo := lo) (hi := hi) hc.1 (by omega)
        have pl3 : ((pshI (M 10) lo hi (c + 1).toNat).length : Int) = (pshI (M 10) lo hi c.toNat).length + 1 := by rw [ps, List.length_cons]; omega
        refine k_callV C okX6_100 dX6_join_117 (c_addPair N (by omega) (M 10 (8 * hi + c)) (M 10 (8 * lo + c)) ld70 ld116) rfl rfl (by decide) rfl (by decide) rfl (Nat.le_of_ble_eq_true rfl) (fun r117 M117 hr117 hp117 => ?_)
        subst hp117
        refine k_goto C (tgt := 166) dX6_join_120 rfl ?_
        refine k_iinc C dX6_join_166 (by decide) rfl ?_
        refine k_goto C (tgt := 51) dX6_join_169 rfl ?_
        refine k_cut2 C (lv' := [(0, _), (1, _), (2, _), (3, _)]) ⟨rfl, rfl, rfl, rfl, trivial⟩ ?_
        first
        | (have z0 : M 10 (8 * hi + c) = -1 := by omega
           have ps := pshI_s0 (lo := lo) hc.1 (Or.inl z0)
           exact l_join B M st lo hi h0 hstA h12 C N (c + 1) (by omega) hF hU e16 (by rw [jn_s0 hc.1 (Or.inl z0)]; exact e10) (by rw [ps]; exact hS) (by rw [ps]; exact hnA) e11 (by omega))
        | (refine l_join B M st lo hi h0 hstA h12 C _ (c + 1) (by omega) hF.p hU.p (by rw [up_ne (by decide), up_ne (by decide), up_ne (by decide)]; exact e16) (by rw [up_ne (by decide), up_ne (by decide), up_ne (by decide), jn_s0 hc.1 (Or.inr (by omega))]; exact e10) ?_ (by rw [up_same, ps, List.cons_append, List.length_cons, List.length_append]; omega) (by rw [up_at, if_neg (by decide), up_ne (by decide), up_ne (by decide)]; exact e11) (by rw [up_at, if_neg (by decide), up_ne (by decide), up_ne (by decide)]; omega)
           rw [ps, List.cons_append]
           refine ⟨Or.inl ?_, StR_up (fun i p1 p2 => ?_) hS⟩
           · rw [List.length_append, up_ne (show (19 : Nat) ≠ 15 by decide), up_ne (show (19 : Nat) ≠ 20 by decide), up_ne (show (20 : Nat) ≠ 15 by decide), up_at, up_at, if_pos (by omega), if_pos (by omega)]; exact ⟨rfl, rfl⟩
           · rw [List.length_append] at p2; rw [up_ne (show (19 : Nat) ≠ 15 by decide), up_ne (show (19 : Nat) ≠ 20 by decide), up_ne (show (20 : Nat) ≠ 15 by decide), up_at, up_at, if_neg (by omega), if_neg (by omega), up_ne (show (20 : Nat) ≠ 19 by decide)]; exact ⟨rfl, rfl⟩)
        | (have z0 : M 10 (8 * lo + c) = -1 := by omega
           have ps := pshI_s0 (hi := hi) hc.1 (Or.inr z0)
           obtain ⟨f0, f1, f2, f3⟩ := j10_f (N := N) (s := 8 * lo + c) (v := M 10 (8 * hi + c))
           have g12 : j10 N (8 * lo + c) (M 10 (8 * hi + c)) 15 12 = N 15 12 + 1 := by rw [f1, if_pos rfl]
           exact l_join B M st lo hi h0 hstA h12 C (j10 N (8 * lo + c) (M 10 (8 * hi + c))) (c + 1) (by omega) hF.j10 (UC_10 hU e12.1 (by omega) (by omega) (by omega)) (by rw [f0 16 (by decide) (by decide) (by decide)]; exact e16) (by funext i; rw [f2, jn_s2 hc.1 z0, e10]) (by rw [ps, f0 19 (by decide) (by decide) (by decide), f0 20 (by decide) (by decide) (by decide)]; exact hS) (by rw [ps, f1, if_neg (by decide)]; exact hnA) (by rw [f1, if_neg (by decide)]; exact e11) (by omega))
        | (exfalso; omega)
    · refine k_goto C (tgt := 166) dX6_join_87 rfl ?_
      refine k_iinc C dX6_join_166 (by decide) rfl ?_
      refine k_goto C (tgt := 51) dX6_join_169 rfl ?_
      refine k_cut2 C (lv' := [(0, _), (1, _), (2, _), (3, _)]) ⟨rfl, rfl, rfl, rfl, trivial⟩ ?_
      first
      | (have z0 : M 10 (8 * hi + c) = -1 := by omega
         have ps := pshI_s0 (lo := lo) hc.1 (Or.inl z0)
         exact l_join B M st lo hi h0 hstA h12 C N (c + 1) (by omega) hF hU e16 (by rw [jn_s0 hc.1 (Or.inl z0)]; exact e10) (by rw [ps]; exact hS) (by rw [ps]; exact hnA) e11 (by omega))
      | (refine l_join B M st lo hi h0 hstA h12 C _ (c + 1) (by omega) hF.p hU.p (by rw [up_ne (by decide), up_ne (by decide), up_ne (by decide)]; exact e16) (by rw [up_ne (by decide), up_ne (by decide), up_ne (by decide), jn_s0 hc.1 (Or.inr (by omega))]; exact e10) ?_ (by rw [up_same, ps, List.cons_append, List.length_cons, List.length_append]; omega) (by rw [up_at, if_neg (by decide), up_ne (by decide), up_ne (by decide)]; exact e11) (by rw [up_at, if_neg (by decide), up_ne (by decide), up_ne (by decide)]; omega)
         rw [ps, List.cons_append]
         refine ⟨Or.inl ?_, StR_up (fun i p1 p2 => ?_) hS⟩
         · rw [List.length_append, up_ne (show (19 : Nat) ≠ 15 by decide), up_ne (show (19 : Nat) ≠ 20 by decide), up_ne (show (20 : Nat) ≠ 15 by decide), up_at, up_at, if_pos (by omega), if_pos (by omega)]; exact ⟨rfl, rfl⟩
         · rw [List.length_append] at p2; rw [up_ne (show (19 : Nat) ≠ 15 by decide), up_ne (show (19 : Nat) ≠ 20 by decide), up_ne (show (20 : Nat) ≠ 15 by decide), up_at, up_at, if_neg (by omega), if_neg (by omega), up_ne (show (20 : Nat) ≠ 19 by decide)]; exact ⟨rfl, rfl⟩)
      | (have z0 : M 10 (8 * lo + c) = -1 := by omega
         have ps := pshI_s0 (hi := hi) hc.1 (Or.inr z0)
         obtain ⟨f0, f1, f2, f3⟩ := j10_f (N := N) (s := 8 * lo + c) (v := M 10 (8 * hi + c))
         have g12 : j10 N (8 * lo + c) (M 10 (8 * hi + c)) 15 12 = N 15 12 + 1 := by rw [f1, if_pos rfl]
         exact l_join B M st lo hi h0 hstA h12 C (j10 N (8 * lo + c) (M 10 (8 * hi + c))) (c + 1) (by omega) hF.j10 (UC_10 hU e12.1 (by omega) (by omega) (by omega)) (by rw [f0 16 (by decide) (by decide) (by decide)]; exact e16) (by funext i; rw [f2, jn_s2 hc.1 z0, e10]) (by rw [ps, f0 19 (by decide) (by decide) (by decide), f0 20 (by decide) (by decide) (by decide)]; exact hS) (by rw [ps, f1, if_neg (by decide)]; exact hnA) (by rw [f1, if_neg (by decide)]; exact e11) (by omega))
      | (exfalso; omega)
termination_by (8 - c).toNat
decreasing_by all_goals omega
set_option maxHeartbeats 4000000 in
set_option maxRecDepth 100000 in
theorem c_join (B M : Mem) (st : List (Int × Int)) (lo hi : Int) (h0 : 0 ≤ lo ∧ lo < hi ∧ hi < 721) (hst : ((pshI (M 10) lo hi 8 ++ st).length : Int) ≤ 721) (h12 : 0 ≤ M 15 12 ∧ M 15 12 ≤ 5760) (h11 : 0 ≤ M 15 11 ∧ M 15 11 < 721) (hU : UC B M) (hr : M 16 hi = hi) (hS : StR (M 19) (M 20) st) (hn : M 15 10 = (st.length : Int)) : Ct shC nC yX6_join cX6_join 6 none (lvl 1) [.inr 15, .inl lo, .inl hi] M (fun _ M' => JoP B M M' st lo hi) := by
  refine Ct_of (by decide +kernel) (Nat.le_of_ble_eq_true rfl) (fun K C => ?_)
  refine k_iload_n C dX6_join_0 rfl rfl ?_
  refine k_if_lt C (tgt := 21) dX6_join_1 rfl (by omega) (fun c1 => ?_) (fun c1 => ?_)
  · exfalso; omega
  · refine k_iload_n C dX6_join_4 rfl rfl ?_
    refine k_sipush C dX6_join_5 (by decide) ?_
    refine k_icmp_ge C (tgt := 21) dX6_join_8 rfl (by omega) (by omega) (fun c8 => ?_) (fun c8 => ?_)
    · exfalso; omega
    · refine k_aload_n C dX6_join_11 rfl rfl ?_
      refine k_getJ C 11 11 rfl okC6 rfl (by decide) (by decide) rfl flX6_91 dX6_join_12 (fun ld12 => ?_)
      refine k_sipush C dX6_join_15 (by decide) ?_
      refine k_icmp_lt C (tgt := 22) dX6_join_18 rfl (by omega) (by omega) (fun c18 => ?_) (fun c18 => ?_)
      · refine k_aload_n C dX6_join_22 rfl rfl ?_
        refine k_getR C (j := 2) okC6 rfl (by decide) (by decide) rfl flX6_9 dX6_join_23 ?_
        refine k_iload_n C dX6_join_26 rfl rfl ?_
        refine k_iload_n C dX6_join_27 rfl rfl ?_
        refine k_iastore C rfl (by decide) (by decide) ⟨by omega, by omega⟩ (by omega) dX6_join_28 ?_
        refine k_aload_n C dX6_join_29 rfl rfl ?_
        refine k_getR C (j := 7) okC6 rfl (by decide) (by decide) rfl flX6_27 dX6_join_30 ?_
        refine k_aload_n C dX6_join_33 rfl rfl ?_
        refine k_getJ C 11 11 rfl okC6 rfl (by decide) (by decide) rfl flX6_91 dX6_join_34 (fun ld34 => ?_)
        rw [up_ne (show (15 : Nat) ≠ 16 by decide)]
        refine k_iload_n C dX6_join_37 rfl rfl ?_
        refine k_iastore C rfl (by decide) (by decide) ⟨by omega, by omega⟩ (by omega) dX6_join_38 ?_
        refine k_aload_n C dX6_join_39 rfl rfl ?_
        refine k_dup C dX6_join_40 ?_
        refine k_getJ C 11 11 rfl okC6 rfl (by decide) (by decide) rfl flX6_91 dX6_join_41 (fun ld41 => ?_)
        rw [up_ne (show (15 : Nat) ≠ 21 by decide), up_ne (show (15 : Nat) ≠ 16 by decide)]
        refine k_iconst C dX6_join_44 ?_
        refine k_iadd C dX6_join_45 ?_
        refine k_putJ C 11 11 rfl okC6 rfl (by decide) (by decide) rfl rfl rfl (by omega) flX6_91 dX6_join_46 ?_
        refine k_iconst C dX6_join_49 ?_
        refine k_istore_n C dX6_join_50 rfl (by decide) ?_
        refine k_cut2 C (lv' := [(0, _), (1, _), (2, _), (3, _)]) ⟨rfl, rfl, rfl, rfl, trivial⟩ ?_
        obtain ⟨f0, f1, f2, f3⟩ := j16_f (N := M) (lo := lo) (hi := hi)
        refine l_join B M st lo hi h0 hst h12 C (j16 M lo hi) 0 (by omega) (CF.j16 ⟨fun _ _ _ _ _ _ _ _ => rfl, fun _ _ _ _ => rfl⟩) (UC_16 hU h11.1 (by omega) hr h0.2.1) (by funext i; rw [f2]; rfl) (by rw [jn_0]; exact f0 10 (by decide) (by decide) (by decide)) (by rw [f0 19 (by decide) (by decide) (by decide), f0 20 (by decide) (by decide) (by decide)]; exact hS) (by rw [f1, if_neg (by decide)]; exact hn) (by rw [f1, if_pos rfl]) (by rw [f1, if_neg (by decide)]; omega)
      · exfalso; omega
def MeC (m : Int) (M N : Mem) (it ch : Int → Int) (x y : Int) : Prop := CF M N ∧ UC M N ∧ CG m N (mst 721 it ch [(x, y)]).1 (mst 721 it ch [(x, y)]).2 ∧ 0 ≤ N 15 11 ∧ N 15 11 ≤ 721 ∧ 0 ≤ N 15 12 ∧ N 15 12 ≤ 5768
set_option maxHeartbeats 4000000 in
set_option maxRecDepth 100000 in
theorem l_melt {K : Kt} (M : Mem) (m : Int) (hm : m ≤ 721) (it0 ch0 : Int → Int) (x y : Int) (C : Ctx shC nC RX6 cX6_melt 6 none (lvl 2) (fun _ M' => MeC m M M' it0 ch0 x y) K) (f : Nat) (t : Int) (ht : t = 721 - f) (ht0 : 0 ≤ t) (it ch : Int → Int) (st : List (Int × Int)) (N : Mem) (hG : CG m N it ch) (hI : MI m it ch st t) (hF : CF M N) (hU : UC M N) (hS : StR (N 19) (N 20) st) (hn : N 15 10 = (st.length : Int)) (h11 : 0 ≤ N 15 11 ∧ N 15 11 ≤ t) (h12 : 0 ≤ N 15 12 ∧ N 15 12 ≤ 8 * t) (hr : mst f it ch st = mst 721 it0 ch0 [(x, y)]) : K 23 [(0, .inr 15), (1, .inl x), (2, .inl y), (3, .inl t)] [] N := by
  have eg : 0 ≤ Eg m it ch := by
    unfold Eg
    by_cases m0 : 0 ≤ 8 * m
    · exact (cnI_rg _ m0).1
    · unfold cnI; rw [show (8 * m).toNat = 0 by omega]; exact Int.le_refl _
  have h4 := hI.2.2.2
  cases st with
  | nil =>
    rw [List.length_nil] at hn
    refine k_iload_n C dX6_melt_23 rfl rfl ?_
    refine k_sipush C dX6_melt_24 (by decide) ?_
    refine k_icmp_ge C (tgt := 120) dX6_melt_27 rfl (by omega) (by omega) (fun c27 => ?_) (fun c27 => ?_)
    · exact k_vret C dX6_melt_120 (fun _ => ⟨hF, hU, by rw [← hr, mst_nil]; exact hG, by omega, by omega, by omega, by omega⟩)
    · refine k_aload_n C dX6_melt_30 rfl rfl ?_
      refine k_getJ C 10 10 rfl okC6 rfl (by decide) (by decide) rfl flX6_97 dX6_melt_31 (fun ld31 => ?_)
      refine k_if_le C (tgt := 120) dX6_melt_34 rfl (by omega) (fun c34 => ?_) (fun c34 => ?_)
      · exact k_vret C dX6_melt_120 (fun _ => ⟨hF, hU, by rw [← hr, mst_nil]; exact hG, by omega, by omega, by omega, by omega⟩)
      · exfalso; omega
  | cons p st' =>
    obtain ⟨u, v⟩ := p
    rw [List.length_cons] at h4 hn
    cases f with
    | zero => exfalso; omega
    | succ f =>
      have g := hI.2.2.1 (u, v) (List.mem_cons_self ..)
      have g1 := g.1; have g2 := g.2
      have hS1 := hS.1
      have hn1 : N 15 10 - 1 = (st'.length : Int) := by omega
      rw [← hn1] at hS1
      have ga : 0 ≤ N 19 (N 15 10 - 1) ∧ N 19 (N 15 10 - 1) < m := by rcases hS1 with z | z; rw [z.1]; exact g1; rw [z.1]; exact g2
      have gb : 0 ≤ N 20 (N 15 10 - 1) ∧ N 20 (N 15 10 - 1) < m := by rcases hS1 with z | z; rw [z.2]; exact g2; rw [z.2]; exact g1
      have ra := rt_ok hI.1 ga.1 ga.2
      have rb := rt_ok hI.1 gb.1 gb.2
      have eq1 := hG.2.1 _ ga.1 ga.2
      have eq2 := hG.2.1 _ gb.1 gb.2
      have e16 : up N 15 10 (N 15 10 - 1) 16 = N 16 := up_ne (by decide)
      have iP : ∀ l h, (rt it (N 19 (N 15 10 - 1)) = l ∧ rt it (N 20 (N 15 10 - 1)) = h) ∨ (rt it (N 19 (N 15 10 - 1)) = h ∧ rt it (N 20 (N 15 10 - 1)) = l) → isP it u v l h := by
        intro l h z
        unfold isP
        rcases hS1 with w | w
        · rw [w.1, w.2] at z; exact z
        · rw [w.1, w.2] at z; rcases z with z | z; exact Or.inr ⟨z.2, z.1⟩; exact Or.inl ⟨z.2, z.1⟩
      have e1 (j : Nat) (a : j ≠ 15) : up N 15 10 (N 15 10 - 1) j = N j := up_ne a
      have f1 (i : Int) : up N 15 10 (N 15 10 - 1) 15 i = if i = 10 then N 15 10 - 1 else N 15 i := up_at
      have key : ∀ lo hi, isP it u v lo hi → lo < hi → ∀ N2, JoP M (up N 15 10 (N 15 10 - 1)) N2 st' lo hi → K 23 [(0, .inr 15), (1, .inl x), (2, .inl y), (3, .inl (t + 1))] [] N2 := by
        intro lo hi hp hl N2 hJ
        obtain ⟨q1, q2, q3, q4⟩ := isP_ok hI.1 g1 g2 hp hl
        have r3 : N 16 lo = lo := (rt_root hG.1 q1 (by omega)).1 (by rw [hG.2.1 lo q1 (by omega)]; exact rt_self q3)
        have r4 : N 16 hi = hi := (rt_root hG.1 (by omega) q2).1 (by rw [hG.2.1 hi (by omega) q2]; exact rt_self q4)
        obtain ⟨j1, j2, j3, j4, j5, j6, j7, j8, j9⟩ := hJ
        rw [e1 16 (by decide)] at j3
        rw [e1 10 (by decide)] at j4 j5 j6
        rw [f1, if_neg (by decide)] at j7 j9
        rw [psh_cg hG.2.2 ⟨q1, by omega⟩ ⟨by omega, q2⟩ 8 (by omega)] at j5 j6
        have I2 := MI_ne hI hp hl
        refine l_melt M m hm it0 ch0 x y C f (t + 1) (by omega) (by omega) _ _ _ N2 ⟨?_, ?_, ?_⟩ I2 (CF.t hF (CF.t ⟨fun j a b c d e f g => e1 j b, fun i a b c => by rw [f1, if_neg a]⟩ j1)) j2 j5 j6 (by omega) (by omega) (by rw [← hr, mst_ne hp hl])
        · rw [j3]; exact updI_fo hG.1 q1 hl
        · intro z a b
          rw [j3, rt_up hG.1 q1 hl r3 r4 a b, rt_up hI.1 q1 hl q3 q4 a b, hG.2.1 z a b]
        · intro i a b
          rw [j4]; exact jn_cg hG.2.2 ⟨q1, by omega⟩ ⟨by omega, q2⟩ (by omega) i a b
      have cj : ∀ lo hi, isP it u v lo hi → lo < hi → (0 ≤ lo ∧ lo < hi ∧ hi < 721) ∧ ((pshI (up N 15 10 (N 15 10 - 1) 10) lo hi 8 ++ st').length : Int) ≤ 721 ∧ up N 15 10 (N 15 10 - 1) 16 hi = hi := by
        intro lo hi hp hl
        obtain ⟨q1, q2, q3, q4⟩ := isP_ok hI.1 g1 g2 hp hl
        have I2 := (MI_ne hI hp hl).2.2.2
        have eg2 : 0 ≤ Eg m (updI it hi lo) (jn ch lo hi 8) := by unfold Eg; exact (cnI_rg _ (by omega)).1
        rw [e1 10 (by decide), psh_cg hG.2.2 ⟨q1, by omega⟩ ⟨by omega, q2⟩ 8 (by omega)]
        exact ⟨⟨q1, hl, by omega⟩, by omega, by rw [e16]; exact (rt_root hG.1 (by omega) q2).1 (by rw [hG.2.1 hi (by omega) q2]; exact rt_self q4)⟩
      have hUN : UC M (up N 15 10 (N 15 10 - 1)) := by
        unfold UC
        rw [e1 10 (by decide), e1 16 (by decide), e1 21 (by decide), e1 22 (by decide), f1, f1, if_neg (by decide), if_neg (by decide)]; exact hU
      refine k_iload_n C dX6_melt_23 rfl rfl ?_
      refine k_sipush C dX6_melt_24 (by decide) ?_
      refine k_icmp_ge C (tgt := 120) dX6_melt_27 rfl (by omega) (by omega) (fun c27 => ?_) (fun c27 => ?_)
      · exfalso; omega
      · refine k_aload_n C dX6_melt_30 rfl rfl ?_
        refine k_getJ C 10 10 rfl okC6 rfl (by decide) (by decide) rfl flX6_97 dX6_melt_31 (fun ld31 => ?_)
        refine k_if_le C (tgt := 120) dX6_melt_34 rfl (by omega) (fun c34 => ?_) (fun c34 => ?_)
        · exfalso; omega
        · refine k_aload_n C dX6_melt_37 rfl rfl ?_
          refine k_dup C dX6_melt_38 ?_
          refine k_getJ C 10 10 rfl okC6 rfl (by decide) (by decide) rfl flX6_97 dX6_melt_39 (fun ld39 => ?_)
          refine k_iconst C dX6_melt_42 ?_
          refine k_isub C dX6_melt_43 ?_
          refine k_putJ C 10 10 rfl okC6 rfl (by decide) (by decide) rfl rfl rfl (by omega) flX6_97 dX6_melt_44 ?_
          refine k_aload_n C dX6_melt_47 rfl rfl ?_
          refine k_aload_n C dX6_melt_48 rfl rfl ?_
          refine k_getR C (j := 5) okC6 rfl (by decide) (by decide) rfl flX6_21 dX6_melt_49 ?_
          refine k_aload_n C dX6_melt_52 rfl rfl ?_
          refine k_getJ C 10 10 rfl okC6 rfl (by decide) (by decide) rfl flX6_97 dX6_melt_53 (fun ld53 => ?_)
          rw [up_same]
          refine k_iaload C rfl (by decide) (by decide) ⟨by omega, by omega⟩ dX6_melt_56 (fun ld56 => ?_)
          rw [e1 19 (by decide)]
          refine k_callV C okX6_69 dX6_melt_57 (c_standing (up N 15 10 (N 15 10 - 1)) m hm (by rw [e16]; exact hG.1) (N 19 (N 15 10 - 1)) (by omega)) rfl rfl (by decide) rfl (by decide) rfl (Nat.le_of_ble_eq_true rfl) (fun r57 M57 hr57 hp57 => ?_)
          obtain ⟨rfl, hp57⟩ := hp57
          have e57 : r57 = rt it (N 19 (N 15 10 - 1)) := by rcases hp57 with z | z; omega; rw [z.2, e16]; exact eq1
          subst e57
          refine k_istore C dX6_melt_60 (by decide) ?_
          refine k_aload_n C dX6_melt_62 rfl rfl ?_
          refine k_aload_n C dX6_melt_63 rfl rfl ?_
          refine k_getR C (j := 6) okC6 rfl (by decide) (by decide) rfl flX6_24 dX6_melt_64 ?_
          refine k_aload_n C dX6_melt_67 rfl rfl ?_
          refine k_getJ C 10 10 rfl okC6 rfl (by decide) (by decide) rfl flX6_97 dX6_melt_68 (fun ld68 => ?_)
          rw [up_same]
          refine k_iaload C rfl (by decide) (by decide) ⟨by omega, by omega⟩ dX6_melt_71 (fun ld71 => ?_)
          rw [e1 20 (by decide)]
          refine k_callV C okX6_69 dX6_melt_72 (c_standing (up N 15 10 (N 15 10 - 1)) m hm (by rw [e16]; exact hG.1) (N 20 (N 15 10 - 1)) (by omega)) rfl rfl (by decide) rfl (by decide) rfl (Nat.le_of_ble_eq_true rfl) (fun r72 M72 hr72 hp72 => ?_)
          obtain ⟨rfl, hp72⟩ := hp72
          have e72 : r72 = rt it (N 20 (N 15 10 - 1)) := by rcases hp72 with z | z; omega; rw [z.2, e16]; exact eq2
          subst e72
          refine k_istore C dX6_melt_75 (by decide) ?_
          refine k_iload C dX6_melt_77 rfl ?_
          refine k_iload C dX6_melt_79 rfl ?_
          refine k_icmp_eq C (tgt := 114) dX6_melt_81 rfl (by omega) (by omega) (fun c81 => ?_) (fun c81 => ?_)
          · refine k_iinc C dX6_melt_114 (by decide) rfl ?_
            refine k_goto C (tgt := 23) dX6_melt_117 rfl ?_
            refine k_cut2 C (lv' := [(0, _), (1, _), (2, _), (3, _)]) ⟨rfl, rfl, rfl, rfl, trivial⟩ ?_
            first
            | exact key _ _ ip lh _ hp111
            | (exfalso; omega)
            | (have ee : rt it u = rt it v := by rcases hS1 with w | w; (rw [w.1, w.2] at c81; exact c81); (rw [w.1, w.2] at c81; exact c81.symm)
               refine l_melt M m hm it0 ch0 x y C f (t + 1) (by omega) (by omega) it ch st' _ ⟨by rw [e16]; exact hG.1, by rw [e16]; exact hG.2.1, by rw [e1 10 (by decide)]; exact hG.2.2⟩ (MI_eq hI) (CF.t hF ⟨fun j a b c d e f g => e1 j b, fun i a b c => by rw [f1, if_neg a]⟩) hUN (by rw [e1 19 (by decide), e1 20 (by decide)]; exact hS.2) (by rw [f1, if_pos rfl]; exact hn1) (by rw [f1, if_neg (by decide)]; omega) (by rw [f1, if_neg (by decide)]; omega) (by rw [← hr, mst_eq ee]))
          · refine k_iload C dX6_melt_84 rfl ?_
            refine k_iconst C dX6_melt_86 ?_
            refine k_icmp_eq C (tgt := 114) dX6_melt_87 rfl (by omega) (by omega) (fun c87 => ?_) (fun c87 => ?_)
            · refine k_iinc C dX6_melt_114 (by decide) rfl ?_
              refine k_goto C (tgt := 23) dX6_melt_117 rfl ?_
              refine k_cut2 C (lv' := [(0, _), (1, _), (2, _), (3, _)]) ⟨rfl, rfl, rfl, rfl, trivial⟩ ?_
              first
              | exact key _ _ ip lh _ hp111
              | (exfalso; omega)
              | (have ee : rt it u = rt it v := by rcases hS1 with w | w; (rw [w.1, w.2] at c81; exact c81); (rw [w.1, w.2] at c81; exact c81.symm)
                 refine l_melt M m hm it0 ch0 x y C f (t + 1) (by omega) (by omega) it ch st' _ ⟨by rw [e16]; exact hG.1, by rw [e16]; exact hG.2.1, by rw [e1 10 (by decide)]; exact hG.2.2⟩ (MI_eq hI) (CF.t hF ⟨fun j a b c d e f g => e1 j b, fun i a b c => by rw [f1, if_neg a]⟩) hUN (by rw [e1 19 (by decide), e1 20 (by decide)]; exact hS.2) (by rw [f1, if_pos rfl]; exact hn1) (by rw [f1, if_neg (by decide)]; omega) (by rw [f1, if_neg (by decide)]; omega) (by rw [← hr, mst_eq ee]))
            · refine k_iload C dX6_melt_90 rfl ?_
              refine k_iconst C dX6_melt_92 ?_
              refine k_icmp_eq C (tgt := 114) dX6_melt_93 rfl (by omega) (by omega) (fun c93 => ?_) (fun c93 => ?_)
              · refine k_iinc C dX6_melt_114 (by decide) rfl ?_
                refine k_goto C (tgt := 23) dX6_melt_117 rfl ?_
                refine k_cut2 C (lv' := [(0, _), (1, _), (2, _), (3, _)]) ⟨rfl, rfl, rfl, rfl, trivial⟩ ?_
                first
                | exact key _ _ ip lh _ hp111
                | (exfalso; omega)
                | (have ee : rt it u = rt it v := by rcases hS1 with w | w; (rw [w.1, w.2] at c81; exact c81); (rw [w.1, w.2] at c81; exact c81.symm)
                   refine l_melt M m hm it0 ch0 x y C f (t + 1) (by omega) (by omega) it ch st' _ ⟨by rw [e16]; exact hG.1, by rw [e16]; exact hG.2.1, by rw [e1 10 (by decide)]; exact hG.2.2⟩ (MI_eq hI) (CF.t hF ⟨fun j a b c d e f g => e1 j b, fun i a b c => by rw [f1, if_neg a]⟩) hUN (by rw [e1 19 (by decide), e1 20 (by decide)]; exact hS.2) (by rw [f1, if_pos rfl]; exact hn1) (by rw [f1, if_neg (by decide)]; omega) (by rw [f1, if_neg (by decide)]; omega) (by rw [← hr, mst_eq ee]))
              · skip
                refine k_aload_n C dX6_melt_96 rfl rfl ?_
                refine k_iload C dX6_melt_97 rfl ?_
                refine k_iload C dX6_melt_99 rfl ?_
                refine k_min C (by omega) (by omega) okX6_103 dX6_melt_101 ⟨by decide, Nat.le_of_ble_eq_true rfl⟩ (fun r101 hp101 => ?_)
                refine k_iload C dX6_melt_104 rfl ?_
                refine k_iload C dX6_melt_106 rfl ?_
                refine k_max C (by omega) (by omega) okX6_108 dX6_melt_108 ⟨by decide, Nat.le_of_ble_eq_true rfl⟩ (fun r108 hp108 => ?_)
                have ip : isP it u v r101 r108 := iP _ _ (by omega)
                have lh : r101 < r108 := by omega
                refine k_callV C okX6_111 dX6_melt_111 (c_join M (up N 15 10 (N 15 10 - 1)) st' r101 r108 (cj _ _ ip lh).1 (cj _ _ ip lh).2.1 (by rw [f1, if_neg (by decide)]; omega) (by rw [f1, if_neg (by decide)]; omega) hUN (cj _ _ ip lh).2.2 (by rw [e1 19 (by decide), e1 20 (by decide)]; exact hS.2) (by rw [f1, if_pos rfl]; exact hn1)) rfl rfl (by decide) rfl (by decide) rfl (Nat.le_of_ble_eq_true rfl) (fun r111 M111 hr111 hp111 => ?_)
                refine k_iinc C dX6_melt_114 (by decide) rfl ?_
                refine k_goto C (tgt := 23) dX6_melt_117 rfl ?_
                refine k_cut2 C (lv' := [(0, _), (1, _), (2, _), (3, _)]) ⟨rfl, rfl, rfl, rfl, trivial⟩ ?_
                first
                | exact key _ _ ip lh _ hp111
                | (exfalso; omega)
                | (have ee : rt it u = rt it v := by rcases hS1 with w | w; (rw [w.1, w.2] at c81; exact c81); (rw [w.1, w.2] at c81; exact c81.symm)
                   refine l_melt M m hm it0 ch0 x y C f (t + 1) (by omega) (by omega) it ch st' _ ⟨by rw [e16]; exact hG.1, by rw [e16]; exact hG.2.1, by rw [e1 10 (by decide)]; exact hG.2.2⟩ (MI_eq hI) (CF.t hF ⟨fun j a b c d e f g => e1 j b, fun i a b c => by rw [f1, if_neg a]⟩) hUN (by rw [e1 19 (by decide), e1 20 (by decide)]; exact hS.2) (by rw [f1, if_pos rfl]; exact hn1) (by rw [f1, if_neg (by decide)]; omega) (by rw [f1, if_neg (by decide)]; omega) (by rw [← hr, mst_eq ee]))
termination_by f
set_option maxHeartbeats 4000000 in
set_option maxRecDepth 100000 in
theorem c_melt (M : Mem) (m : Int) (hm : m ≤ 721) (it ch : Int → Int) (x y : Int) (hG : CG m M it ch) (hI : MI m it ch [(x, y)] 0) : Ct shC nC yX6_melt cX6_melt 6 none (lvl 2) [.inr 15, .inl x, .inl y] M (fun _ M' => MeC m M M' it ch x y) := by
  refine Ct_of (by decide +kernel) (Nat.le_of_ble_eq_true rfl) (fun K C => ?_)
  have g := hI.2.2.1 (x, y) (List.mem_cons_self ..)
  have g1 := g.1; have g2 := g.2
  simp only at g1 g2
  have z10 : up (up (up M 15 11 0) 15 12 0) 15 10 0 15 10 = 0 := up_same
  refine k_aload_n C dX6_melt_0 rfl rfl ?_
  refine k_iconst C dX6_melt_1 ?_
  refine k_putJ C 11 11 rfl okC6 rfl (by decide) (by decide) rfl rfl rfl (by omega) flX6_91 dX6_melt_2 ?_
  refine k_aload_n C dX6_melt_5 rfl rfl ?_
  refine k_iconst C dX6_melt_6 ?_
  refine k_putJ C 12 12 rfl okC6 rfl (by decide) (by decide) rfl rfl rfl (by omega) flX6_94 dX6_melt_7 ?_
  refine k_aload_n C dX6_melt_10 rfl rfl ?_
  refine k_iconst C dX6_melt_11 ?_
  refine k_putJ C 10 10 rfl okC6 rfl (by decide) (by decide) rfl rfl rfl (by omega) flX6_97 dX6_melt_12 ?_
  refine k_aload_n C dX6_melt_15 rfl rfl ?_
  refine k_iload_n C dX6_melt_16 rfl rfl ?_
  refine k_iload_n C dX6_melt_17 rfl rfl ?_
  refine k_callV C okX6_100 dX6_melt_18 (c_addPair (up (up (up M 15 11 0) 15 12 0) 15 10 0) (by rw [z10]; omega) x y (by omega) (by omega)) rfl rfl (by decide) rfl (by decide) rfl (Nat.le_of_ble_eq_true rfl) (fun r18 M18 hr18 hp18 => ?_)
  rw [z10] at hp18
  subst hp18
  refine k_iconst C dX6_melt_21 ?_
  refine k_istore_n C dX6_melt_22 rfl (by decide) ?_
  refine k_cut2 C (lv' := [(0, _), (1, _), (2, _), (3, _)]) ⟨rfl, rfl, rfl, rfl, trivial⟩ ?_
  have e (j : Nat) (a : j ≠ 15 ∧ j ≠ 19 ∧ j ≠ 20) : up (up (up (up (up (up M 15 11 0) 15 12 0) 15 10 0) 19 0 x) 20 0 y) 15 10 (0 + 1) j = M j := by rw [up_ne a.1, up_ne a.2.2, up_ne a.2.1, up_ne a.1, up_ne a.1, up_ne a.1]
  have e15 (i : Int) : up (up (up (up (up (up M 15 11 0) 15 12 0) 15 10 0) 19 0 x) 20 0 y) 15 10 (0 + 1) 15 i = if i = 10 then 1 else if i = 12 then 0 else if i = 11 then 0 else M 15 i := by rw [up_at, up_ne (show (15 : Nat) ≠ 20 by decide), up_ne (show (15 : Nat) ≠ 19 by decide), up_at, up_at, up_at]; split <;> rfl
  have s19 : up (up (up (up (up (up M 15 11 0) 15 12 0) 15 10 0) 19 0 x) 20 0 y) 15 10 (0 + 1) 19 0 = x := by rw [up_ne (show (19 : Nat) ≠ 15 by decide), up_ne (show (19 : Nat) ≠ 20 by decide)]; exact up_same
  have s20 : up (up (up (up (up (up M 15 11 0) 15 12 0) 15 10 0) 19 0 x) 20 0 y) 15 10 (0 + 1) 20 0 = y := by rw [up_ne (show (20 : Nat) ≠ 15 by decide)]; exact up_same
  generalize up (up (up (up (up (up M 15 11 0) 15 12 0) 15 10 0) 19 0 x) 20 0 y) 15 10 (0 + 1) = N at e e15 s19 s20 ⊢
  have q11 : N 15 11 = 0 := by rw [e15]; rfl
  have q12 : N 15 12 = 0 := by rw [e15]; rfl
  refine l_melt M m hm it ch x y C 721 0 rfl (by omega) it ch [(x, y)] N (by unfold CG; rw [e 16 (by decide), e 10 (by decide)]; exact hG) hI ⟨fun j a b c d f g h => e j ⟨b, d, f⟩, fun i a b c => by rw [e15, if_neg a, if_neg c, if_neg b]⟩ ⟨fun z p q => by omega, fun z p q => by omega, fun i => Or.inl (by rw [e 10 (by decide)]), fun i => Or.inl (by rw [e 16 (by decide)])⟩ ⟨Or.inl ⟨s19, s20⟩, trivial⟩ (by rw [e15]; rfl) (by omega) (by omega) rfl
set_option maxHeartbeats 4000000 in
set_option maxRecDepth 100000 in
theorem l_back2 {K : Kt} (B M : Mem) (hU : UC B M) (hs : 0 ≤ M 15 11 ∧ M 15 11 ≤ 721 ∧ 0 ≤ M 15 12 ∧ M 15 12 ≤ 5768) (C : Ctx shC nC RX6 cX6_takeBack 3 none (lvl 0) (fun _ M' => M' 10 = B 10 ∧ M' 16 = B 16 ∧ ∀ j, j ≠ 10 → j ≠ 16 → M' j = M j) K) (N : Mem) (hf : ∀ j, j ≠ 10 → j ≠ 16 → N j = M j) (i : Int) (hi : 0 ≤ i ∧ i ≤ M 15 11) (h10 : N 10 = B 10) (hc : ∀ x, N 16 x = B 16 x ∨ ∃ e, i ≤ e ∧ e < M 15 11 ∧ M 21 e = x) : K 46 [(0, .inr 15), (1, .inl i)] [] N := by
  have n15 := hf 15 (by decide) (by decide)
  have n21 := hf 21 (by decide) (by decide)
  refine k_iload_n C dX6_takeBack_46 rfl rfl ?_
  refine k_aload_n C dX6_takeBack_47 rfl rfl ?_
  refine k_getJ C 11 11 rfl okC6 rfl (by decide) (by decide) rfl flX6_91 dX6_takeBack_48 (fun ld48 => ?_)
  rw [n15]
  refine k_icmp_ge C (tgt := 85) dX6_takeBack_51 rfl (by omega) (by omega) (fun c51 => ?_) (fun c51 => ?_)
  · exact k_vret C dX6_takeBack_85 (fun _ => ⟨h10, by funext x; rcases hc x with w | ⟨e, w1, w2, w3⟩; exact w; omega, hf⟩)
  · have hb := hU.2.1 i hi.1 c51
    refine k_aload_n C dX6_takeBack_54 rfl rfl ?_
    refine k_getR C (j := 7) okC6 rfl (by decide) (by decide) rfl flX6_27 dX6_takeBack_55 ?_
    refine k_iload_n C dX6_takeBack_58 rfl rfl ?_
    refine k_iaload C rfl (by decide) (by decide) ⟨by omega, by omega⟩ dX6_takeBack_59 (fun ld59 => ?_)
    rw [n21] at ld59 ⊢
    refine k_istore_n C dX6_takeBack_60 rfl (by decide) ?_
    refine k_iload_n C dX6_takeBack_61 rfl rfl ?_
    refine k_if_lt C (tgt := 79) dX6_takeBack_62 rfl (by omega) (fun c62 => ?_) (fun c62 => ?_)
    · refine k_iinc C dX6_takeBack_79 (by decide) rfl ?_
      refine k_goto C (tgt := 46) dX6_takeBack_82 rfl ?_
      refine k_cut2 C (lv' := [(0, _), (1, _)]) ⟨rfl, rfl, trivial⟩ ?_
      first
      | (exfalso; omega)
      | (refine l_back2 B M hU hs C _ (fun j a b => by rw [up_ne b]; exact hf j a b) (i + 1) (by omega) (by rw [up_ne (by decide)]; exact h10) (fun x => ?_)
         rw [up_at]
         by_cases z : x = M 21 i
         · left; rw [if_pos z, z]; exact hb.2.symm
         · rw [if_neg z]; rcases hc x with w | ⟨e, w1, w2, w3⟩
           · exact Or.inl w
           · right; exact ⟨e, by by_cases q : e = i; exact absurd (by rw [← w3, q]) z; omega, w2, w3⟩)
    · refine k_iload_n C dX6_takeBack_65 rfl rfl ?_
      refine k_sipush C dX6_takeBack_66 (by decide) ?_
      refine k_icmp_ge C (tgt := 79) dX6_takeBack_69 rfl (by omega) (by omega) (fun c69 => ?_) (fun c69 => ?_)
      · refine k_iinc C dX6_takeBack_79 (by decide) rfl ?_
        refine k_goto C (tgt := 46) dX6_takeBack_82 rfl ?_
        refine k_cut2 C (lv' := [(0, _), (1, _)]) ⟨rfl, rfl, trivial⟩ ?_
        first
        | (exfalso; omega)
        | (refine l_back2 B M hU hs C _ (fun j a b => by rw [up_ne b]; exact hf j a b) (i + 1) (by omega) (by rw [up_ne (by decide)]; exact h10) (fun x => ?_)
           rw [up_at]
           by_cases z : x = M 21 i
           · left; rw [if_pos z, z]; exact hb.2.symm
           · rw [if_neg z]; rcases hc x with w | ⟨e, w1, w2, w3⟩
             · exact Or.inl w
             · right; exact ⟨e, by by_cases q : e = i; exact absurd (by rw [← w3, q]) z; omega, w2, w3⟩)
      · refine k_aload_n C dX6_takeBack_72 rfl rfl ?_
        refine k_getR C (j := 2) okC6 rfl (by decide) (by decide) rfl flX6_9 dX6_takeBack_73 ?_
        refine k_iload_n C dX6_takeBack_76 rfl rfl ?_
        refine k_iload_n C dX6_takeBack_77 rfl rfl ?_
        refine k_iastore C rfl (by decide) (by decide) ⟨by omega, by omega⟩ (by omega) dX6_takeBack_78 ?_
        refine k_iinc C dX6_takeBack_79 (by decide) rfl ?_
        refine k_goto C (tgt := 46) dX6_takeBack_82 rfl ?_
        refine k_cut2 C (lv' := [(0, _), (1, _)]) ⟨rfl, rfl, trivial⟩ ?_
        first
        | (exfalso; omega)
        | (refine l_back2 B M hU hs C _ (fun j a b => by rw [up_ne b]; exact hf j a b) (i + 1) (by omega) (by rw [up_ne (by decide)]; exact h10) (fun x => ?_)
           rw [up_at]
           by_cases z : x = M 21 i
           · left; rw [if_pos z, z]; exact hb.2.symm
           · rw [if_neg z]; rcases hc x with w | ⟨e, w1, w2, w3⟩
             · exact Or.inl w
             · right; exact ⟨e, by by_cases q : e = i; exact absurd (by rw [← w3, q]) z; omega, w2, w3⟩)
termination_by (M 15 11 - i).toNat
decreasing_by all_goals omega
set_option maxHeartbeats 4000000 in
set_option maxRecDepth 100000 in
theorem l_back1 {K : Kt} (B M : Mem) (hU : UC B M) (hs : 0 ≤ M 15 11 ∧ M 15 11 ≤ 721 ∧ 0 ≤ M 15 12 ∧ M 15 12 ≤ 5768) (C : Ctx shC nC RX6 cX6_takeBack 3 none (lvl 0) (fun _ M' => M' 10 = B 10 ∧ M' 16 = B 16 ∧ ∀ j, j ≠ 10 → j ≠ 16 → M' j = M j) K) (N : Mem) (hf : ∀ j, j ≠ 10 → j ≠ 16 → N j = M j) (i : Int) (hi : 0 ≤ i ∧ i ≤ M 15 12) (h16 : N 16 = M 16) (hc : ∀ x, N 10 x = B 10 x ∨ ∃ e, i ≤ e ∧ e < M 15 12 ∧ M 22 e = x) : K 2 [(0, .inr 15), (1, .inl i)] [] N := by
  have n15 := hf 15 (by decide) (by decide)
  have n22 := hf 22 (by decide) (by decide)
  refine k_iload_n C dX6_takeBack_2 rfl rfl ?_
  refine k_aload_n C dX6_takeBack_3 rfl rfl ?_
  refine k_getJ C 12 12 rfl okC6 rfl (by decide) (by decide) rfl flX6_94 dX6_takeBack_4 (fun ld4 => ?_)
  rw [n15]
  refine k_icmp_ge C (tgt := 44) dX6_takeBack_7 rfl (by omega) (by omega) (fun c7 => ?_) (fun c7 => ?_)
  · refine k_iconst C dX6_takeBack_44 ?_
    refine k_istore_n C dX6_takeBack_45 rfl (by decide) ?_
    refine k_cut2 C (lv' := [(0, _), (1, _)]) ⟨rfl, rfl, trivial⟩ ?_
    exact l_back2 B M hU hs C N hf 0 (by omega) (by funext x; rcases hc x with w | ⟨e, w1, w2, w3⟩; exact w; omega) (fun x => by rw [h16]; rcases hU.2.2.2 x with w | w; exact Or.inl w; exact Or.inr w.2)
  · have hb := hU.1 i hi.1 c7
    refine k_aload_n C dX6_takeBack_10 rfl rfl ?_
    refine k_getR C (j := 8) okC6 rfl (by decide) (by decide) rfl flX6_30 dX6_takeBack_11 ?_
    refine k_iload_n C dX6_takeBack_14 rfl rfl ?_
    refine k_iaload C rfl (by decide) (by decide) ⟨by omega, by omega⟩ dX6_takeBack_15 (fun ld15 => ?_)
    rw [n22] at ld15 ⊢
    refine k_istore_n C dX6_takeBack_16 rfl (by decide) ?_
    refine k_iload_n C dX6_takeBack_17 rfl rfl ?_
    refine k_if_lt C (tgt := 38) dX6_takeBack_18 rfl (by omega) (fun c18 => ?_) (fun c18 => ?_)
    · refine k_iinc C dX6_takeBack_38 (by decide) rfl ?_
      refine k_goto C (tgt := 2) dX6_takeBack_41 rfl ?_
      refine k_cut2 C (lv' := [(0, _), (1, _)]) ⟨rfl, rfl, trivial⟩ ?_
      first
      | (exfalso; omega)
      | (refine l_back1 B M hU hs C _ (fun j a b => by rw [up_ne a]; exact hf j a b) (i + 1) (by omega) (by rw [up_ne (by decide)]; exact h16) (fun x => ?_)
         rw [up_at]
         by_cases z : x = M 22 i
         · left; rw [if_pos z, z]; exact hb.2.symm
         · rw [if_neg z]; rcases hc x with w | ⟨e, w1, w2, w3⟩
           · exact Or.inl w
           · right; exact ⟨e, by by_cases q : e = i; exact absurd (by rw [← w3, q]) z; omega, w2, w3⟩)
    · refine k_iload_n C dX6_takeBack_21 rfl rfl ?_
      refine k_sipush C dX6_takeBack_22 (by decide) ?_
      refine k_icmp_ge C (tgt := 38) dX6_takeBack_25 rfl (by omega) (by omega) (fun c25 => ?_) (fun c25 => ?_)
      · refine k_iinc C dX6_takeBack_38 (by decide) rfl ?_
        refine k_goto C (tgt := 2) dX6_takeBack_41 rfl ?_
        refine k_cut2 C (lv' := [(0, _), (1, _)]) ⟨rfl, rfl, trivial⟩ ?_
        first
        | (exfalso; omega)
        | (refine l_back1 B M hU hs C _ (fun j a b => by rw [up_ne a]; exact hf j a b) (i + 1) (by omega) (by rw [up_ne (by decide)]; exact h16) (fun x => ?_)
           rw [up_at]
           by_cases z : x = M 22 i
           · left; rw [if_pos z, z]; exact hb.2.symm
           · rw [if_neg z]; rcases hc x with w | ⟨e, w1, w2, w3⟩
             · exact Or.inl w
             · right; exact ⟨e, by by_cases q : e = i; exact absurd (by rw [← w3, q]) z; omega, w2, w3⟩)
      · refine k_aload_n C dX6_takeBack_28 rfl rfl ?_
        refine k_getR C (j := 1) okC6 rfl (by decide) (by decide) rfl flX6_37 dX6_takeBack_29 ?_
        refine k_getR C (j := 1) okC9 rfl (by decide) (by decide) rfl flX6_114 dX6_takeBack_32 ?_
        refine k_iload_n C dX6_takeBack_35 rfl rfl ?_
        refine k_iconst C dX6_takeBack_36 ?_
        refine k_iastore C rfl (by decide) (by decide) ⟨by omega, by omega⟩ (by omega) dX6_takeBack_37 ?_
        refine k_iinc C dX6_takeBack_38 (by decide) rfl ?_
        refine k_goto C (tgt := 2) dX6_takeBack_41 rfl ?_
        refine k_cut2 C (lv' := [(0, _), (1, _)]) ⟨rfl, rfl, trivial⟩ ?_
        first
        | (exfalso; omega)
        | (refine l_back1 B M hU hs C _ (fun j a b => by rw [up_ne a]; exact hf j a b) (i + 1) (by omega) (by rw [up_ne (by decide)]; exact h16) (fun x => ?_)
           rw [up_at]
           by_cases z : x = M 22 i
           · left; rw [if_pos z, z]; exact hb.2.symm
           · rw [if_neg z]; rcases hc x with w | ⟨e, w1, w2, w3⟩
             · exact Or.inl w
             · right; exact ⟨e, by by_cases q : e = i; exact absurd (by rw [← w3, q]) z; omega, w2, w3⟩)
termination_by (M 15 12 - i).toNat
decreasing_by all_goals omega
set_option maxHeartbeats 4000000 in
set_option maxRecDepth 100000 in
theorem c_takeBack (B M : Mem) (hU : UC B M) (hs : 0 ≤ M 15 11 ∧ M 15 11 ≤ 721 ∧ 0 ≤ M 15 12 ∧ M 15 12 ≤ 5768) : Ct shC nC yX6_takeBack cX6_takeBack 3 none (lvl 0) [.inr 15] M (fun _ M' => M' 10 = B 10 ∧ M' 16 = B 16 ∧ ∀ j, j ≠ 10 → j ≠ 16 → M' j = M j) := by
  refine Ct_of (by decide +kernel) (Nat.le_of_ble_eq_true rfl) (fun K C => ?_)
  refine k_iconst C dX6_takeBack_0 ?_
  refine k_istore_n C dX6_takeBack_1 rfl (by decide) ?_
  refine k_cut2 C (lv' := [(0, _), (1, _)]) ⟨rfl, rfl, trivial⟩ ?_
  exact l_back1 B M hU hs C M (fun _ _ _ => rfl) 0 (by omega) rfl (fun x => by rcases hU.2.2.1 x with w | w; exact Or.inl w; exact Or.inr w.2)
