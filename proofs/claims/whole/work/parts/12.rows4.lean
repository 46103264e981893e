/-! rows with plain numbers for places and lengths; a cut of the locals -/
def subl : Lv → Lv → Prop
  | [], _ => True
  | (i, v) :: t, lv => lk lv i = some v ∧ subl t lv
theorem subl_mem : ∀ {lv' lv : Lv}, subl lv' lv → ∀ q ∈ lv', lk lv q.1 = some q.2
  | [], _, _, q, hq => by simp at hq
  | (i, v) :: t, lv, h, q, hq => by
    rcases List.mem_cons.mp hq with rfl | hq
    · exact h.1
    · exact subl_mem h.2 q hq
section ROWS4
variable {sh : Nat → Sh} {N : Nat} {own : String} {cc : ByteArray} {nL : Nat} {ret : Option FieldType} {R : Room} {post : Int → Mem → Prop} {K : Kt}
variable {pc : Nat} {lv : Lv} {stk : List V} {M : Mem}
theorem k_cut (C : Ctx sh N own cc nL ret R post K) {lv' : Lv} (kk : K pc lv' stk M) (hv : subl lv' lv) : K pc lv stk M := k_sub C lv' (subl_mem hv) kk
theorem k_getJ (C : Ctx sh N own cc nL ret R post K) {k ci n index : Nat} (j : Nat) (ji : Int) (hji : (j : Int) = ji) {fs : List (Option Nat)} {CC : String} {T : u_T} {ty : Nat → FieldType} (hc : okC ci CC T n ty) (hs : sh k = .inr (ci, fs)) (hk : k < N) (hj : j < n) (hf : fs[j]? = some none) (hw : Cond.fieldLink own index (T j).1 (T j).2.1 (T j).2.2.1 ∈ tbg) (hd : decode cc pc = .ok (.getfield index, 3)) (kk : inR (M k ji) → K (pc + 3) lv (.inl (M k ji) :: stk) M) : K pc lv (.inr k :: stk) M := by
  subst hji; exact k_getI C hc hs hk hj hf hw hd kk
theorem k_putJ (C : Ctx sh N own cc nL ret R post K) {k ci n index : Nat} (j : Nat) (ji : Int) (hji : (j : Int) = ji) {fs : List (Option Nat)} {CC : String} {T : u_T} {ty : Nat → FieldType} {v : Int} (hc : okC ci CC T n ty) (hs : sh k = .inr (ci, fs)) (hk : k < N) (hj : j < n) (hf : fs[j]? = some none) (hfin : (T j).2.2.2 = false) (hty : ty j = .int) (hv : inR v) (hw : Cond.fieldLink own index (T j).1 (T j).2.1 (T j).2.2.1 ∈ tbg) (hd : decode cc pc = .ok (.putfield index, 3)) (kk : K (pc + 3) lv stk (up M k ji v)) : K pc lv (.inl v :: .inr k :: stk) M := by
  subst hji; exact k_putI C hc hs hk hj hf hfin hty hv hw hd kk
theorem k_putB (C : Ctx sh N own cc nL ret R post K) {k ci n index : Nat} (j : Nat) (ji : Int) (hji : (j : Int) = ji) {fs : List (Option Nat)} {CC : String} {T : u_T} {ty : Nat → FieldType} {v : Int} (hc : okC ci CC T n ty) (hs : sh k = .inr (ci, fs)) (hk : k < N) (hj : j < n) (hf : fs[j]? = some none) (hfin : (T j).2.2.2 = false) (hty : ty j = .boolean) (hv : v = 0 ∨ v = 1) (hw : Cond.fieldLink own index (T j).1 (T j).2.1 (T j).2.2.1 ∈ tbg) (hd : decode cc pc = .ok (.putfield index, 3)) (kk : K (pc + 3) lv stk (up M k ji v)) : K pc lv (.inl v :: .inr k :: stk) M := by
  subst hji; exact k_putZ C hc hs hk hj hf hfin hty hv hw hd kk
theorem k_len (C : Ctx sh N own cc nL ret R post K) {k n : Nat} {ty : FieldType} (hs : sh k = .inl (ty, n)) (hk : k < N) (hty : ty = .int ∨ ty = .boolean ∨ ty = .byte) (hd : decode cc pc = .ok (.arraylength, 1)) (kk : ∀ ni : Int, ni = n → K (pc + 1) lv (.inl ni :: stk) M) : K pc lv (.inr k :: stk) M :=
  k_alen C hs hk hty hd (kk _ rfl)
end ROWS4
