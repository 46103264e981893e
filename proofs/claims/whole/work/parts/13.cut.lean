/-! a cut of the locals, their values found first -/
theorem k_cut2 {sh : Nat → Sh} {N : Nat} {own : String} {cc : ByteArray} {nL : Nat} {ret : Option FieldType} {R : Room} {post : Int → Mem → Prop} {K : Kt} {pc : Nat} {lv : Lv} {stk : List V} {M : Mem} (C : Ctx sh N own cc nL ret R post K) {lv' : Lv} (hv : subl lv' lv) (kk : K pc lv' stk M) : K pc lv stk M := k_cut C kk hv
