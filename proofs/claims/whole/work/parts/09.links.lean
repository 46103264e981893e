set_option maxRecDepth 100000 in
theorem good_l {ws : List Cond} (h : ∀ w ∈ ws, w ∈ tbg) : GoodIn tbg ws := fun w hw => tbl_in w (h w hw)
set_option maxRecDepth 100000 in
theorem in_t {w : Cond} (h : w ∈ tables_1) (g : goodWord w = true) : w ∈ tbg := List.mem_filter.mpr ⟨List.mem_append_right _ h, g⟩
set_option maxRecDepth 100000 in
theorem in_s {w : Cond} (i : Nat) (h : (k2_sels lw_privs)[i]? = some w) (g : goodWord w = true) : w ∈ tbg := List.mem_filter.mpr ⟨List.mem_append_left _ (List.mem_of_getElem? h), g⟩
set_option maxRecDepth 100000 in
theorem in_1 {w : Cond} (i : Nat) (h : tables_1_1[i]? = some w) (g : goodWord w = true) : w ∈ tbg := in_t (List.mem_append_left _ (List.mem_of_getElem? h)) g
set_option maxRecDepth 100000 in
theorem in_2 {w : Cond} (i : Nat) (h : tables_1_2[i]? = some w) (g : goodWord w = true) : w ∈ tbg := in_t (List.mem_append_right _ (List.mem_append_left _ (List.mem_of_getElem? h))) g
set_option maxRecDepth 100000 in
theorem in_3 {w : Cond} (i : Nat) (h : tables_1_3[i]? = some w) (g : goodWord w = true) : w ∈ tbg := in_t (List.mem_append_right _ (List.mem_append_right _ (List.mem_append_left _ (List.mem_of_getElem? h)))) g
set_option maxRecDepth 100000 in
theorem in_4 {w : Cond} (i : Nat) (h : tables_1_4[i]? = some w) (g : goodWord w = true) : w ∈ tbg := in_t (List.mem_append_right _ (List.mem_append_right _ (List.mem_append_right _ (List.mem_append_left _ (List.mem_of_getElem? h))))) g
set_option maxRecDepth 100000 in
theorem in_5 {w : Cond} (i : Nat) (h : tables_1_5[i]? = some w) (g : goodWord w = true) : w ∈ tbg := in_t (List.mem_append_right _ (List.mem_append_right _ (List.mem_append_right _ (List.mem_append_right _ (List.mem_append_left _ (List.mem_of_getElem? h)))))) g
set_option maxRecDepth 100000 in
theorem in_6 {w : Cond} (i : Nat) (h : tables_1_6[i]? = some w) (g : goodWord w = true) : w ∈ tbg := in_t (List.mem_append_right _ (List.mem_append_right _ (List.mem_append_right _ (List.mem_append_right _ (List.mem_append_right _ (List.mem_of_getElem? h)))))) g
set_option maxRecDepth 100000 in
theorem ly0_0 : u_lay RX0 TX0 0 ∈ tbg := in_1 72 (by decide +kernel) rfl
set_option maxRecDepth 100000 in
theorem ly0_1 : u_lay RX0 TX0 1 ∈ tbg := in_1 74 (by decide +kernel) rfl
set_option maxRecDepth 100000 in
theorem ly0_2 : u_lay RX0 TX0 2 ∈ tbg := in_1 76 (by decide +kernel) rfl
set_option maxRecDepth 100000 in
theorem ly0_3 : u_lay RX0 TX0 3 ∈ tbg := in_1 78 (by decide +kernel) rfl
set_option maxRecDepth 100000 in
theorem ly0_4 : u_lay RX0 TX0 4 ∈ tbg := in_1 80 (by decide +kernel) rfl
set_option maxRecDepth 100000 in
theorem ly0_5 : u_lay RX0 TX0 5 ∈ tbg := in_1 82 (by decide +kernel) rfl
set_option maxRecDepth 100000 in
theorem ly0_6 : u_lay RX0 TX0 6 ∈ tbg := in_1 84 (by decide +kernel) rfl
set_option maxRecDepth 100000 in
theorem ly0 : ∀ w ∈ u_ws RX0 TX0 7, w ∈ tbg := by
  intro w hw
  obtain ⟨k, hk, rfl⟩ := List.mem_map.mp hw
  have hk := List.mem_range.mp hk
  match k, hk with
  | 0, _ => exact ly0_0
  | 1, _ => exact ly0_1
  | 2, _ => exact ly0_2
  | 3, _ => exact ly0_3
  | 4, _ => exact ly0_4
  | 5, _ => exact ly0_5
  | 6, _ => exact ly0_6
  | k + 7, h => omega
set_option maxRecDepth 100000 in
theorem okC0 : okC 0 RX0 TX0 7 tyX0 := ⟨rfl, ly0, tyX0_ok, nmX0⟩
set_option maxRecDepth 100000 in
theorem ly1_0 : u_lay RX1 TX1 0 ∈ tbg := in_1 201 (by decide +kernel) rfl
set_option maxRecDepth 100000 in
theorem ly1_1 : u_lay RX1 TX1 1 ∈ tbg := in_1 203 (by decide +kernel) rfl
set_option maxRecDepth 100000 in
theorem ly1_2 : u_lay RX1 TX1 2 ∈ tbg := in_1 205 (by decide +kernel) rfl
set_option maxRecDepth 100000 in
theorem ly1_3 : u_lay RX1 TX1 3 ∈ tbg := in_1 207 (by decide +kernel) rfl
set_option maxRecDepth 100000 in
theorem ly1_4 : u_lay RX1 TX1 4 ∈ tbg := in_1 209 (by decide +kernel) rfl
set_option maxRecDepth 100000 in
theorem ly1 : ∀ w ∈ u_ws RX1 TX1 5, w ∈ tbg := by
  intro w hw
  obtain ⟨k, hk, rfl⟩ := List.mem_map.mp hw
  have hk := List.mem_range.mp hk
  match k, hk with
  | 0, _ => exact ly1_0
  | 1, _ => exact ly1_1
  | 2, _ => exact ly1_2
  | 3, _ => exact ly1_3
  | 4, _ => exact ly1_4
  | k + 5, h => omega
set_option maxRecDepth 100000 in
theorem okC1 : okC 1 RX1 TX1 5 tyX1 := ⟨rfl, ly1, tyX1_ok, nmX1⟩
set_option maxRecDepth 100000 in
theorem ly2_0 : u_lay RX2 TX2 0 ∈ tbg := in_2 86 (by decide +kernel) rfl
set_option maxRecDepth 100000 in
theorem ly2_1 : u_lay RX2 TX2 1 ∈ tbg := in_2 88 (by decide +kernel) rfl
set_option maxRecDepth 100000 in
theorem ly2_2 : u_lay RX2 TX2 2 ∈ tbg := in_2 90 (by decide +kernel) rfl
set_option maxRecDepth 100000 in
theorem ly2_3 : u_lay RX2 TX2 3 ∈ tbg := in_2 92 (by decide +kernel) rfl
set_option maxRecDepth 100000 in
theorem ly2 : ∀ w ∈ u_ws RX2 TX2 4, w ∈ tbg := by
  intro w hw
  obtain ⟨k, hk, rfl⟩ := List.mem_map.mp hw
  have hk := List.mem_range.mp hk
  match k, hk with
  | 0, _ => exact ly2_0
  | 1, _ => exact ly2_1
  | 2, _ => exact ly2_2
  | 3, _ => exact ly2_3
  | k + 4, h => omega
set_option maxRecDepth 100000 in
theorem okC2 : okC 2 RX2 TX2 4 tyX2 := ⟨rfl, ly2, tyX2_ok, nmX2⟩
set_option maxRecDepth 100000 in
theorem ly3_0 : u_lay RX3 TX3 0 ∈ tbg := in_2 28 (by decide +kernel) rfl
set_option maxRecDepth 100000 in
theorem ly3_1 : u_lay RX3 TX3 1 ∈ tbg := in_2 30 (by decide +kernel) rfl
set_option maxRecDepth 100000 in
theorem ly3_2 : u_lay RX3 TX3 2 ∈ tbg := in_2 32 (by decide +kernel) rfl
set_option maxRecDepth 100000 in
theorem ly3_3 : u_lay RX3 TX3 3 ∈ tbg := in_2 34 (by decide +kernel) rfl
set_option maxRecDepth 100000 in
theorem ly3_4 : u_lay RX3 TX3 4 ∈ tbg := in_2 36 (by decide +kernel) rfl
set_option maxRecDepth 100000 in
theorem ly3_5 : u_lay RX3 TX3 5 ∈ tbg := in_2 38 (by decide +kernel) rfl
set_option maxRecDepth 100000 in
theorem ly3_6 : u_lay RX3 TX3 6 ∈ tbg := in_2 40 (by decide +kernel) rfl
set_option maxRecDepth 100000 in
theorem ly3_7 : u_lay RX3 TX3 7 ∈ tbg := in_2 42 (by decide +kernel) rfl
set_option maxRecDepth 100000 in
theorem ly3_8 : u_lay RX3 TX3 8 ∈ tbg := in_2 44 (by decide +kernel) rfl
set_option maxRecDepth 100000 in
theorem ly3_9 : u_lay RX3 TX3 9 ∈ tbg := in_2 46 (by decide +kernel) rfl
set_option maxRecDepth 100000 in
theorem ly3 : ∀ w ∈ u_ws RX3 TX3 10, w ∈ tbg := by
  intro w hw
  obtain ⟨k, hk, rfl⟩ := List.mem_map.mp hw
  have hk := List.mem_range.mp hk
  match k, hk with
  | 0, _ => exact ly3_0
  | 1, _ => exact ly3_1
  | 2, _ => exact ly3_2
  | 3, _ => exact ly3_3
  | 4, _ => exact ly3_4
  | 5, _ => exact ly3_5
  | 6, _ => exact ly3_6
  | 7, _ => exact ly3_7
  | 8, _ => exact ly3_8
  | 9, _ => exact ly3_9
  | k + 10, h => omega
set_option maxRecDepth 100000 in
theorem okC3 : okC 3 RX3 TX3 10 tyX3 := ⟨rfl, ly3, tyX3_ok, nmX3⟩
set_option maxRecDepth 100000 in
theorem ly4_0 : u_lay RX4 TX4 0 ∈ tbg := in_1 183 (by decide +kernel) rfl
set_option maxRecDepth 100000 in
theorem ly4_1 : u_lay RX4 TX4 1 ∈ tbg := in_1 185 (by decide +kernel) rfl
set_option maxRecDepth 100000 in
theorem ly4_2 : u_lay RX4 TX4 2 ∈ tbg := in_1 187 (by decide +kernel) rfl
set_option maxRecDepth 100000 in
theorem ly4 : ∀ w ∈ u_ws RX4 TX4 3, w ∈ tbg := by
  intro w hw
  obtain ⟨k, hk, rfl⟩ := List.mem_map.mp hw
  have hk := List.mem_range.mp hk
  match k, hk with
  | 0, _ => exact ly4_0
  | 1, _ => exact ly4_1
  | 2, _ => exact ly4_2
  | k + 3, h => omega
set_option maxRecDepth 100000 in
theorem okC4 : okC 4 RX4 TX4 3 tyX4 := ⟨rfl, ly4, tyX4_ok, nmX4⟩
set_option maxRecDepth 100000 in
theorem ly5_0 : u_lay RX5 TX5 0 ∈ tbg := in_1 44 (by decide +kernel) rfl
set_option maxRecDepth 100000 in
theorem ly5_1 : u_lay RX5 TX5 1 ∈ tbg := in_1 46 (by decide +kernel) rfl
set_option maxRecDepth 100000 in
theorem ly5 : ∀ w ∈ u_ws RX5 TX5 2, w ∈ tbg := by
  intro w hw
  obtain ⟨k, hk, rfl⟩ := List.mem_map.mp hw
  have hk := List.mem_range.mp hk
  match k, hk with
  | 0, _ => exact ly5_0
  | 1, _ => exact ly5_1
  | k + 2, h => omega
set_option maxRecDepth 100000 in
theorem okC5 : okC 5 RX5 TX5 2 tyX5 := ⟨rfl, ly5, tyX5_ok, nmX5⟩
set_option maxRecDepth 100000 in
theorem ly6_0 : u_lay RX6 TX6 0 ∈ tbg := in_1 142 (by decide +kernel) rfl
set_option maxRecDepth 100000 in
theorem ly6_1 : u_lay RX6 TX6 1 ∈ tbg := in_1 144 (by decide +kernel) rfl
set_option maxRecDepth 100000 in
theorem ly6_2 : u_lay RX6 TX6 2 ∈ tbg := in_1 146 (by decide +kernel) rfl
set_option maxRecDepth 100000 in
theorem ly6_3 : u_lay RX6 TX6 3 ∈ tbg := in_1 148 (by decide +kernel) rfl
set_option maxRecDepth 100000 in
theorem ly6_4 : u_lay RX6 TX6 4 ∈ tbg := in_1 150 (by decide +kernel) rfl
set_option maxRecDepth 100000 in
theorem ly6_5 : u_lay RX6 TX6 5 ∈ tbg := in_1 152 (by decide +kernel) rfl
set_option maxRecDepth 100000 in
theorem ly6_6 : u_lay RX6 TX6 6 ∈ tbg := in_1 154 (by decide +kernel) rfl
set_option maxRecDepth 100000 in
theorem ly6_7 : u_lay RX6 TX6 7 ∈ tbg := in_1 156 (by decide +kernel) rfl
set_option maxRecDepth 100000 in
theorem ly6_8 : u_lay RX6 TX6 8 ∈ tbg := in_1 158 (by decide +kernel) rfl
set_option maxRecDepth 100000 in
theorem ly6_9 : u_lay RX6 TX6 9 ∈ tbg := in_1 160 (by decide +kernel) rfl
set_option maxRecDepth 100000 in
theorem ly6_10 : u_lay RX6 TX6 10 ∈ tbg := in_1 162 (by decide +kernel) rfl
set_option maxRecDepth 100000 in
theorem ly6_11 : u_lay RX6 TX6 11 ∈ tbg := in_1 164 (by decide +kernel) rfl
set_option maxRecDepth 100000 in
theorem ly6_12 : u_lay RX6 TX6 12 ∈ tbg := in_1 166 (by decide +kernel) rfl
set_option maxRecDepth 100000 in
theorem ly6 : ∀ w ∈ u_ws RX6 TX6 13, w ∈ tbg := by
  intro w hw
  obtain ⟨k, hk, rfl⟩ := List.mem_map.mp hw
  have hk := List.mem_range.mp hk
  match k, hk with
  | 0, _ => exact ly6_0
  | 1, _ => exact ly6_1
  | 2, _ => exact ly6_2
  | 3, _ => exact ly6_3
  | 4, _ => exact ly6_4
  | 5, _ => exact ly6_5
  | 6, _ => exact ly6_6
  | 7, _ => exact ly6_7
  | 8, _ => exact ly6_8
  | 9, _ => exact ly6_9
  | 10, _ => exact ly6_10
  | 11, _ => exact ly6_11
  | 12, _ => exact ly6_12
  | k + 13, h => omega
set_option maxRecDepth 100000 in
theorem okC6 : okC 6 RX6 TX6 13 tyX6 := ⟨rfl, ly6, tyX6_ok, nmX6⟩
set_option maxRecDepth 100000 in
theorem ly7_0 : u_lay RX7 TX7 0 ∈ tbg := in_2 63 (by decide +kernel) rfl
set_option maxRecDepth 100000 in
theorem ly7_1 : u_lay RX7 TX7 1 ∈ tbg := in_2 65 (by decide +kernel) rfl
set_option maxRecDepth 100000 in
theorem ly7_2 : u_lay RX7 TX7 2 ∈ tbg := in_2 67 (by decide +kernel) rfl
set_option maxRecDepth 100000 in
theorem ly7_3 : u_lay RX7 TX7 3 ∈ tbg := in_2 69 (by decide +kernel) rfl
set_option maxRecDepth 100000 in
theorem ly7_4 : u_lay RX7 TX7 4 ∈ tbg := in_2 71 (by decide +kernel) rfl
set_option maxRecDepth 100000 in
theorem ly7_5 : u_lay RX7 TX7 5 ∈ tbg := in_2 73 (by decide +kernel) rfl
set_option maxRecDepth 100000 in
theorem ly7 : ∀ w ∈ u_ws RX7 TX7 6, w ∈ tbg := by
  intro w hw
  obtain ⟨k, hk, rfl⟩ := List.mem_map.mp hw
  have hk := List.mem_range.mp hk
  match k, hk with
  | 0, _ => exact ly7_0
  | 1, _ => exact ly7_1
  | 2, _ => exact ly7_2
  | 3, _ => exact ly7_3
  | 4, _ => exact ly7_4
  | 5, _ => exact ly7_5
  | k + 6, h => omega
set_option maxRecDepth 100000 in
theorem okC7 : okC 7 RX7 TX7 6 tyX7 := ⟨rfl, ly7, tyX7_ok, nmX7⟩
set_option maxRecDepth 100000 in
theorem ly8_0 : u_lay RX8 TX8 0 ∈ tbg := in_1 232 (by decide +kernel) rfl
set_option maxRecDepth 100000 in
theorem ly8_1 : u_lay RX8 TX8 1 ∈ tbg := in_1 234 (by decide +kernel) rfl
set_option maxRecDepth 100000 in
theorem ly8_2 : u_lay RX8 TX8 2 ∈ tbg := in_1 236 (by decide +kernel) rfl
set_option maxRecDepth 100000 in
theorem ly8_3 : u_lay RX8 TX8 3 ∈ tbg := in_1 238 (by decide +kernel) rfl
set_option maxRecDepth 100000 in
theorem ly8_4 : u_lay RX8 TX8 4 ∈ tbg := in_2 0 (by decide +kernel) rfl
set_option maxRecDepth 100000 in
theorem ly8_5 : u_lay RX8 TX8 5 ∈ tbg := in_2 2 (by decide +kernel) rfl
set_option maxRecDepth 100000 in
theorem ly8_6 : u_lay RX8 TX8 6 ∈ tbg := in_2 4 (by decide +kernel) rfl
set_option maxRecDepth 100000 in
theorem ly8_7 : u_lay RX8 TX8 7 ∈ tbg := in_2 6 (by decide +kernel) rfl
set_option maxRecDepth 100000 in
theorem ly8 : ∀ w ∈ u_ws RX8 TX8 8, w ∈ tbg := by
  intro w hw
  obtain ⟨k, hk, rfl⟩ := List.mem_map.mp hw
  have hk := List.mem_range.mp hk
  match k, hk with
  | 0, _ => exact ly8_0
  | 1, _ => exact ly8_1
  | 2, _ => exact ly8_2
  | 3, _ => exact ly8_3
  | 4, _ => exact ly8_4
  | 5, _ => exact ly8_5
  | 6, _ => exact ly8_6
  | 7, _ => exact ly8_7
  | k + 8, h => omega
set_option maxRecDepth 100000 in
theorem okC8 : okC 8 RX8 TX8 8 tyX8 := ⟨rfl, ly8, tyX8_ok, nmX8⟩
set_option maxRecDepth 100000 in
theorem ly9_0 : u_lay RX9 TX9 0 ∈ tbg := in_1 108 (by decide +kernel) rfl
set_option maxRecDepth 100000 in
theorem ly9_1 : u_lay RX9 TX9 1 ∈ tbg := in_1 110 (by decide +kernel) rfl
set_option maxRecDepth 100000 in
theorem ly9_2 : u_lay RX9 TX9 2 ∈ tbg := in_1 112 (by decide +kernel) rfl
set_option maxRecDepth 100000 in
theorem ly9_3 : u_lay RX9 TX9 3 ∈ tbg := in_1 114 (by decide +kernel) rfl
set_option maxRecDepth 100000 in
theorem ly9_4 : u_lay RX9 TX9 4 ∈ tbg := in_1 116 (by decide +kernel) rfl
set_option maxRecDepth 100000 in
theorem ly9_5 : u_lay RX9 TX9 5 ∈ tbg := in_1 118 (by decide +kernel) rfl
set_option maxRecDepth 100000 in
theorem ly9_6 : u_lay RX9 TX9 6 ∈ tbg := in_1 120 (by decide +kernel) rfl
set_option maxRecDepth 100000 in
theorem ly9 : ∀ w ∈ u_ws RX9 TX9 7, w ∈ tbg := by
  intro w hw
  obtain ⟨k, hk, rfl⟩ := List.mem_map.mp hw
  have hk := List.mem_range.mp hk
  match k, hk with
  | 0, _ => exact ly9_0
  | 1, _ => exact ly9_1
  | 2, _ => exact ly9_2
  | 3, _ => exact ly9_3
  | 4, _ => exact ly9_4
  | 5, _ => exact ly9_5
  | 6, _ => exact ly9_6
  | k + 7, h => omega
set_option maxRecDepth 100000 in
theorem okC9 : okC 9 RX9 TX9 7 tyX9 := ⟨rfl, ly9, tyX9_ok, nmX9⟩
set_option maxRecDepth 100000 in
theorem ly10_0 : u_lay RX10 TX10 0 ∈ tbg := in_2 106 (by decide +kernel) rfl
set_option maxRecDepth 100000 in
theorem ly10_1 : u_lay RX10 TX10 1 ∈ tbg := in_2 108 (by decide +kernel) rfl
set_option maxRecDepth 100000 in
theorem ly10_2 : u_lay RX10 TX10 2 ∈ tbg := in_2 110 (by decide +kernel) rfl
set_option maxRecDepth 100000 in
theorem ly10_3 : u_lay RX10 TX10 3 ∈ tbg := in_2 112 (by decide +kernel) rfl
set_option maxRecDepth 100000 in
theorem ly10_4 : u_lay RX10 TX10 4 ∈ tbg := in_2 114 (by decide +kernel) rfl
set_option maxRecDepth 100000 in
theorem ly10_5 : u_lay RX10 TX10 5 ∈ tbg := in_2 116 (by decide +kernel) rfl
set_option maxRecDepth 100000 in
theorem ly10_6 : u_lay RX10 TX10 6 ∈ tbg := in_2 118 (by decide +kernel) rfl
set_option maxRecDepth 100000 in
theorem ly10_7 : u_lay RX10 TX10 7 ∈ tbg := in_2 120 (by decide +kernel) rfl
set_option maxRecDepth 100000 in
theorem ly10_8 : u_lay RX10 TX10 8 ∈ tbg := in_2 122 (by decide +kernel) rfl
set_option maxRecDepth 100000 in
theorem ly10_9 : u_lay RX10 TX10 9 ∈ tbg := in_2 124 (by decide +kernel) rfl
set_option maxRecDepth 100000 in
theorem ly10_10 : u_lay RX10 TX10 10 ∈ tbg := in_2 126 (by decide +kernel) rfl
set_option maxRecDepth 100000 in
theorem ly10 : ∀ w ∈ u_ws RX10 TX10 11, w ∈ tbg := by
  intro w hw
  obtain ⟨k, hk, rfl⟩ := List.mem_map.mp hw
  have hk := List.mem_range.mp hk
  match k, hk with
  | 0, _ => exact ly10_0
  | 1, _ => exact ly10_1
  | 2, _ => exact ly10_2
  | 3, _ => exact ly10_3
  | 4, _ => exact ly10_4
  | 5, _ => exact ly10_5
  | 6, _ => exact ly10_6
  | 7, _ => exact ly10_7
  | 8, _ => exact ly10_8
  | 9, _ => exact ly10_9
  | 10, _ => exact ly10_10
  | k + 11, h => omega
set_option maxRecDepth 100000 in
theorem okC10 : okC 10 RX10 TX10 11 tyX10 := ⟨rfl, ly10, tyX10_ok, nmX10⟩
set_option maxRecDepth 100000 in
theorem ly11_0 : u_lay RX11 TX11 0 ∈ tbg := in_5 37 (by decide +kernel) rfl
set_option maxRecDepth 100000 in
theorem ly11_1 : u_lay RX11 TX11 1 ∈ tbg := in_5 39 (by decide +kernel) rfl
set_option maxRecDepth 100000 in
theorem ly11_2 : u_lay RX11 TX11 2 ∈ tbg := in_5 41 (by decide +kernel) rfl
set_option maxRecDepth 100000 in
theorem ly11_3 : u_lay RX11 TX11 3 ∈ tbg := in_5 43 (by decide +kernel) rfl
set_option maxRecDepth 100000 in
theorem ly11_4 : u_lay RX11 TX11 4 ∈ tbg := in_5 45 (by decide +kernel) rfl
set_option maxRecDepth 100000 in
theorem ly11_5 : u_lay RX11 TX11 5 ∈ tbg := in_5 47 (by decide +kernel) rfl
set_option maxRecDepth 100000 in
theorem ly11_6 : u_lay RX11 TX11 6 ∈ tbg := in_5 49 (by decide +kernel) rfl
set_option maxRecDepth 100000 in
theorem ly11_7 : u_lay RX11 TX11 7 ∈ tbg := in_5 51 (by decide +kernel) rfl
set_option maxRecDepth 100000 in
theorem ly11_8 : u_lay RX11 TX11 8 ∈ tbg := in_5 53 (by decide +kernel) rfl
set_option maxRecDepth 100000 in
theorem ly11_9 : u_lay RX11 TX11 9 ∈ tbg := in_5 55 (by decide +kernel) rfl
set_option maxRecDepth 100000 in
theorem ly11_10 : u_lay RX11 TX11 10 ∈ tbg := in_5 57 (by decide +kernel) rfl
set_option maxRecDepth 100000 in
theorem ly11_11 : u_lay RX11 TX11 11 ∈ tbg := in_5 59 (by decide +kernel) rfl
set_option maxRecDepth 100000 in
theorem ly11_12 : u_lay RX11 TX11 12 ∈ tbg := in_5 61 (by decide +kernel) rfl
set_option maxRecDepth 100000 in
theorem ly11_13 : u_lay RX11 TX11 13 ∈ tbg := in_5 63 (by decide +kernel) rfl
set_option maxRecDepth 100000 in
theorem ly11_14 : u_lay RX11 TX11 14 ∈ tbg := in_5 65 (by decide +kernel) rfl
set_option maxRecDepth 100000 in
theorem ly11_15 : u_lay RX11 TX11 15 ∈ tbg := in_5 67 (by decide +kernel) rfl
set_option maxRecDepth 100000 in
theorem ly11_16 : u_lay RX11 TX11 16 ∈ tbg := in_5 69 (by decide +kernel) rfl
set_option maxRecDepth 100000 in
theorem ly11_17 : u_lay RX11 TX11 17 ∈ tbg := in_5 71 (by decide +kernel) rfl
set_option maxRecDepth 100000 in
theorem ly11_18 : u_lay RX11 TX11 18 ∈ tbg := in_5 73 (by decide +kernel) rfl
set_option maxRecDepth 100000 in
theorem ly11_19 : u_lay RX11 TX11 19 ∈ tbg := in_5 75 (by decide +kernel) rfl
set_option maxRecDepth 100000 in
theorem ly11_20 : u_lay RX11 TX11 20 ∈ tbg := in_5 77 (by decide +kernel) rfl
set_option maxRecDepth 100000 in
theorem ly11_21 : u_lay RX11 TX11 21 ∈ tbg := in_5 79 (by decide +kernel) rfl
set_option maxRecDepth 100000 in
theorem ly11_22 : u_lay RX11 TX11 22 ∈ tbg := in_5 81 (by decide +kernel) rfl
set_option maxRecDepth 100000 in
theorem ly11_23 : u_lay RX11 TX11 23 ∈ tbg := in_5 83 (by decide +kernel) rfl
set_option maxRecDepth 100000 in
theorem ly11_24 : u_lay RX11 TX11 24 ∈ tbg := in_5 85 (by decide +kernel) rfl
set_option maxRecDepth 100000 in
theorem ly11_25 : u_lay RX11 TX11 25 ∈ tbg := in_5 87 (by decide +kernel) rfl
set_option maxRecDepth 100000 in
theorem ly11_26 : u_lay RX11 TX11 26 ∈ tbg := in_5 89 (by decide +kernel) rfl
set_option maxRecDepth 100000 in
theorem ly11_27 : u_lay RX11 TX11 27 ∈ tbg := in_5 91 (by decide +kernel) rfl
set_option maxRecDepth 100000 in
theorem ly11_28 : u_lay RX11 TX11 28 ∈ tbg := in_5 93 (by decide +kernel) rfl
set_option maxRecDepth 100000 in
theorem ly11_29 : u_lay RX11 TX11 29 ∈ tbg := in_5 95 (by decide +kernel) rfl
set_option maxRecDepth 100000 in
theorem ly11_30 : u_lay RX11 TX11 30 ∈ tbg := in_5 97 (by decide +kernel) rfl
set_option maxRecDepth 100000 in
theorem ly11_31 : u_lay RX11 TX11 31 ∈ tbg := in_5 99 (by decide +kernel) rfl
set_option maxRecDepth 100000 in
theorem ly11_32 : u_lay RX11 TX11 32 ∈ tbg := in_5 101 (by decide +kernel) rfl
set_option maxRecDepth 100000 in
theorem ly11_33 : u_lay RX11 TX11 33 ∈ tbg := in_5 103 (by decide +kernel) rfl
set_option maxRecDepth 100000 in
theorem ly11_34 : u_lay RX11 TX11 34 ∈ tbg := in_5 105 (by decide +kernel) rfl
set_option maxRecDepth 100000 in
theorem ly11_35 : u_lay RX11 TX11 35 ∈ tbg := in_5 107 (by decide +kernel) rfl
set_option maxRecDepth 100000 in
theorem ly11_36 : u_lay RX11 TX11 36 ∈ tbg := in_5 109 (by decide +kernel) rfl
set_option maxRecDepth 100000 in
theorem ly11_37 : u_lay RX11 TX11 37 ∈ tbg := in_5 111 (by decide +kernel) rfl
set_option maxRecDepth 100000 in
theorem ly11_38 : u_lay RX11 TX11 38 ∈ tbg := in_5 113 (by decide +kernel) rfl
set_option maxRecDepth 100000 in
theorem ly11_39 : u_lay RX11 TX11 39 ∈ tbg := in_5 115 (by decide +kernel) rfl
set_option maxRecDepth 100000 in
theorem ly11_40 : u_lay RX11 TX11 40 ∈ tbg := in_5 117 (by decide +kernel) rfl
set_option maxRecDepth 100000 in
theorem ly11_41 : u_lay RX11 TX11 41 ∈ tbg := in_5 119 (by decide +kernel) rfl
set_option maxRecDepth 100000 in
theorem ly11_42 : u_lay RX11 TX11 42 ∈ tbg := in_5 121 (by decide +kernel) rfl
set_option maxRecDepth 100000 in
theorem ly11_43 : u_lay RX11 TX11 43 ∈ tbg := in_5 123 (by decide +kernel) rfl
set_option maxRecDepth 100000 in
theorem ly11_44 : u_lay RX11 TX11 44 ∈ tbg := in_5 125 (by decide +kernel) rfl
set_option maxRecDepth 100000 in
theorem ly11_45 : u_lay RX11 TX11 45 ∈ tbg := in_5 127 (by decide +kernel) rfl
set_option maxRecDepth 100000 in
theorem ly11_46 : u_lay RX11 TX11 46 ∈ tbg := in_5 129 (by decide +kernel) rfl
set_option maxRecDepth 100000 in
theorem ly11_47 : u_lay RX11 TX11 47 ∈ tbg := in_5 131 (by decide +kernel) rfl
set_option maxRecDepth 100000 in
theorem ly11_48 : u_lay RX11 TX11 48 ∈ tbg := in_5 133 (by decide +kernel) rfl
set_option maxRecDepth 100000 in
theorem ly11_49 : u_lay RX11 TX11 49 ∈ tbg := in_5 135 (by decide +kernel) rfl
set_option maxRecDepth 100000 in
theorem ly11_50 : u_lay RX11 TX11 50 ∈ tbg := in_5 137 (by decide +kernel) rfl
set_option maxRecDepth 100000 in
theorem ly11_51 : u_lay RX11 TX11 51 ∈ tbg := in_5 139 (by decide +kernel) rfl
set_option maxRecDepth 100000 in
theorem ly11_52 : u_lay RX11 TX11 52 ∈ tbg := in_5 141 (by decide +kernel) rfl
set_option maxRecDepth 100000 in
theorem ly11_53 : u_lay RX11 TX11 53 ∈ tbg := in_5 143 (by decide +kernel) rfl
set_option maxRecDepth 100000 in
theorem ly11_54 : u_lay RX11 TX11 54 ∈ tbg := in_5 145 (by decide +kernel) rfl
set_option maxRecDepth 100000 in
theorem ly11 : ∀ w ∈ u_ws RX11 TX11 55, w ∈ tbg := by
  intro w hw
  obtain ⟨k, hk, rfl⟩ := List.mem_map.mp hw
  have hk := List.mem_range.mp hk
  match k, hk with
  | 0, _ => exact ly11_0
  | 1, _ => exact ly11_1
  | 2, _ => exact ly11_2
  | 3, _ => exact ly11_3
  | 4, _ => exact ly11_4
  | 5, _ => exact ly11_5
  | 6, _ => exact ly11_6
  | 7, _ => exact ly11_7
  | 8, _ => exact ly11_8
  | 9, _ => exact ly11_9
  | 10, _ => exact ly11_10
  | 11, _ => exact ly11_11
  | 12, _ => exact ly11_12
  | 13, _ => exact ly11_13
  | 14, _ => exact ly11_14
  | 15, _ => exact ly11_15
  | 16, _ => exact ly11_16
  | 17, _ => exact ly11_17
  | 18, _ => exact ly11_18
  | 19, _ => exact ly11_19
  | 20, _ => exact ly11_20
  | 21, _ => exact ly11_21
  | 22, _ => exact ly11_22
  | 23, _ => exact ly11_23
  | 24, _ => exact ly11_24
  | 25, _ => exact ly11_25
  | 26, _ => exact ly11_26
  | 27, _ => exact ly11_27
  | 28, _ => exact ly11_28
  | 29, _ => exact ly11_29
  | 30, _ => exact ly11_30
  | 31, _ => exact ly11_31
  | 32, _ => exact ly11_32
  | 33, _ => exact ly11_33
  | 34, _ => exact ly11_34
  | 35, _ => exact ly11_35
  | 36, _ => exact ly11_36
  | 37, _ => exact ly11_37
  | 38, _ => exact ly11_38
  | 39, _ => exact ly11_39
  | 40, _ => exact ly11_40
  | 41, _ => exact ly11_41
  | 42, _ => exact ly11_42
  | 43, _ => exact ly11_43
  | 44, _ => exact ly11_44
  | 45, _ => exact ly11_45
  | 46, _ => exact ly11_46
  | 47, _ => exact ly11_47
  | 48, _ => exact ly11_48
  | 49, _ => exact ly11_49
  | 50, _ => exact ly11_50
  | 51, _ => exact ly11_51
  | 52, _ => exact ly11_52
  | 53, _ => exact ly11_53
  | 54, _ => exact ly11_54
  | k + 55, h => omega
set_option maxRecDepth 100000 in
theorem okC11 : okC 11 RX11 TX11 55 tyX11 := ⟨rfl, ly11, tyX11_ok, nmX11⟩
set_option maxRecDepth 100000 in
theorem okX0_57 : okV RX0 57 yX0_sizeOf cX0_sizeOf 2 (some .int) 1 := ⟨good_l (List.forall_mem_cons.mpr ⟨in_2 174 (by decide +kernel) rfl, List.forall_mem_cons.mpr ⟨in_2 175 (by decide +kernel) rfl, List.forall_mem_cons.mpr ⟨in_2 176 (by decide +kernel) rfl, List.forall_mem_cons.mpr ⟨in_1 4 (by decide +kernel) rfl, List.forall_mem_cons.mpr ⟨in_2 177 (by decide +kernel) rfl, List.forall_mem_nil _⟩⟩⟩⟩⟩), by decide +kernel⟩
set_option maxRecDepth 100000 in
theorem okX0_67 : okV RX0 67 yX0_callAt cX0_callAt 3 (some .int) 2 := ⟨good_l (List.forall_mem_cons.mpr ⟨in_2 186 (by decide +kernel) rfl, List.forall_mem_cons.mpr ⟨in_2 187 (by decide +kernel) rfl, List.forall_mem_cons.mpr ⟨in_2 188 (by decide +kernel) rfl, List.forall_mem_cons.mpr ⟨in_1 4 (by decide +kernel) rfl, List.forall_mem_cons.mpr ⟨in_2 189 (by decide +kernel) rfl, List.forall_mem_nil _⟩⟩⟩⟩⟩), by decide +kernel⟩
set_option maxRecDepth 100000 in
theorem flX0_9 : Cond.fieldLink RX0 9 (TX0 0).1 (TX0 0).2.1 (TX0 0).2.2.1 ∈ tbg := in_1 56 (by decide +kernel) rfl
set_option maxRecDepth 100000 in
theorem flX0_28 : Cond.fieldLink RX0 28 (TX0 6).1 (TX0 6).2.1 (TX0 6).2.2.1 ∈ tbg := in_1 68 (by decide +kernel) rfl
set_option maxRecDepth 100000 in
theorem flX0_22 : Cond.fieldLink RX0 22 (TX0 3).1 (TX0 3).2.1 (TX0 3).2.2.1 ∈ tbg := in_1 60 (by decide +kernel) rfl
set_option maxRecDepth 100000 in
theorem okX0_51 : okV RX0 51 yX0_isWrongThere cX0_isWrongThere 2 (some .boolean) 1 := ⟨good_l (List.forall_mem_cons.mpr ⟨in_2 178 (by decide +kernel) rfl, List.forall_mem_cons.mpr ⟨in_2 179 (by decide +kernel) rfl, List.forall_mem_cons.mpr ⟨in_2 180 (by decide +kernel) rfl, List.forall_mem_cons.mpr ⟨in_1 4 (by decide +kernel) rfl, List.forall_mem_cons.mpr ⟨in_2 181 (by decide +kernel) rfl, List.forall_mem_nil _⟩⟩⟩⟩⟩), by decide +kernel⟩
set_option maxRecDepth 100000 in
theorem okX0_60 : okV RX0 60 yX0_beginsWith cX0_beginsWith 5 (some .boolean) 2 := ⟨good_l (List.forall_mem_cons.mpr ⟨in_2 182 (by decide +kernel) rfl, List.forall_mem_cons.mpr ⟨in_2 184 (by decide +kernel) rfl, List.forall_mem_cons.mpr ⟨in_s 1 (by decide +kernel) rfl, List.forall_mem_cons.mpr ⟨in_1 4 (by decide +kernel) rfl, List.forall_mem_cons.mpr ⟨in_2 185 (by decide +kernel) rfl, List.forall_mem_nil _⟩⟩⟩⟩⟩), by decide +kernel⟩
set_option maxRecDepth 100000 in
theorem flX0_32 : Cond.fieldLink RX0 32 (TX5 1).1 (TX5 1).2.1 (TX5 1).2.2.1 ∈ tbg := in_1 43 (by decide +kernel) rfl
set_option maxRecDepth 100000 in
theorem okX0_37 : okV RX0 37 yX5_at cX5_at 2 (some .int) 1 := ⟨good_l (List.forall_mem_cons.mpr ⟨in_2 149 (by decide +kernel) rfl, List.forall_mem_cons.mpr ⟨in_2 138 (by decide +kernel) rfl, List.forall_mem_cons.mpr ⟨in_2 139 (by decide +kernel) rfl, List.forall_mem_cons.mpr ⟨in_1 2 (by decide +kernel) rfl, List.forall_mem_cons.mpr ⟨in_2 140 (by decide +kernel) rfl, List.forall_mem_nil _⟩⟩⟩⟩⟩), by decide +kernel⟩
set_option maxRecDepth 100000 in
theorem flX0_15 : Cond.fieldLink RX0 15 (TX0 1).1 (TX0 1).2.1 (TX0 1).2.2.1 ∈ tbg := in_1 57 (by decide +kernel) rfl
set_option maxRecDepth 100000 in
theorem flX0_18 : Cond.fieldLink RX0 18 (TX0 2).1 (TX0 2).2.1 (TX0 2).2.2.1 ∈ tbg := in_1 58 (by decide +kernel) rfl
set_option maxRecDepth 100000 in
theorem flX0_64 : Cond.fieldLink RX0 64 (TX0 5).1 (TX0 5).2.1 (TX0 5).2.2.1 ∈ tbg := in_1 67 (by decide +kernel) rfl
set_option maxRecDepth 100000 in
theorem okX0_54 : okV RX0 54 yX0_isLeftOut cX0_isLeftOut 3 (some .boolean) 1 := ⟨good_l (List.forall_mem_cons.mpr ⟨in_2 218 (by decide +kernel) rfl, List.forall_mem_cons.mpr ⟨in_2 219 (by decide +kernel) rfl, List.forall_mem_cons.mpr ⟨in_2 220 (by decide +kernel) rfl, List.forall_mem_cons.mpr ⟨in_1 4 (by decide +kernel) rfl, List.forall_mem_cons.mpr ⟨in_2 221 (by decide +kernel) rfl, List.forall_mem_nil _⟩⟩⟩⟩⟩), by decide +kernel⟩
set_option maxRecDepth 100000 in
theorem flX0_25 : Cond.fieldLink RX0 25 (TX0 4).1 (TX0 4).2.1 (TX0 4).2.2.1 ∈ tbg := in_1 62 (by decide +kernel) rfl
set_option maxRecDepth 100000 in
theorem okX0_45 : okV RX0 45 yX0_isRightThere cX0_isRightThere 2 (some .boolean) 1 := ⟨good_l (List.forall_mem_cons.mpr ⟨in_2 222 (by decide +kernel) rfl, List.forall_mem_cons.mpr ⟨in_2 163 (by decide +kernel) rfl, List.forall_mem_cons.mpr ⟨in_2 164 (by decide +kernel) rfl, List.forall_mem_cons.mpr ⟨in_1 4 (by decide +kernel) rfl, List.forall_mem_cons.mpr ⟨in_2 165 (by decide +kernel) rfl, List.forall_mem_nil _⟩⟩⟩⟩⟩), by decide +kernel⟩
set_option maxRecDepth 100000 in
theorem okX0_41 : okV RX0 41 yX0_knows cX0_knows 2 (some .boolean) 1 := ⟨good_l (List.forall_mem_cons.mpr ⟨in_2 166 (by decide +kernel) rfl, List.forall_mem_cons.mpr ⟨in_2 167 (by decide +kernel) rfl, List.forall_mem_cons.mpr ⟨in_2 168 (by decide +kernel) rfl, List.forall_mem_cons.mpr ⟨in_1 4 (by decide +kernel) rfl, List.forall_mem_cons.mpr ⟨in_2 169 (by decide +kernel) rfl, List.forall_mem_nil _⟩⟩⟩⟩⟩), by decide +kernel⟩
set_option maxRecDepth 100000 in
theorem okX0_48 : okV RX0 48 yX0_cutSize cX0_cutSize 4 (some .int) 1 := ⟨good_l (List.forall_mem_cons.mpr ⟨in_4 103 (by decide +kernel) rfl, List.forall_mem_cons.mpr ⟨in_2 171 (by decide +kernel) rfl, List.forall_mem_cons.mpr ⟨in_2 172 (by decide +kernel) rfl, List.forall_mem_cons.mpr ⟨in_1 4 (by decide +kernel) rfl, List.forall_mem_cons.mpr ⟨in_2 173 (by decide +kernel) rfl, List.forall_mem_nil _⟩⟩⟩⟩⟩), by decide +kernel⟩
set_option maxRecDepth 100000 in
theorem flX10_57 : Cond.fieldLink RX10 57 (TX10 6).1 (TX10 6).2.1 (TX10 6).2.2.1 ∈ tbg := in_2 101 (by decide +kernel) rfl
set_option maxRecDepth 100000 in
theorem okX10_103 : okV RX10 103 yX5_append cX5_append 2 (some .boolean) 1 := ⟨good_l (List.forall_mem_cons.mpr ⟨in_3 122 (by decide +kernel) rfl, List.forall_mem_cons.mpr ⟨in_3 123 (by decide +kernel) rfl, List.forall_mem_cons.mpr ⟨in_3 124 (by decide +kernel) rfl, List.forall_mem_cons.mpr ⟨in_1 2 (by decide +kernel) rfl, List.forall_mem_cons.mpr ⟨in_3 125 (by decide +kernel) rfl, List.forall_mem_nil _⟩⟩⟩⟩⟩), by decide +kernel⟩
set_option maxRecDepth 100000 in
theorem flX10_72 : Cond.fieldLink RX10 72 (TX10 8).1 (TX10 8).2.1 (TX10 8).2.2.1 ∈ tbg := in_2 103 (by decide +kernel) rfl
set_option maxRecDepth 100000 in
theorem flX10_199 : Cond.fieldLink RX10 199 (TX3 7).1 (TX3 7).2.1 (TX3 7).2.2.1 ∈ tbg := in_2 25 (by decide +kernel) rfl
set_option maxRecDepth 100000 in
theorem okX10_110 : okV RX10 110 yX5_at cX5_at 2 (some .int) 1 := ⟨good_l (List.forall_mem_cons.mpr ⟨in_2 137 (by decide +kernel) rfl, List.forall_mem_cons.mpr ⟨in_2 138 (by decide +kernel) rfl, List.forall_mem_cons.mpr ⟨in_2 139 (by decide +kernel) rfl, List.forall_mem_cons.mpr ⟨in_1 2 (by decide +kernel) rfl, List.forall_mem_cons.mpr ⟨in_2 140 (by decide +kernel) rfl, List.forall_mem_nil _⟩⟩⟩⟩⟩), by decide +kernel⟩
set_option maxRecDepth 100000 in
theorem flX10_46 : Cond.fieldLink RX10 46 (TX10 4).1 (TX10 4).2.1 (TX10 4).2.2.1 ∈ tbg := in_2 99 (by decide +kernel) rfl
set_option maxRecDepth 100000 in
theorem okX10_223 : okV RX10 223 yX4_hasState cX4_hasState 2 (some .boolean) 1 := ⟨good_l (List.forall_mem_cons.mpr ⟨in_4 116 (by decide +kernel) rfl, List.forall_mem_cons.mpr ⟨in_3 39 (by decide +kernel) rfl, List.forall_mem_cons.mpr ⟨in_3 40 (by decide +kernel) rfl, List.forall_mem_cons.mpr ⟨in_1 7 (by decide +kernel) rfl, List.forall_mem_cons.mpr ⟨in_3 41 (by decide +kernel) rfl, List.forall_mem_nil _⟩⟩⟩⟩⟩), by decide +kernel⟩
set_option maxRecDepth 100000 in
theorem okX10_92 : okS RX10 92 yX10_isCall cX10_isCall 1 (some .boolean) 1 := ⟨good_l (List.forall_mem_cons.mpr ⟨in_3 238 (by decide +kernel) rfl, List.forall_mem_cons.mpr ⟨in_2 196 (by decide +kernel) rfl, List.forall_mem_cons.mpr ⟨in_1 1 (by decide +kernel) rfl, List.forall_mem_cons.mpr ⟨in_2 197 (by decide +kernel) rfl, List.forall_mem_nil _⟩⟩⟩⟩), by decide +kernel⟩
set_option maxRecDepth 100000 in
theorem flX10_21 : Cond.fieldLink RX10 21 (TX10 1).1 (TX10 1).2.1 (TX10 1).2.2.1 ∈ tbg := in_2 96 (by decide +kernel) rfl
set_option maxRecDepth 100000 in
theorem okX10_217 : okV RX10 217 yX0_countThere cX0_countThere 3 (some .int) 0 := ⟨good_l (List.forall_mem_cons.mpr ⟨in_3 222 (by decide +kernel) rfl, List.forall_mem_cons.mpr ⟨in_3 223 (by decide +kernel) rfl, List.forall_mem_cons.mpr ⟨in_3 224 (by decide +kernel) rfl, List.forall_mem_cons.mpr ⟨in_1 4 (by decide +kernel) rfl, List.forall_mem_cons.mpr ⟨in_3 225 (by decide +kernel) rfl, List.forall_mem_nil _⟩⟩⟩⟩⟩), by decide +kernel⟩
set_option maxRecDepth 100000 in
theorem flX10_114 : Cond.fieldLink RX10 114 (TX0 6).1 (TX0 6).2.1 (TX0 6).2.2.1 ∈ tbg := in_1 70 (by decide +kernel) rfl
set_option maxRecDepth 100000 in
theorem flX10_158 : Cond.fieldLink RX10 158 (TX4 2).1 (TX4 2).2.1 (TX4 2).2.2.1 ∈ tbg := in_1 182 (by decide +kernel) rfl
set_option maxRecDepth 100000 in
theorem okX10_220 : okV RX10 220 yX4_countSteps cX4_countSteps 3 (some .int) 0 := ⟨good_l (List.forall_mem_cons.mpr ⟨in_3 226 (by decide +kernel) rfl, List.forall_mem_cons.mpr ⟨in_3 227 (by decide +kernel) rfl, List.forall_mem_cons.mpr ⟨in_3 228 (by decide +kernel) rfl, List.forall_mem_cons.mpr ⟨in_1 7 (by decide +kernel) rfl, List.forall_mem_cons.mpr ⟨in_3 229 (by decide +kernel) rfl, List.forall_mem_nil _⟩⟩⟩⟩⟩), by decide +kernel⟩
set_option maxRecDepth 100000 in
theorem flX10_14 : Cond.fieldLink RX10 14 (TX10 0).1 (TX10 0).2.1 (TX10 0).2.2.1 ∈ tbg := in_2 95 (by decide +kernel) rfl
set_option maxRecDepth 100000 in
theorem flX10_106 : Cond.fieldLink RX10 106 (TX5 1).1 (TX5 1).2.1 (TX5 1).2.2.1 ∈ tbg := in_1 41 (by decide +kernel) rfl
set_option maxRecDepth 100000 in
theorem flX10_30 : Cond.fieldLink RX10 30 (TX10 2).1 (TX10 2).2.1 (TX10 2).2.2.1 ∈ tbg := in_2 97 (by decide +kernel) rfl
set_option maxRecDepth 100000 in
theorem okX10_144 : okV RX10 144 yX9_grow cX9_grow 4 none 0 := ⟨good_l (List.forall_mem_cons.mpr ⟨in_2 154 (by decide +kernel) rfl, List.forall_mem_cons.mpr ⟨in_2 155 (by decide +kernel) rfl, List.forall_mem_cons.mpr ⟨in_2 156 (by decide +kernel) rfl, List.forall_mem_cons.mpr ⟨in_1 5 (by decide +kernel) rfl, List.forall_mem_cons.mpr ⟨in_2 157 (by decide +kernel) rfl, List.forall_mem_nil _⟩⟩⟩⟩⟩), by decide +kernel⟩
set_option maxRecDepth 100000 in
theorem flX10_175 : Cond.fieldLink RX10 175 (TX9 6).1 (TX9 6).2.1 (TX9 6).2.2.1 ∈ tbg := in_1 107 (by decide +kernel) rfl
set_option maxRecDepth 100000 in
theorem okX10_172 : okV RX10 172 yX4_stepsBelow cX4_stepsBelow 4 (some .int) 1 := ⟨good_l (List.forall_mem_cons.mpr ⟨in_3 60 (by decide +kernel) rfl, List.forall_mem_cons.mpr ⟨in_3 61 (by decide +kernel) rfl, List.forall_mem_cons.mpr ⟨in_3 62 (by decide +kernel) rfl, List.forall_mem_cons.mpr ⟨in_1 7 (by decide +kernel) rfl, List.forall_mem_cons.mpr ⟨in_3 63 (by decide +kernel) rfl, List.forall_mem_nil _⟩⟩⟩⟩⟩), by decide +kernel⟩
set_option maxRecDepth 100000 in
theorem okX10_121 : okV RX10 121 yX0_knows cX0_knows 2 (some .boolean) 1 := ⟨good_l (List.forall_mem_cons.mpr ⟨in_4 74 (by decide +kernel) rfl, List.forall_mem_cons.mpr ⟨in_2 167 (by decide +kernel) rfl, List.forall_mem_cons.mpr ⟨in_2 168 (by decide +kernel) rfl, List.forall_mem_cons.mpr ⟨in_1 4 (by decide +kernel) rfl, List.forall_mem_cons.mpr ⟨in_2 169 (by decide +kernel) rfl, List.forall_mem_nil _⟩⟩⟩⟩⟩), by decide +kernel⟩
set_option maxRecDepth 100000 in
theorem flX10_129 : Cond.fieldLink RX10 129 (TX0 3).1 (TX0 3).2.1 (TX0 3).2.2.1 ∈ tbg := in_1 61 (by decide +kernel) rfl
set_option maxRecDepth 100000 in
theorem okX10_179 : okV RX10 179 yX10_addBytes cX10_addBytes 3 none 1 := ⟨good_l (List.forall_mem_cons.mpr ⟨in_3 118 (by decide +kernel) rfl, List.forall_mem_cons.mpr ⟨in_3 120 (by decide +kernel) rfl, List.forall_mem_cons.mpr ⟨in_s 22 (by decide +kernel) rfl, List.forall_mem_cons.mpr ⟨in_1 1 (by decide +kernel) rfl, List.forall_mem_cons.mpr ⟨in_3 121 (by decide +kernel) rfl, List.forall_mem_nil _⟩⟩⟩⟩⟩), by decide +kernel⟩
set_option maxRecDepth 100000 in
theorem flX10_88 : Cond.fieldLink RX10 88 (TX10 10).1 (TX10 10).2.1 (TX10 10).2.2.1 ∈ tbg := in_2 105 (by decide +kernel) rfl
set_option maxRecDepth 100000 in
theorem okX10_205 : okV RX10 205 yX2_survey cX2_survey 2 none 0 := ⟨good_l (List.forall_mem_cons.mpr ⟨in_4 162 (by decide +kernel) rfl, List.forall_mem_cons.mpr ⟨in_4 163 (by decide +kernel) rfl, List.forall_mem_cons.mpr ⟨in_4 164 (by decide +kernel) rfl, List.forall_mem_cons.mpr ⟨in_1 13 (by decide +kernel) rfl, List.forall_mem_cons.mpr ⟨in_4 165 (by decide +kernel) rfl, List.forall_mem_nil _⟩⟩⟩⟩⟩), by decide +kernel⟩
set_option maxRecDepth 100000 in
theorem okX10_208 : okV RX10 208 yX2_having cX2_having 2 (some .int) 1 := ⟨good_l (List.forall_mem_cons.mpr ⟨in_4 179 (by decide +kernel) rfl, List.forall_mem_cons.mpr ⟨in_4 180 (by decide +kernel) rfl, List.forall_mem_cons.mpr ⟨in_4 181 (by decide +kernel) rfl, List.forall_mem_cons.mpr ⟨in_1 13 (by decide +kernel) rfl, List.forall_mem_cons.mpr ⟨in_4 182 (by decide +kernel) rfl, List.forall_mem_nil _⟩⟩⟩⟩⟩), by decide +kernel⟩
set_option maxRecDepth 100000 in
theorem okX10_211 : okV RX10 211 yX2_holding cX2_holding 3 (some .int) 2 := ⟨good_l (List.forall_mem_cons.mpr ⟨in_4 183 (by decide +kernel) rfl, List.forall_mem_cons.mpr ⟨in_4 184 (by decide +kernel) rfl, List.forall_mem_cons.mpr ⟨in_4 185 (by decide +kernel) rfl, List.forall_mem_cons.mpr ⟨in_1 13 (by decide +kernel) rfl, List.forall_mem_cons.mpr ⟨in_4 186 (by decide +kernel) rfl, List.forall_mem_nil _⟩⟩⟩⟩⟩), by decide +kernel⟩
set_option maxRecDepth 100000 in
theorem okX10_196 : okV RX10 196 yX3_findBreak cX3_findBreak 3 none 0 := ⟨good_l (List.forall_mem_cons.mpr ⟨in_3 130 (by decide +kernel) rfl, List.forall_mem_cons.mpr ⟨in_3 131 (by decide +kernel) rfl, List.forall_mem_cons.mpr ⟨in_3 132 (by decide +kernel) rfl, List.forall_mem_cons.mpr ⟨in_1 11 (by decide +kernel) rfl, List.forall_mem_cons.mpr ⟨in_3 133 (by decide +kernel) rfl, List.forall_mem_nil _⟩⟩⟩⟩⟩), by decide +kernel⟩
set_option maxRecDepth 100000 in
theorem flX10_39 : Cond.fieldLink RX10 39 (TX10 3).1 (TX10 3).2.1 (TX10 3).2.2.1 ∈ tbg := in_2 98 (by decide +kernel) rfl
set_option maxRecDepth 100000 in
theorem flX10_53 : Cond.fieldLink RX10 53 (TX10 5).1 (TX10 5).2.1 (TX10 5).2.2.1 ∈ tbg := in_2 100 (by decide +kernel) rfl
set_option maxRecDepth 100000 in
theorem flX10_63 : Cond.fieldLink RX10 63 (TX10 7).1 (TX10 7).2.1 (TX10 7).2.2.1 ∈ tbg := in_2 102 (by decide +kernel) rfl
set_option maxRecDepth 100000 in
theorem flX10_81 : Cond.fieldLink RX10 81 (TX10 9).1 (TX10 9).2.1 (TX10 9).2.2.1 ∈ tbg := in_2 104 (by decide +kernel) rfl
set_option maxRecDepth 100000 in
theorem okX10_147 : okV RX10 147 yX6_meltAll cX6_meltAll 2 (some .boolean) 0 := ⟨good_l (List.forall_mem_cons.mpr ⟨in_2 210 (by decide +kernel) rfl, List.forall_mem_cons.mpr ⟨in_2 211 (by decide +kernel) rfl, List.forall_mem_cons.mpr ⟨in_2 212 (by decide +kernel) rfl, List.forall_mem_cons.mpr ⟨in_1 6 (by decide +kernel) rfl, List.forall_mem_cons.mpr ⟨in_2 213 (by decide +kernel) rfl, List.forall_mem_nil _⟩⟩⟩⟩⟩), by decide +kernel⟩
set_option maxRecDepth 100000 in
theorem okX10_151 : okV RX10 151 yX6_writeInto cX6_writeInto 5 none 1 := ⟨good_l (List.forall_mem_cons.mpr ⟨in_3 26 (by decide +kernel) rfl, List.forall_mem_cons.mpr ⟨in_3 27 (by decide +kernel) rfl, List.forall_mem_cons.mpr ⟨in_3 28 (by decide +kernel) rfl, List.forall_mem_cons.mpr ⟨in_1 6 (by decide +kernel) rfl, List.forall_mem_cons.mpr ⟨in_3 29 (by decide +kernel) rfl, List.forall_mem_nil _⟩⟩⟩⟩⟩), by decide +kernel⟩
set_option maxRecDepth 100000 in
theorem okX10_155 : okV RX10 155 yX4_countOver cX4_countOver 4 none 2 := ⟨good_l (List.forall_mem_cons.mpr ⟨in_3 43 (by decide +kernel) rfl, List.forall_mem_cons.mpr ⟨in_3 44 (by decide +kernel) rfl, List.forall_mem_cons.mpr ⟨in_3 45 (by decide +kernel) rfl, List.forall_mem_cons.mpr ⟨in_1 7 (by decide +kernel) rfl, List.forall_mem_cons.mpr ⟨in_3 46 (by decide +kernel) rfl, List.forall_mem_nil _⟩⟩⟩⟩⟩), by decide +kernel⟩
set_option maxRecDepth 100000 in
theorem okX10_176 : okV RX10 176 yX1_states cX1_states 2 (some .int) 0 := ⟨good_l (List.forall_mem_cons.mpr ⟨in_3 73 (by decide +kernel) rfl, List.forall_mem_cons.mpr ⟨in_3 74 (by decide +kernel) rfl, List.forall_mem_cons.mpr ⟨in_3 75 (by decide +kernel) rfl, List.forall_mem_cons.mpr ⟨in_1 9 (by decide +kernel) rfl, List.forall_mem_cons.mpr ⟨in_3 76 (by decide +kernel) rfl, List.forall_mem_nil _⟩⟩⟩⟩⟩), by decide +kernel⟩
set_option maxRecDepth 100000 in
theorem okX10_202 : okV RX10 202 yX7_mendHand cX7_mendHand 3 (some .int) 0 := ⟨good_l (List.forall_mem_cons.mpr ⟨in_3 177 (by decide +kernel) rfl, List.forall_mem_cons.mpr ⟨in_3 178 (by decide +kernel) rfl, List.forall_mem_cons.mpr ⟨in_3 179 (by decide +kernel) rfl, List.forall_mem_cons.mpr ⟨in_1 12 (by decide +kernel) rfl, List.forall_mem_cons.mpr ⟨in_3 180 (by decide +kernel) rfl, List.forall_mem_nil _⟩⟩⟩⟩⟩), by decide +kernel⟩
set_option maxRecDepth 100000 in
theorem okX10_214 : okV RX10 214 yX2_atRank cX2_atRank 3 (some .int) 1 := ⟨good_l (List.forall_mem_cons.mpr ⟨in_4 194 (by decide +kernel) rfl, List.forall_mem_cons.mpr ⟨in_4 195 (by decide +kernel) rfl, List.forall_mem_cons.mpr ⟨in_4 196 (by decide +kernel) rfl, List.forall_mem_cons.mpr ⟨in_1 13 (by decide +kernel) rfl, List.forall_mem_cons.mpr ⟨in_4 197 (by decide +kernel) rfl, List.forall_mem_nil _⟩⟩⟩⟩⟩), by decide +kernel⟩
set_option maxRecDepth 100000 in
theorem flX10_184 : Cond.fieldLink RX10 184 (TX5 0).1 (TX5 0).2.1 (TX5 0).2.2.1 ∈ tbg := in_1 38 (by decide +kernel) rfl
set_option maxRecDepth 100000 in
theorem okX10_188 : okS RX10 188 yX8_faultIn cX8_faultIn 6 (some .int) 2 := ⟨good_l (List.forall_mem_cons.mpr ⟨in_4 137 (by decide +kernel) rfl, List.forall_mem_cons.mpr ⟨in_4 138 (by decide +kernel) rfl, List.forall_mem_cons.mpr ⟨in_1 10 (by decide +kernel) rfl, List.forall_mem_cons.mpr ⟨in_4 139 (by decide +kernel) rfl, List.forall_mem_nil _⟩⟩⟩⟩), by decide +kernel⟩
set_option maxRecDepth 100000 in
theorem okX10_192 : okV RX10 192 yX8_replaceBy cX8_replaceBy 5 none 2 := ⟨good_l (List.forall_mem_cons.mpr ⟨in_4 143 (by decide +kernel) rfl, List.forall_mem_cons.mpr ⟨in_4 144 (by decide +kernel) rfl, List.forall_mem_cons.mpr ⟨in_4 145 (by decide +kernel) rfl, List.forall_mem_cons.mpr ⟨in_1 10 (by decide +kernel) rfl, List.forall_mem_cons.mpr ⟨in_4 146 (by decide +kernel) rfl, List.forall_mem_nil _⟩⟩⟩⟩⟩), by decide +kernel⟩
set_option maxRecDepth 100000 in
theorem okX10_117 : okV RX10 117 yX0_enter cX0_enter 4 (some .int) 2 := ⟨good_l (List.forall_mem_cons.mpr ⟨in_2 145 (by decide +kernel) rfl, List.forall_mem_cons.mpr ⟨in_2 146 (by decide +kernel) rfl, List.forall_mem_cons.mpr ⟨in_2 147 (by decide +kernel) rfl, List.forall_mem_cons.mpr ⟨in_1 4 (by decide +kernel) rfl, List.forall_mem_cons.mpr ⟨in_2 148 (by decide +kernel) rfl, List.forall_mem_nil _⟩⟩⟩⟩⟩), by decide +kernel⟩
set_option maxRecDepth 100000 in
theorem okX10_161 : okV RX10 161 yX10_checkStep cX10_checkStep 3 none 2 := ⟨good_l (List.forall_mem_cons.mpr ⟨in_4 112 (by decide +kernel) rfl, List.forall_mem_cons.mpr ⟨in_4 114 (by decide +kernel) rfl, List.forall_mem_cons.mpr ⟨in_s 38 (by decide +kernel) rfl, List.forall_mem_cons.mpr ⟨in_1 1 (by decide +kernel) rfl, List.forall_mem_cons.mpr ⟨in_4 115 (by decide +kernel) rfl, List.forall_mem_nil _⟩⟩⟩⟩⟩), by decide +kernel⟩
set_option maxRecDepth 100000 in
theorem okX10_169 : okV RX10 169 yX4_timesOver cX4_timesOver 3 (some .int) 2 := ⟨good_l (List.forall_mem_cons.mpr ⟨in_4 125 (by decide +kernel) rfl, List.forall_mem_cons.mpr ⟨in_4 126 (by decide +kernel) rfl, List.forall_mem_cons.mpr ⟨in_4 127 (by decide +kernel) rfl, List.forall_mem_cons.mpr ⟨in_1 7 (by decide +kernel) rfl, List.forall_mem_cons.mpr ⟨in_4 128 (by decide +kernel) rfl, List.forall_mem_nil _⟩⟩⟩⟩⟩), by decide +kernel⟩
set_option maxRecDepth 100000 in
theorem okX10_165 : okV RX10 165 yX4_after cX4_after 3 (some .int) 2 := ⟨good_l (List.forall_mem_cons.mpr ⟨in_3 68 (by decide +kernel) rfl, List.forall_mem_cons.mpr ⟨in_3 53 (by decide +kernel) rfl, List.forall_mem_cons.mpr ⟨in_3 54 (by decide +kernel) rfl, List.forall_mem_cons.mpr ⟨in_1 7 (by decide +kernel) rfl, List.forall_mem_cons.mpr ⟨in_3 55 (by decide +kernel) rfl, List.forall_mem_nil _⟩⟩⟩⟩⟩), by decide +kernel⟩
set_option maxRecDepth 100000 in
theorem flX10_133 : Cond.fieldLink RX10 133 (TX0 2).1 (TX0 2).2.1 (TX0 2).2.2.1 ∈ tbg := in_1 59 (by decide +kernel) rfl
set_option maxRecDepth 100000 in
theorem okX10_136 : okV RX10 136 yX0_sizeOf cX0_sizeOf 2 (some .int) 1 := ⟨good_l (List.forall_mem_cons.mpr ⟨in_4 98 (by decide +kernel) rfl, List.forall_mem_cons.mpr ⟨in_2 175 (by decide +kernel) rfl, List.forall_mem_cons.mpr ⟨in_2 176 (by decide +kernel) rfl, List.forall_mem_cons.mpr ⟨in_1 4 (by decide +kernel) rfl, List.forall_mem_cons.mpr ⟨in_2 177 (by decide +kernel) rfl, List.forall_mem_nil _⟩⟩⟩⟩⟩), by decide +kernel⟩
set_option maxRecDepth 100000 in
theorem okX10_139 : okV RX10 139 yX0_standingOf cX0_standingOf 2 (some .int) 1 := ⟨good_l (List.forall_mem_cons.mpr ⟨in_4 99 (by decide +kernel) rfl, List.forall_mem_cons.mpr ⟨in_4 100 (by decide +kernel) rfl, List.forall_mem_cons.mpr ⟨in_4 101 (by decide +kernel) rfl, List.forall_mem_cons.mpr ⟨in_1 4 (by decide +kernel) rfl, List.forall_mem_cons.mpr ⟨in_4 102 (by decide +kernel) rfl, List.forall_mem_nil _⟩⟩⟩⟩⟩), by decide +kernel⟩
set_option maxRecDepth 100000 in
theorem flX11_93 : Cond.fieldLink RX11 93 (TX11 40).1 (TX11 40).2.1 (TX11 40).2.2.1 ∈ tbg := in_5 22 (by decide +kernel) rfl
set_option maxRecDepth 100000 in
theorem flX11_213 : Cond.fieldLink RX11 213 (TX11 43).1 (TX11 43).2.1 (TX11 43).2.2.1 ∈ tbg := in_5 25 (by decide +kernel) rfl
set_option maxRecDepth 100000 in
theorem flX11_96 : Cond.fieldLink RX11 96 (TX11 41).1 (TX11 41).2.1 (TX11 41).2.2.1 ∈ tbg := in_5 23 (by decide +kernel) rfl
set_option maxRecDepth 100000 in
theorem flX11_99 : Cond.fieldLink RX11 99 (TX11 42).1 (TX11 42).2.1 (TX11 42).2.2.1 ∈ tbg := in_5 24 (by decide +kernel) rfl
set_option maxRecDepth 100000 in
theorem flX11_133 : Cond.fieldLink RX11 133 (TX11 0).1 (TX11 0).2.1 (TX11 0).2.2.1 ∈ tbg := in_4 222 (by decide +kernel) rfl
set_option maxRecDepth 100000 in
theorem flX11_237 : Cond.fieldLink RX11 237 (TX11 33).1 (TX11 33).2.1 (TX11 33).2.2.1 ∈ tbg := in_5 15 (by decide +kernel) rfl
set_option maxRecDepth 100000 in
theorem flX11_219 : Cond.fieldLink RX11 219 (TX11 45).1 (TX11 45).2.1 (TX11 45).2.2.1 ∈ tbg := in_5 27 (by decide +kernel) rfl
set_option maxRecDepth 100000 in
theorem okX11_227 : okV RX11 227 yX11_state cX11_state 1 (some .int) 0 := ⟨good_l (List.forall_mem_cons.mpr ⟨in_6 39 (by decide +kernel) rfl, List.forall_mem_cons.mpr ⟨in_6 41 (by decide +kernel) rfl, List.forall_mem_cons.mpr ⟨in_s 64 (by decide +kernel) rfl, List.forall_mem_cons.mpr ⟨in_1 14 (by decide +kernel) rfl, List.forall_mem_cons.mpr ⟨in_6 42 (by decide +kernel) rfl, List.forall_mem_nil _⟩⟩⟩⟩⟩), by decide +kernel⟩
set_option maxRecDepth 100000 in
theorem okX11_230 : okV RX11 230 yX11_adds cX11_adds 4 none 3 := ⟨good_l (List.forall_mem_cons.mpr ⟨in_6 43 (by decide +kernel) rfl, List.forall_mem_cons.mpr ⟨in_6 45 (by decide +kernel) rfl, List.forall_mem_cons.mpr ⟨in_s 65 (by decide +kernel) rfl, List.forall_mem_cons.mpr ⟨in_1 14 (by decide +kernel) rfl, List.forall_mem_cons.mpr ⟨in_6 46 (by decide +kernel) rfl, List.forall_mem_nil _⟩⟩⟩⟩⟩), by decide +kernel⟩
set_option maxRecDepth 100000 in
theorem flX11_207 : Cond.fieldLink RX11 207 (TX11 32).1 (TX11 32).2.1 (TX11 32).2.2.1 ∈ tbg := in_5 14 (by decide +kernel) rfl
set_option maxRecDepth 100000 in
theorem okX11_240 : okV RX11 240 yX11_reads cX11_reads 5 (some .int) 1 := ⟨good_l (List.forall_mem_cons.mpr ⟨in_6 31 (by decide +kernel) rfl, List.forall_mem_cons.mpr ⟨in_6 33 (by decide +kernel) rfl, List.forall_mem_cons.mpr ⟨in_s 62 (by decide +kernel) rfl, List.forall_mem_cons.mpr ⟨in_1 14 (by decide +kernel) rfl, List.forall_mem_cons.mpr ⟨in_6 34 (by decide +kernel) rfl, List.forall_mem_nil _⟩⟩⟩⟩⟩), by decide +kernel⟩
set_option maxRecDepth 100000 in
theorem okX11_223 : okV RX11 223 yX11_now cX11_now 1 (some .int) 0 := ⟨good_l (List.forall_mem_cons.mpr ⟨in_6 35 (by decide +kernel) rfl, List.forall_mem_cons.mpr ⟨in_6 37 (by decide +kernel) rfl, List.forall_mem_cons.mpr ⟨in_s 63 (by decide +kernel) rfl, List.forall_mem_cons.mpr ⟨in_1 14 (by decide +kernel) rfl, List.forall_mem_cons.mpr ⟨in_6 38 (by decide +kernel) rfl, List.forall_mem_nil _⟩⟩⟩⟩⟩), by decide +kernel⟩
set_option maxRecDepth 100000 in
theorem flX11_252 : Cond.fieldLink RX11 252 (TX11 50).1 (TX11 50).2.1 (TX11 50).2.2.1 ∈ tbg := in_5 32 (by decide +kernel) rfl
set_option maxRecDepth 100000 in
theorem flX11_111 : Cond.fieldLink RX11 111 (TX11 49).1 (TX11 49).2.1 (TX11 49).2.2.1 ∈ tbg := in_5 31 (by decide +kernel) rfl
set_option maxRecDepth 100000 in
theorem flX11_164 : Cond.fieldLink RX11 164 (TX11 13).1 (TX11 13).2.1 (TX11 13).2.2.1 ∈ tbg := in_4 235 (by decide +kernel) rfl
set_option maxRecDepth 100000 in
theorem flX11_74 : Cond.fieldLink RX11 74 (TX11 27).1 (TX11 27).2.1 (TX11 27).2.2.1 ∈ tbg := in_5 9 (by decide +kernel) rfl
set_option maxRecDepth 100000 in
theorem flX11_35 : Cond.fieldLink RX11 35 (TX11 11).1 (TX11 11).2.1 (TX11 11).2.2.1 ∈ tbg := in_4 233 (by decide +kernel) rfl
set_option maxRecDepth 100000 in
theorem flX11_38 : Cond.fieldLink RX11 38 (TX11 12).1 (TX11 12).2.1 (TX11 12).2.2.1 ∈ tbg := in_4 234 (by decide +kernel) rfl
set_option maxRecDepth 100000 in
theorem flX11_77 : Cond.fieldLink RX11 77 (TX11 28).1 (TX11 28).2.1 (TX11 28).2.2.1 ∈ tbg := in_5 10 (by decide +kernel) rfl
set_option maxRecDepth 100000 in
theorem okX11_200 : okV RX11 200 yX11_can cX11_can 6 (some .boolean) 3 := ⟨good_l (List.forall_mem_cons.mpr ⟨in_6 19 (by decide +kernel) rfl, List.forall_mem_cons.mpr ⟨in_6 21 (by decide +kernel) rfl, List.forall_mem_cons.mpr ⟨in_s 61 (by decide +kernel) rfl, List.forall_mem_cons.mpr ⟨in_1 14 (by decide +kernel) rfl, List.forall_mem_cons.mpr ⟨in_6 22 (by decide +kernel) rfl, List.forall_mem_nil _⟩⟩⟩⟩⟩), by decide +kernel⟩
set_option maxRecDepth 100000 in
theorem okX11_197 : okV RX11 197 yX11_isWrongTaken cX11_isWrongTaken 4 (some .boolean) 0 := ⟨good_l (List.forall_mem_cons.mpr ⟨in_6 15 (by decide +kernel) rfl, List.forall_mem_cons.mpr ⟨in_6 17 (by decide +kernel) rfl, List.forall_mem_cons.mpr ⟨in_s 60 (by decide +kernel) rfl, List.forall_mem_cons.mpr ⟨in_1 14 (by decide +kernel) rfl, List.forall_mem_cons.mpr ⟨in_6 18 (by decide +kernel) rfl, List.forall_mem_nil _⟩⟩⟩⟩⟩), by decide +kernel⟩
set_option maxRecDepth 100000 in
theorem flX11_243 : Cond.fieldLink RX11 243 (TX11 37).1 (TX11 37).2.1 (TX11 37).2.2.1 ∈ tbg := in_5 19 (by decide +kernel) rfl
set_option maxRecDepth 100000 in
theorem flX11_90 : Cond.fieldLink RX11 90 (TX11 36).1 (TX11 36).2.1 (TX11 36).2.2.1 ∈ tbg := in_5 18 (by decide +kernel) rfl
set_option maxRecDepth 100000 in
theorem flX11_105 : Cond.fieldLink RX11 105 (TX11 47).1 (TX11 47).2.1 (TX11 47).2.2.1 ∈ tbg := in_5 29 (by decide +kernel) rfl
set_option maxRecDepth 100000 in
theorem flX11_84 : Cond.fieldLink RX11 84 (TX11 34).1 (TX11 34).2.1 (TX11 34).2.2.1 ∈ tbg := in_5 16 (by decide +kernel) rfl
set_option maxRecDepth 100000 in
theorem flX11_87 : Cond.fieldLink RX11 87 (TX11 35).1 (TX11 35).2.1 (TX11 35).2.2.1 ∈ tbg := in_5 17 (by decide +kernel) rfl
set_option maxRecDepth 100000 in
theorem flX11_147 : Cond.fieldLink RX11 147 (TX11 7).1 (TX11 7).2.1 (TX11 7).2.2.1 ∈ tbg := in_4 229 (by decide +kernel) rfl
set_option maxRecDepth 100000 in
theorem flX11_23 : Cond.fieldLink RX11 23 (TX11 6).1 (TX11 6).2.1 (TX11 6).2.2.1 ∈ tbg := in_4 228 (by decide +kernel) rfl
set_option maxRecDepth 100000 in
theorem flX11_126 : Cond.fieldLink RX11 126 (TX11 25).1 (TX11 25).2.1 (TX11 25).2.2.1 ∈ tbg := in_5 7 (by decide +kernel) rfl
set_option maxRecDepth 100000 in
theorem flX11_65 : Cond.fieldLink RX11 65 (TX11 23).1 (TX11 23).2.1 (TX11 23).2.2.1 ∈ tbg := in_5 5 (by decide +kernel) rfl
set_option maxRecDepth 100000 in
theorem flX11_144 : Cond.fieldLink RX11 144 (TX11 2).1 (TX11 2).2.1 (TX11 2).2.2.1 ∈ tbg := in_4 224 (by decide +kernel) rfl
set_option maxRecDepth 100000 in
theorem flX11_204 : Cond.fieldLink RX11 204 (TX11 30).1 (TX11 30).2.1 (TX11 30).2.2.1 ∈ tbg := in_5 12 (by decide +kernel) rfl
set_option maxRecDepth 100000 in
theorem okX11_177 : okV RX11 177 yX11_tree cX11_tree 7 none 0 := ⟨good_l (List.forall_mem_cons.mpr ⟨in_5 203 (by decide +kernel) rfl, List.forall_mem_cons.mpr ⟨in_5 205 (by decide +kernel) rfl, List.forall_mem_cons.mpr ⟨in_s 52 (by decide +kernel) rfl, List.forall_mem_cons.mpr ⟨in_1 14 (by decide +kernel) rfl, List.forall_mem_cons.mpr ⟨in_5 206 (by decide +kernel) rfl, List.forall_mem_nil _⟩⟩⟩⟩⟩), by decide +kernel⟩
set_option maxRecDepth 100000 in
theorem flX11_16 : Cond.fieldLink RX11 16 (TX11 4).1 (TX11 4).2.1 (TX11 4).2.2.1 ∈ tbg := in_4 226 (by decide +kernel) rfl
set_option maxRecDepth 100000 in
theorem okX11_153 : okV RX11 153 yX11_quarrels cX11_quarrels 5 (some .boolean) 2 := ⟨good_l (List.forall_mem_cons.mpr ⟨in_5 191 (by decide +kernel) rfl, List.forall_mem_cons.mpr ⟨in_5 193 (by decide +kernel) rfl, List.forall_mem_cons.mpr ⟨in_s 50 (by decide +kernel) rfl, List.forall_mem_cons.mpr ⟨in_1 14 (by decide +kernel) rfl, List.forall_mem_cons.mpr ⟨in_5 194 (by decide +kernel) rfl, List.forall_mem_nil _⟩⟩⟩⟩⟩), by decide +kernel⟩
set_option maxRecDepth 100000 in
theorem flX11_68 : Cond.fieldLink RX11 68 (TX11 24).1 (TX11 24).2.1 (TX11 24).2.2.1 ∈ tbg := in_5 6 (by decide +kernel) rfl
set_option maxRecDepth 100000 in
theorem okX11_150 : okV RX11 150 yX11_isRow cX11_isRow 2 (some .boolean) 1 := ⟨good_l (List.forall_mem_cons.mpr ⟨in_5 179 (by decide +kernel) rfl, List.forall_mem_cons.mpr ⟨in_5 181 (by decide +kernel) rfl, List.forall_mem_cons.mpr ⟨in_s 48 (by decide +kernel) rfl, List.forall_mem_cons.mpr ⟨in_1 14 (by decide +kernel) rfl, List.forall_mem_cons.mpr ⟨in_5 182 (by decide +kernel) rfl, List.forall_mem_nil _⟩⟩⟩⟩⟩), by decide +kernel⟩
set_option maxRecDepth 100000 in
theorem flX11_80 : Cond.fieldLink RX11 80 (TX11 29).1 (TX11 29).2.1 (TX11 29).2.2.1 ∈ tbg := in_5 11 (by decide +kernel) rfl
set_option maxRecDepth 100000 in
theorem flX11_246 : Cond.fieldLink RX11 246 (TX11 38).1 (TX11 38).2.1 (TX11 38).2.2.1 ∈ tbg := in_5 20 (by decide +kernel) rfl
set_option maxRecDepth 100000 in
theorem flX11_108 : Cond.fieldLink RX11 108 (TX11 48).1 (TX11 48).2.1 (TX11 48).2.2.1 ∈ tbg := in_5 30 (by decide +kernel) rfl
set_option maxRecDepth 100000 in
theorem okX11_136 : okS RX11 136 yX11_isCall cX11_isCall 1 (some .boolean) 1 := ⟨good_l (List.forall_mem_cons.mpr ⟨in_5 156 (by decide +kernel) rfl, List.forall_mem_cons.mpr ⟨in_5 157 (by decide +kernel) rfl, List.forall_mem_cons.mpr ⟨in_1 14 (by decide +kernel) rfl, List.forall_mem_cons.mpr ⟨in_5 158 (by decide +kernel) rfl, List.forall_mem_nil _⟩⟩⟩⟩), by decide +kernel⟩
set_option maxRecDepth 100000 in
theorem okX11_140 : okV RX11 140 yX11_bad cX11_bad 3 (some .boolean) 2 := ⟨good_l (List.forall_mem_cons.mpr ⟨in_5 159 (by decide +kernel) rfl, List.forall_mem_cons.mpr ⟨in_5 161 (by decide +kernel) rfl, List.forall_mem_cons.mpr ⟨in_s 47 (by decide +kernel) rfl, List.forall_mem_cons.mpr ⟨in_1 14 (by decide +kernel) rfl, List.forall_mem_cons.mpr ⟨in_5 162 (by decide +kernel) rfl, List.forall_mem_nil _⟩⟩⟩⟩⟩), by decide +kernel⟩
set_option maxRecDepth 100000 in
theorem okX11_272 : okV RX11 272 yX11_habits cX11_habits 7 none 0 := ⟨good_l (List.forall_mem_cons.mpr ⟨in_6 88 (by decide +kernel) rfl, List.forall_mem_cons.mpr ⟨in_6 90 (by decide +kernel) rfl, List.forall_mem_cons.mpr ⟨in_s 72 (by decide +kernel) rfl, List.forall_mem_cons.mpr ⟨in_1 14 (by decide +kernel) rfl, List.forall_mem_cons.mpr ⟨in_6 91 (by decide +kernel) rfl, List.forall_mem_nil _⟩⟩⟩⟩⟩), by decide +kernel⟩
set_option maxRecDepth 100000 in
theorem flX11_120 : Cond.fieldLink RX11 120 (TX11 53).1 (TX11 53).2.1 (TX11 53).2.2.1 ∈ tbg := in_5 35 (by decide +kernel) rfl
set_option maxRecDepth 100000 in
theorem flX11_123 : Cond.fieldLink RX11 123 (TX11 54).1 (TX11 54).2.1 (TX11 54).2.2.1 ∈ tbg := in_5 36 (by decide +kernel) rfl
set_option maxRecDepth 100000 in
theorem flX11_19 : Cond.fieldLink RX11 19 (TX11 5).1 (TX11 5).2.1 (TX11 5).2.2.1 ∈ tbg := in_4 227 (by decide +kernel) rfl
set_option maxRecDepth 100000 in
theorem flX11_13 : Cond.fieldLink RX11 13 (TX11 3).1 (TX11 3).2.1 (TX11 3).2.2.1 ∈ tbg := in_4 225 (by decide +kernel) rfl
set_option maxRecDepth 100000 in
theorem flX11_9 : Cond.fieldLink RX11 9 (TX11 1).1 (TX11 1).2.1 (TX11 1).2.2.1 ∈ tbg := in_4 223 (by decide +kernel) rfl
set_option maxRecDepth 100000 in
theorem okX11_130 : okV RX11 130 yX11_clearBreak cX11_clearBreak 1 none 0 := ⟨good_l (List.forall_mem_cons.mpr ⟨in_4 218 (by decide +kernel) rfl, List.forall_mem_cons.mpr ⟨in_4 220 (by decide +kernel) rfl, List.forall_mem_cons.mpr ⟨in_s 46 (by decide +kernel) rfl, List.forall_mem_cons.mpr ⟨in_1 14 (by decide +kernel) rfl, List.forall_mem_cons.mpr ⟨in_4 221 (by decide +kernel) rfl, List.forall_mem_nil _⟩⟩⟩⟩⟩), by decide +kernel⟩
set_option maxRecDepth 100000 in
theorem flX11_102 : Cond.fieldLink RX11 102 (TX11 46).1 (TX11 46).2.1 (TX11 46).2.2.1 ∈ tbg := in_5 28 (by decide +kernel) rfl
set_option maxRecDepth 100000 in
theorem okX11_256 : okV RX11 256 yX11_isNearer cX11_isNearer 6 (some .boolean) 2 := ⟨good_l (List.forall_mem_cons.mpr ⟨in_6 56 (by decide +kernel) rfl, List.forall_mem_cons.mpr ⟨in_6 58 (by decide +kernel) rfl, List.forall_mem_cons.mpr ⟨in_s 67 (by decide +kernel) rfl, List.forall_mem_cons.mpr ⟨in_1 14 (by decide +kernel) rfl, List.forall_mem_cons.mpr ⟨in_6 59 (by decide +kernel) rfl, List.forall_mem_nil _⟩⟩⟩⟩⟩), by decide +kernel⟩
set_option maxRecDepth 100000 in
theorem okX11_259 : okV RX11 259 yX11_closes cX11_closes 3 none 0 := ⟨good_l (List.forall_mem_cons.mpr ⟨in_6 60 (by decide +kernel) rfl, List.forall_mem_cons.mpr ⟨in_6 62 (by decide +kernel) rfl, List.forall_mem_cons.mpr ⟨in_s 68 (by decide +kernel) rfl, List.forall_mem_cons.mpr ⟨in_1 14 (by decide +kernel) rfl, List.forall_mem_cons.mpr ⟨in_6 63 (by decide +kernel) rfl, List.forall_mem_nil _⟩⟩⟩⟩⟩), by decide +kernel⟩
set_option maxRecDepth 100000 in
theorem okX11_262 : okV RX11 262 yX11_leads cX11_leads 6 (some .boolean) 3 := ⟨good_l (List.forall_mem_cons.mpr ⟨in_6 64 (by decide +kernel) rfl, List.forall_mem_cons.mpr ⟨in_6 66 (by decide +kernel) rfl, List.forall_mem_cons.mpr ⟨in_s 69 (by decide +kernel) rfl, List.forall_mem_cons.mpr ⟨in_1 14 (by decide +kernel) rfl, List.forall_mem_cons.mpr ⟨in_6 67 (by decide +kernel) rfl, List.forall_mem_nil _⟩⟩⟩⟩⟩), by decide +kernel⟩
set_option maxRecDepth 100000 in
theorem okX11_265 : okV RX11 265 yX11_breaksOn cX11_breaksOn 4 none 1 := ⟨good_l (List.forall_mem_cons.mpr ⟨in_6 68 (by decide +kernel) rfl, List.forall_mem_cons.mpr ⟨in_6 70 (by decide +kernel) rfl, List.forall_mem_cons.mpr ⟨in_s 70 (by decide +kernel) rfl, List.forall_mem_cons.mpr ⟨in_1 14 (by decide +kernel) rfl, List.forall_mem_cons.mpr ⟨in_6 71 (by decide +kernel) rfl, List.forall_mem_nil _⟩⟩⟩⟩⟩), by decide +kernel⟩
set_option maxRecDepth 100000 in
theorem okX11_269 : okV RX11 269 yX11_goesOn cX11_goesOn 4 (some .int) 2 := ⟨good_l (List.forall_mem_cons.mpr ⟨in_6 72 (by decide +kernel) rfl, List.forall_mem_cons.mpr ⟨in_6 74 (by decide +kernel) rfl, List.forall_mem_cons.mpr ⟨in_s 71 (by decide +kernel) rfl, List.forall_mem_cons.mpr ⟨in_1 14 (by decide +kernel) rfl, List.forall_mem_cons.mpr ⟨in_6 75 (by decide +kernel) rfl, List.forall_mem_nil _⟩⟩⟩⟩⟩), by decide +kernel⟩
set_option maxRecDepth 100000 in
theorem flX11_26 : Cond.fieldLink RX11 26 (TX11 8).1 (TX11 8).2.1 (TX11 8).2.2.1 ∈ tbg := in_4 230 (by decide +kernel) rfl
set_option maxRecDepth 100000 in
theorem flX11_29 : Cond.fieldLink RX11 29 (TX11 9).1 (TX11 9).2.1 (TX11 9).2.2.1 ∈ tbg := in_4 231 (by decide +kernel) rfl
set_option maxRecDepth 100000 in
theorem flX11_32 : Cond.fieldLink RX11 32 (TX11 10).1 (TX11 10).2.1 (TX11 10).2.2.1 ∈ tbg := in_4 232 (by decide +kernel) rfl
set_option maxRecDepth 100000 in
theorem flX11_41 : Cond.fieldLink RX11 41 (TX11 14).1 (TX11 14).2.1 (TX11 14).2.2.1 ∈ tbg := in_4 236 (by decide +kernel) rfl
set_option maxRecDepth 100000 in
theorem flX11_44 : Cond.fieldLink RX11 44 (TX11 15).1 (TX11 15).2.1 (TX11 15).2.2.1 ∈ tbg := in_4 237 (by decide +kernel) rfl
set_option maxRecDepth 100000 in
theorem flX11_47 : Cond.fieldLink RX11 47 (TX11 16).1 (TX11 16).2.1 (TX11 16).2.2.1 ∈ tbg := in_4 238 (by decide +kernel) rfl
set_option maxRecDepth 100000 in
theorem flX11_50 : Cond.fieldLink RX11 50 (TX11 17).1 (TX11 17).2.1 (TX11 17).2.2.1 ∈ tbg := in_4 239 (by decide +kernel) rfl
set_option maxRecDepth 100000 in
theorem flX11_53 : Cond.fieldLink RX11 53 (TX11 18).1 (TX11 18).2.1 (TX11 18).2.2.1 ∈ tbg := in_5 0 (by decide +kernel) rfl
set_option maxRecDepth 100000 in
theorem flX11_56 : Cond.fieldLink RX11 56 (TX11 19).1 (TX11 19).2.1 (TX11 19).2.2.1 ∈ tbg := in_5 1 (by decide +kernel) rfl
set_option maxRecDepth 100000 in
theorem flX11_59 : Cond.fieldLink RX11 59 (TX11 21).1 (TX11 21).2.1 (TX11 21).2.2.1 ∈ tbg := in_5 3 (by decide +kernel) rfl
set_option maxRecDepth 100000 in
theorem flX11_62 : Cond.fieldLink RX11 62 (TX11 22).1 (TX11 22).2.1 (TX11 22).2.2.1 ∈ tbg := in_5 4 (by decide +kernel) rfl
set_option maxRecDepth 100000 in
theorem flX11_71 : Cond.fieldLink RX11 71 (TX11 26).1 (TX11 26).2.1 (TX11 26).2.2.1 ∈ tbg := in_5 8 (by decide +kernel) rfl
set_option maxRecDepth 100000 in
theorem flX11_114 : Cond.fieldLink RX11 114 (TX11 51).1 (TX11 51).2.1 (TX11 51).2.2.1 ∈ tbg := in_5 33 (by decide +kernel) rfl
set_option maxRecDepth 100000 in
theorem flX11_117 : Cond.fieldLink RX11 117 (TX11 52).1 (TX11 52).2.1 (TX11 52).2.2.1 ∈ tbg := in_5 34 (by decide +kernel) rfl
set_option maxRecDepth 100000 in
theorem okX11_180 : okV RX11 180 yX11_melts cX11_melts 8 none 2 := ⟨good_l (List.forall_mem_cons.mpr ⟨in_5 207 (by decide +kernel) rfl, List.forall_mem_cons.mpr ⟨in_5 209 (by decide +kernel) rfl, List.forall_mem_cons.mpr ⟨in_s 53 (by decide +kernel) rfl, List.forall_mem_cons.mpr ⟨in_1 14 (by decide +kernel) rfl, List.forall_mem_cons.mpr ⟨in_5 210 (by decide +kernel) rfl, List.forall_mem_nil _⟩⟩⟩⟩⟩), by decide +kernel⟩
set_option maxRecDepth 100000 in
theorem okX11_183 : okV RX11 183 yX11_takesWrong cX11_takesWrong 4 (some .boolean) 0 := ⟨good_l (List.forall_mem_cons.mpr ⟨in_5 219 (by decide +kernel) rfl, List.forall_mem_cons.mpr ⟨in_5 221 (by decide +kernel) rfl, List.forall_mem_cons.mpr ⟨in_s 56 (by decide +kernel) rfl, List.forall_mem_cons.mpr ⟨in_1 14 (by decide +kernel) rfl, List.forall_mem_cons.mpr ⟨in_5 222 (by decide +kernel) rfl, List.forall_mem_nil _⟩⟩⟩⟩⟩), by decide +kernel⟩
set_option maxRecDepth 100000 in
theorem okX11_187 : okV RX11 187 yX11_takesBack cX11_takesBack 1 none 0 := ⟨good_l (List.forall_mem_cons.mpr ⟨in_5 223 (by decide +kernel) rfl, List.forall_mem_cons.mpr ⟨in_5 225 (by decide +kernel) rfl, List.forall_mem_cons.mpr ⟨in_s 57 (by decide +kernel) rfl, List.forall_mem_cons.mpr ⟨in_1 14 (by decide +kernel) rfl, List.forall_mem_cons.mpr ⟨in_5 226 (by decide +kernel) rfl, List.forall_mem_nil _⟩⟩⟩⟩⟩), by decide +kernel⟩
set_option maxRecDepth 100000 in
theorem okX11_170 : okV RX11 170 yX11_leastOf cX11_leastOf 3 (some .int) 1 := ⟨good_l (List.forall_mem_cons.mpr ⟨in_5 211 (by decide +kernel) rfl, List.forall_mem_cons.mpr ⟨in_5 213 (by decide +kernel) rfl, List.forall_mem_cons.mpr ⟨in_s 54 (by decide +kernel) rfl, List.forall_mem_cons.mpr ⟨in_1 14 (by decide +kernel) rfl, List.forall_mem_cons.mpr ⟨in_5 214 (by decide +kernel) rfl, List.forall_mem_nil _⟩⟩⟩⟩⟩), by decide +kernel⟩
set_option maxRecDepth 100000 in
theorem okX11_190 : okV RX11 190 yX11_placeOf cX11_placeOf 4 (some .int) 2 := ⟨good_l (List.forall_mem_cons.mpr ⟨in_5 227 (by decide +kernel) rfl, List.forall_mem_cons.mpr ⟨in_5 229 (by decide +kernel) rfl, List.forall_mem_cons.mpr ⟨in_s 58 (by decide +kernel) rfl, List.forall_mem_cons.mpr ⟨in_1 14 (by decide +kernel) rfl, List.forall_mem_cons.mpr ⟨in_5 230 (by decide +kernel) rfl, List.forall_mem_nil _⟩⟩⟩⟩⟩), by decide +kernel⟩
set_option maxRecDepth 100000 in
theorem flX11_167 : Cond.fieldLink RX11 167 (TX11 20).1 (TX11 20).2.1 (TX11 20).2.2.1 ∈ tbg := in_5 2 (by decide +kernel) rfl
set_option maxRecDepth 100000 in
theorem okX11_173 : okV RX11 173 yX11_sets cX11_sets 3 none 2 := ⟨good_l (List.forall_mem_cons.mpr ⟨in_5 215 (by decide +kernel) rfl, List.forall_mem_cons.mpr ⟨in_5 217 (by decide +kernel) rfl, List.forall_mem_cons.mpr ⟨in_s 55 (by decide +kernel) rfl, List.forall_mem_cons.mpr ⟨in_1 14 (by decide +kernel) rfl, List.forall_mem_cons.mpr ⟨in_5 218 (by decide +kernel) rfl, List.forall_mem_nil _⟩⟩⟩⟩⟩), by decide +kernel⟩
set_option maxRecDepth 100000 in
theorem flX11_210 : Cond.fieldLink RX11 210 (TX11 31).1 (TX11 31).2.1 (TX11 31).2.2.1 ∈ tbg := in_5 13 (by decide +kernel) rfl
set_option maxRecDepth 100000 in
theorem okX11_275 : okV RX11 275 yX11_isAhead cX11_isAhead 5 (some .boolean) 2 := ⟨good_l (List.forall_mem_cons.mpr ⟨in_6 96 (by decide +kernel) rfl, List.forall_mem_cons.mpr ⟨in_6 98 (by decide +kernel) rfl, List.forall_mem_cons.mpr ⟨in_s 73 (by decide +kernel) rfl, List.forall_mem_cons.mpr ⟨in_1 14 (by decide +kernel) rfl, List.forall_mem_cons.mpr ⟨in_6 99 (by decide +kernel) rfl, List.forall_mem_nil _⟩⟩⟩⟩⟩), by decide +kernel⟩
set_option maxRecDepth 100000 in
theorem okX11_234 : okV RX11 234 yX11_bracket cX11_bracket 4 (some .int) 1 := ⟨good_l (List.forall_mem_cons.mpr ⟨in_6 47 (by decide +kernel) rfl, List.forall_mem_cons.mpr ⟨in_6 49 (by decide +kernel) rfl, List.forall_mem_cons.mpr ⟨in_s 66 (by decide +kernel) rfl, List.forall_mem_cons.mpr ⟨in_1 14 (by decide +kernel) rfl, List.forall_mem_cons.mpr ⟨in_6 50 (by decide +kernel) rfl, List.forall_mem_nil _⟩⟩⟩⟩⟩), by decide +kernel⟩
set_option maxRecDepth 100000 in
theorem flX11_216 : Cond.fieldLink RX11 216 (TX11 44).1 (TX11 44).2.1 (TX11 44).2.2.1 ∈ tbg := in_5 26 (by decide +kernel) rfl
set_option maxRecDepth 100000 in
theorem flX11_249 : Cond.fieldLink RX11 249 (TX11 39).1 (TX11 39).2.1 (TX11 39).2.2.1 ∈ tbg := in_5 21 (by decide +kernel) rfl
set_option maxRecDepth 100000 in
theorem okX11_194 : okV RX11 194 yX11_isStep cX11_isStep 3 (some .boolean) 2 := ⟨good_l (List.forall_mem_cons.mpr ⟨in_5 235 (by decide +kernel) rfl, List.forall_mem_cons.mpr ⟨in_5 237 (by decide +kernel) rfl, List.forall_mem_cons.mpr ⟨in_s 59 (by decide +kernel) rfl, List.forall_mem_cons.mpr ⟨in_1 14 (by decide +kernel) rfl, List.forall_mem_cons.mpr ⟨in_5 238 (by decide +kernel) rfl, List.forall_mem_nil _⟩⟩⟩⟩⟩), by decide +kernel⟩
set_option maxRecDepth 100000 in
theorem okX11_157 : okV RX11 157 yX11_cutOf cX11_cutOf 4 (some .int) 1 := ⟨good_l (List.forall_mem_cons.mpr ⟨in_5 187 (by decide +kernel) rfl, List.forall_mem_cons.mpr ⟨in_5 189 (by decide +kernel) rfl, List.forall_mem_cons.mpr ⟨in_s 49 (by decide +kernel) rfl, List.forall_mem_cons.mpr ⟨in_1 14 (by decide +kernel) rfl, List.forall_mem_cons.mpr ⟨in_5 190 (by decide +kernel) rfl, List.forall_mem_nil _⟩⟩⟩⟩⟩), by decide +kernel⟩
set_option maxRecDepth 100000 in
theorem okX11_161 : okV RX11 161 yX11_isLeftOut cX11_isLeftOut 4 (some .boolean) 1 := ⟨good_l (List.forall_mem_cons.mpr ⟨in_5 195 (by decide +kernel) rfl, List.forall_mem_cons.mpr ⟨in_5 197 (by decide +kernel) rfl, List.forall_mem_cons.mpr ⟨in_s 51 (by decide +kernel) rfl, List.forall_mem_cons.mpr ⟨in_1 14 (by decide +kernel) rfl, List.forall_mem_cons.mpr ⟨in_5 198 (by decide +kernel) rfl, List.forall_mem_nil _⟩⟩⟩⟩⟩), by decide +kernel⟩
set_option maxRecDepth 100000 in
theorem flX1_18 : Cond.fieldLink RX1 18 (TX1 0).1 (TX1 0).2.1 (TX1 0).2.2.1 ∈ tbg := in_1 196 (by decide +kernel) rfl
set_option maxRecDepth 100000 in
theorem flX1_87 : Cond.fieldLink RX1 87 (TX0 5).1 (TX0 5).2.1 (TX0 5).2.2.1 ∈ tbg := in_1 65 (by decide +kernel) rfl
set_option maxRecDepth 100000 in
theorem flX1_90 : Cond.fieldLink RX1 90 (TX0 4).1 (TX0 4).2.1 (TX0 4).2.2.1 ∈ tbg := in_1 63 (by decide +kernel) rfl
set_option maxRecDepth 100000 in
theorem okX1_93 : okV RX1 93 yX1_slotLackedBy cX1_slotLackedBy 6 (some .int) 1 := ⟨good_l (List.forall_mem_cons.mpr ⟨in_3 103 (by decide +kernel) rfl, List.forall_mem_cons.mpr ⟨in_3 105 (by decide +kernel) rfl, List.forall_mem_cons.mpr ⟨in_s 20 (by decide +kernel) rfl, List.forall_mem_cons.mpr ⟨in_1 9 (by decide +kernel) rfl, List.forall_mem_cons.mpr ⟨in_3 106 (by decide +kernel) rfl, List.forall_mem_nil _⟩⟩⟩⟩⟩), by decide +kernel⟩
set_option maxRecDepth 100000 in
theorem flX1_9 : Cond.fieldLink RX1 9 (TX1 2).1 (TX1 2).2.1 (TX1 2).2.2.1 ∈ tbg := in_1 198 (by decide +kernel) rfl
set_option maxRecDepth 100000 in
theorem flX1_15 : Cond.fieldLink RX1 15 (TX1 3).1 (TX1 3).2.1 (TX1 3).2.2.1 ∈ tbg := in_1 199 (by decide +kernel) rfl
set_option maxRecDepth 100000 in
theorem flX1_22 : Cond.fieldLink RX1 22 (TX1 1).1 (TX1 1).2.1 (TX1 1).2.2.1 ∈ tbg := in_1 197 (by decide +kernel) rfl
set_option maxRecDepth 100000 in
theorem flX1_45 : Cond.fieldLink RX1 45 (TX9 6).1 (TX9 6).2.1 (TX9 6).2.2.1 ∈ tbg := in_1 106 (by decide +kernel) rfl
set_option maxRecDepth 100000 in
theorem flX1_71 : Cond.fieldLink RX1 71 (TX9 2).1 (TX9 2).2.1 (TX9 2).2.2.1 ∈ tbg := in_1 98 (by decide +kernel) rfl
set_option maxRecDepth 100000 in
theorem okX1_50 : okV RX1 50 yX1_slotInto cX1_slotInto 2 (some .int) 1 := ⟨good_l (List.forall_mem_cons.mpr ⟨in_3 83 (by decide +kernel) rfl, List.forall_mem_cons.mpr ⟨in_3 85 (by decide +kernel) rfl, List.forall_mem_cons.mpr ⟨in_s 16 (by decide +kernel) rfl, List.forall_mem_cons.mpr ⟨in_1 9 (by decide +kernel) rfl, List.forall_mem_cons.mpr ⟨in_3 86 (by decide +kernel) rfl, List.forall_mem_nil _⟩⟩⟩⟩⟩), by decide +kernel⟩
set_option maxRecDepth 100000 in
theorem flX1_31 : Cond.fieldLink RX1 31 (TX1 4).1 (TX1 4).2.1 (TX1 4).2.2.1 ∈ tbg := in_1 200 (by decide +kernel) rfl
set_option maxRecDepth 100000 in
theorem okX1_58 : okV RX1 58 yX1_barredSlots cX1_barredSlots 4 (some .int) 0 := ⟨good_l (List.forall_mem_cons.mpr ⟨in_3 99 (by decide +kernel) rfl, List.forall_mem_cons.mpr ⟨in_3 101 (by decide +kernel) rfl, List.forall_mem_cons.mpr ⟨in_s 19 (by decide +kernel) rfl, List.forall_mem_cons.mpr ⟨in_1 9 (by decide +kernel) rfl, List.forall_mem_cons.mpr ⟨in_3 102 (by decide +kernel) rfl, List.forall_mem_nil _⟩⟩⟩⟩⟩), by decide +kernel⟩
set_option maxRecDepth 100000 in
theorem okX1_62 : okV RX1 62 yX1_isLost cX1_isLost 5 (some .boolean) 2 := ⟨good_l (List.forall_mem_cons.mpr ⟨in_3 109 (by decide +kernel) rfl, List.forall_mem_cons.mpr ⟨in_3 111 (by decide +kernel) rfl, List.forall_mem_cons.mpr ⟨in_s 21 (by decide +kernel) rfl, List.forall_mem_cons.mpr ⟨in_1 9 (by decide +kernel) rfl, List.forall_mem_cons.mpr ⟨in_3 112 (by decide +kernel) rfl, List.forall_mem_nil _⟩⟩⟩⟩⟩), by decide +kernel⟩
set_option maxRecDepth 100000 in
theorem okX1_65 : okS RX1 65 yJ9_max_7cf53 cJ9_max_7cf53 2 (some .int) 2 := ⟨good_l (List.forall_mem_cons.mpr ⟨in_3 113 (by decide +kernel) rfl, List.forall_mem_cons.mpr ⟨in_1 35 (by decide +kernel) rfl, List.forall_mem_cons.mpr ⟨in_1 3 (by decide +kernel) rfl, List.forall_mem_cons.mpr ⟨in_1 36 (by decide +kernel) rfl, List.forall_mem_nil _⟩⟩⟩⟩), by decide +kernel⟩
set_option maxRecDepth 100000 in
theorem okX1_41 : okV RX1 41 yX1_placeFrom cX1_placeFrom 4 (some .boolean) 2 := ⟨good_l (List.forall_mem_cons.mpr ⟨in_3 79 (by decide +kernel) rfl, List.forall_mem_cons.mpr ⟨in_3 81 (by decide +kernel) rfl, List.forall_mem_cons.mpr ⟨in_s 15 (by decide +kernel) rfl, List.forall_mem_cons.mpr ⟨in_1 9 (by decide +kernel) rfl, List.forall_mem_cons.mpr ⟨in_3 82 (by decide +kernel) rfl, List.forall_mem_nil _⟩⟩⟩⟩⟩), by decide +kernel⟩
set_option maxRecDepth 100000 in
theorem okX1_54 : okV RX1 54 yX1_placeFree cX1_placeFree 5 (some .boolean) 3 := ⟨good_l (List.forall_mem_cons.mpr ⟨in_3 95 (by decide +kernel) rfl, List.forall_mem_cons.mpr ⟨in_3 97 (by decide +kernel) rfl, List.forall_mem_cons.mpr ⟨in_s 18 (by decide +kernel) rfl, List.forall_mem_cons.mpr ⟨in_1 9 (by decide +kernel) rfl, List.forall_mem_cons.mpr ⟨in_3 98 (by decide +kernel) rfl, List.forall_mem_nil _⟩⟩⟩⟩⟩), by decide +kernel⟩
set_option maxRecDepth 100000 in
theorem okX1_74 : okV RX1 74 yX1_stateAt cX1_stateAt 2 (some .int) 1 := ⟨good_l (List.forall_mem_cons.mpr ⟨in_3 87 (by decide +kernel) rfl, List.forall_mem_cons.mpr ⟨in_3 89 (by decide +kernel) rfl, List.forall_mem_cons.mpr ⟨in_s 17 (by decide +kernel) rfl, List.forall_mem_cons.mpr ⟨in_1 9 (by decide +kernel) rfl, List.forall_mem_cons.mpr ⟨in_3 90 (by decide +kernel) rfl, List.forall_mem_nil _⟩⟩⟩⟩⟩), by decide +kernel⟩
set_option maxRecDepth 100000 in
theorem flX1_77 : Cond.fieldLink RX1 77 (TX9 3).1 (TX9 3).2.1 (TX9 3).2.2.1 ∈ tbg := in_1 100 (by decide +kernel) rfl
set_option maxRecDepth 100000 in
theorem okX1_80 : okS RX1 80 yX1_slotOf cX1_slotOf 2 (some .int) 2 := ⟨good_l (List.forall_mem_cons.mpr ⟨in_3 91 (by decide +kernel) rfl, List.forall_mem_cons.mpr ⟨in_3 92 (by decide +kernel) rfl, List.forall_mem_cons.mpr ⟨in_1 9 (by decide +kernel) rfl, List.forall_mem_cons.mpr ⟨in_3 93 (by decide +kernel) rfl, List.forall_mem_nil _⟩⟩⟩⟩), by decide +kernel⟩
set_option maxRecDepth 100000 in
theorem okX1_96 : okV RX1 96 yX0_sizeOf cX0_sizeOf 2 (some .int) 1 := ⟨good_l (List.forall_mem_cons.mpr ⟨in_3 107 (by decide +kernel) rfl, List.forall_mem_cons.mpr ⟨in_2 175 (by decide +kernel) rfl, List.forall_mem_cons.mpr ⟨in_2 176 (by decide +kernel) rfl, List.forall_mem_cons.mpr ⟨in_1 4 (by decide +kernel) rfl, List.forall_mem_cons.mpr ⟨in_2 177 (by decide +kernel) rfl, List.forall_mem_nil _⟩⟩⟩⟩⟩), by decide +kernel⟩
set_option maxRecDepth 100000 in
theorem okX1_99 : okV RX1 99 yX0_callAt cX0_callAt 3 (some .int) 2 := ⟨good_l (List.forall_mem_cons.mpr ⟨in_3 108 (by decide +kernel) rfl, List.forall_mem_cons.mpr ⟨in_2 187 (by decide +kernel) rfl, List.forall_mem_cons.mpr ⟨in_2 188 (by decide +kernel) rfl, List.forall_mem_cons.mpr ⟨in_1 4 (by decide +kernel) rfl, List.forall_mem_cons.mpr ⟨in_2 189 (by decide +kernel) rfl, List.forall_mem_nil _⟩⟩⟩⟩⟩), by decide +kernel⟩
set_option maxRecDepth 100000 in
theorem okX1_83 : okN RX1 83 yX10_isCall RX10 cX10_isCall 1 (some .boolean) 1 := ⟨⟨good_l (List.forall_mem_cons.mpr ⟨in_2 196 (by decide +kernel) rfl, List.forall_mem_cons.mpr ⟨in_1 1 (by decide +kernel) rfl, List.forall_mem_cons.mpr ⟨in_2 197 (by decide +kernel) rfl, List.forall_mem_nil _⟩⟩⟩), by decide +kernel⟩, by decide +kernel⟩
set_option maxRecDepth 100000 in
theorem okX1_26 : okV RX1 26 yX0_gatherBinding cX0_gatherBinding 2 none 0 := ⟨good_l (List.forall_mem_cons.mpr ⟨in_3 77 (by decide +kernel) rfl, List.forall_mem_cons.mpr ⟨in_2 215 (by decide +kernel) rfl, List.forall_mem_cons.mpr ⟨in_2 216 (by decide +kernel) rfl, List.forall_mem_cons.mpr ⟨in_1 4 (by decide +kernel) rfl, List.forall_mem_cons.mpr ⟨in_2 217 (by decide +kernel) rfl, List.forall_mem_nil _⟩⟩⟩⟩⟩), by decide +kernel⟩
set_option maxRecDepth 100000 in
theorem okX1_35 : okS RX1 35 yJ7_fill_53178 cJ7_fill_53178 4 none 2 := ⟨good_l (List.forall_mem_cons.mpr ⟨in_3 78 (by decide +kernel) rfl, List.forall_mem_cons.mpr ⟨in_1 176 (by decide +kernel) rfl, List.forall_mem_cons.mpr ⟨in_1 8 (by decide +kernel) rfl, List.forall_mem_cons.mpr ⟨in_1 177 (by decide +kernel) rfl, List.forall_mem_nil _⟩⟩⟩⟩), by decide +kernel⟩
set_option maxRecDepth 100000 in
theorem flX2_18 : Cond.fieldLink RX2 18 (TX2 3).1 (TX2 3).2.1 (TX2 3).2.2.1 ∈ tbg := in_2 85 (by decide +kernel) rfl
set_option maxRecDepth 100000 in
theorem flX2_9 : Cond.fieldLink RX2 9 (TX2 1).1 (TX2 1).2.1 (TX2 1).2.2.1 ∈ tbg := in_2 83 (by decide +kernel) rfl
set_option maxRecDepth 100000 in
theorem flX2_15 : Cond.fieldLink RX2 15 (TX2 2).1 (TX2 2).2.1 (TX2 2).2.2.1 ∈ tbg := in_2 84 (by decide +kernel) rfl
set_option maxRecDepth 100000 in
theorem okX2_59 : okV RX2 59 yX2_isRanked cX2_isRanked 2 (some .boolean) 1 := ⟨good_l (List.forall_mem_cons.mpr ⟨in_4 198 (by decide +kernel) rfl, List.forall_mem_cons.mpr ⟨in_4 200 (by decide +kernel) rfl, List.forall_mem_cons.mpr ⟨in_s 43 (by decide +kernel) rfl, List.forall_mem_cons.mpr ⟨in_1 13 (by decide +kernel) rfl, List.forall_mem_cons.mpr ⟨in_4 201 (by decide +kernel) rfl, List.forall_mem_nil _⟩⟩⟩⟩⟩), by decide +kernel⟩
set_option maxRecDepth 100000 in
theorem okX2_62 : okV RX2 62 yX2_countAhead cX2_countAhead 4 (some .int) 1 := ⟨good_l (List.forall_mem_cons.mpr ⟨in_4 203 (by decide +kernel) rfl, List.forall_mem_cons.mpr ⟨in_4 205 (by decide +kernel) rfl, List.forall_mem_cons.mpr ⟨in_s 44 (by decide +kernel) rfl, List.forall_mem_cons.mpr ⟨in_1 13 (by decide +kernel) rfl, List.forall_mem_cons.mpr ⟨in_4 206 (by decide +kernel) rfl, List.forall_mem_nil _⟩⟩⟩⟩⟩), by decide +kernel⟩
set_option maxRecDepth 100000 in
theorem okX2_68 : okV RX2 68 yX2_isAhead cX2_isAhead 7 (some .boolean) 2 := ⟨good_l (List.forall_mem_cons.mpr ⟨in_4 207 (by decide +kernel) rfl, List.forall_mem_cons.mpr ⟨in_4 209 (by decide +kernel) rfl, List.forall_mem_cons.mpr ⟨in_s 45 (by decide +kernel) rfl, List.forall_mem_cons.mpr ⟨in_1 13 (by decide +kernel) rfl, List.forall_mem_cons.mpr ⟨in_4 210 (by decide +kernel) rfl, List.forall_mem_nil _⟩⟩⟩⟩⟩), by decide +kernel⟩
set_option maxRecDepth 100000 in
theorem okX2_29 : okS RX2 29 yJ7_fill_53178 cJ7_fill_53178 4 none 2 := ⟨good_l (List.forall_mem_cons.mpr ⟨in_4 166 (by decide +kernel) rfl, List.forall_mem_cons.mpr ⟨in_1 176 (by decide +kernel) rfl, List.forall_mem_cons.mpr ⟨in_1 8 (by decide +kernel) rfl, List.forall_mem_cons.mpr ⟨in_1 177 (by decide +kernel) rfl, List.forall_mem_nil _⟩⟩⟩⟩), by decide +kernel⟩
set_option maxRecDepth 100000 in
theorem flX2_21 : Cond.fieldLink RX2 21 (TX2 0).1 (TX2 0).2.1 (TX2 0).2.2.1 ∈ tbg := in_2 82 (by decide +kernel) rfl
set_option maxRecDepth 100000 in
theorem okX2_51 : okV RX2 51 yX0_sizeOf cX0_sizeOf 2 (some .int) 1 := ⟨good_l (List.forall_mem_cons.mpr ⟨in_4 172 (by decide +kernel) rfl, List.forall_mem_cons.mpr ⟨in_2 175 (by decide +kernel) rfl, List.forall_mem_cons.mpr ⟨in_2 176 (by decide +kernel) rfl, List.forall_mem_cons.mpr ⟨in_1 4 (by decide +kernel) rfl, List.forall_mem_cons.mpr ⟨in_2 177 (by decide +kernel) rfl, List.forall_mem_nil _⟩⟩⟩⟩⟩), by decide +kernel⟩
set_option maxRecDepth 100000 in
theorem okX2_55 : okV RX2 55 yX0_callAt cX0_callAt 3 (some .int) 2 := ⟨good_l (List.forall_mem_cons.mpr ⟨in_4 173 (by decide +kernel) rfl, List.forall_mem_cons.mpr ⟨in_2 187 (by decide +kernel) rfl, List.forall_mem_cons.mpr ⟨in_2 188 (by decide +kernel) rfl, List.forall_mem_cons.mpr ⟨in_1 4 (by decide +kernel) rfl, List.forall_mem_cons.mpr ⟨in_2 189 (by decide +kernel) rfl, List.forall_mem_nil _⟩⟩⟩⟩⟩), by decide +kernel⟩
set_option maxRecDepth 100000 in
theorem okX2_25 : okN RX2 25 yX10_isCall RX10 cX10_isCall 1 (some .boolean) 1 := ⟨⟨good_l (List.forall_mem_cons.mpr ⟨in_2 196 (by decide +kernel) rfl, List.forall_mem_cons.mpr ⟨in_1 1 (by decide +kernel) rfl, List.forall_mem_cons.mpr ⟨in_2 197 (by decide +kernel) rfl, List.forall_mem_nil _⟩⟩⟩), by decide +kernel⟩, by decide +kernel⟩
set_option maxRecDepth 100000 in
theorem okX2_65 : okV RX2 65 yX2_having cX2_having 2 (some .int) 1 := ⟨good_l (List.forall_mem_cons.mpr ⟨in_4 202 (by decide +kernel) rfl, List.forall_mem_cons.mpr ⟨in_4 180 (by decide +kernel) rfl, List.forall_mem_cons.mpr ⟨in_4 181 (by decide +kernel) rfl, List.forall_mem_cons.mpr ⟨in_1 13 (by decide +kernel) rfl, List.forall_mem_cons.mpr ⟨in_4 182 (by decide +kernel) rfl, List.forall_mem_nil _⟩⟩⟩⟩⟩), by decide +kernel⟩
set_option maxRecDepth 100000 in
theorem okX2_72 : okV RX2 72 yX2_holding cX2_holding 3 (some .int) 2 := ⟨good_l (List.forall_mem_cons.mpr ⟨in_4 211 (by decide +kernel) rfl, List.forall_mem_cons.mpr ⟨in_4 184 (by decide +kernel) rfl, List.forall_mem_cons.mpr ⟨in_4 185 (by decide +kernel) rfl, List.forall_mem_cons.mpr ⟨in_1 13 (by decide +kernel) rfl, List.forall_mem_cons.mpr ⟨in_4 186 (by decide +kernel) rfl, List.forall_mem_nil _⟩⟩⟩⟩⟩), by decide +kernel⟩
set_option maxRecDepth 100000 in
theorem flX2_35 : Cond.fieldLink RX2 35 (TX0 6).1 (TX0 6).2.1 (TX0 6).2.2.1 ∈ tbg := in_1 69 (by decide +kernel) rfl
set_option maxRecDepth 100000 in
theorem okX2_41 : okV RX2 41 yX0_isRightThere cX0_isRightThere 2 (some .boolean) 1 := ⟨good_l (List.forall_mem_cons.mpr ⟨in_4 167 (by decide +kernel) rfl, List.forall_mem_cons.mpr ⟨in_2 163 (by decide +kernel) rfl, List.forall_mem_cons.mpr ⟨in_2 164 (by decide +kernel) rfl, List.forall_mem_cons.mpr ⟨in_1 4 (by decide +kernel) rfl, List.forall_mem_cons.mpr ⟨in_2 165 (by decide +kernel) rfl, List.forall_mem_nil _⟩⟩⟩⟩⟩), by decide +kernel⟩
set_option maxRecDepth 100000 in
theorem okX2_44 : okV RX2 44 yX2_findLastPlaces cX2_findLastPlaces 5 none 1 := ⟨good_l (List.forall_mem_cons.mpr ⟨in_4 168 (by decide +kernel) rfl, List.forall_mem_cons.mpr ⟨in_4 170 (by decide +kernel) rfl, List.forall_mem_cons.mpr ⟨in_s 41 (by decide +kernel) rfl, List.forall_mem_cons.mpr ⟨in_1 13 (by decide +kernel) rfl, List.forall_mem_cons.mpr ⟨in_4 171 (by decide +kernel) rfl, List.forall_mem_nil _⟩⟩⟩⟩⟩), by decide +kernel⟩
set_option maxRecDepth 100000 in
theorem okX2_48 : okV RX2 48 yX2_addRow cX2_addRow 3 none 0 := ⟨good_l (List.forall_mem_cons.mpr ⟨in_4 175 (by decide +kernel) rfl, List.forall_mem_cons.mpr ⟨in_4 177 (by decide +kernel) rfl, List.forall_mem_cons.mpr ⟨in_s 42 (by decide +kernel) rfl, List.forall_mem_cons.mpr ⟨in_1 13 (by decide +kernel) rfl, List.forall_mem_cons.mpr ⟨in_4 178 (by decide +kernel) rfl, List.forall_mem_nil _⟩⟩⟩⟩⟩), by decide +kernel⟩
set_option maxRecDepth 100000 in
theorem flX3_19 : Cond.fieldLink RX3 19 (TX3 4).1 (TX3 4).2.1 (TX3 4).2.2.1 ∈ tbg := in_2 21 (by decide +kernel) rfl
set_option maxRecDepth 100000 in
theorem flX3_9 : Cond.fieldLink RX3 9 (TX3 2).1 (TX3 2).2.1 (TX3 2).2.2.1 ∈ tbg := in_2 19 (by decide +kernel) rfl
set_option maxRecDepth 100000 in
theorem flX3_37 : Cond.fieldLink RX3 37 (TX3 0).1 (TX3 0).2.1 (TX3 0).2.2.1 ∈ tbg := in_2 17 (by decide +kernel) rfl
set_option maxRecDepth 100000 in
theorem okX3_72 : okV RX3 72 yX8_callAt cX8_callAt 2 (some .int) 1 := ⟨good_l (List.forall_mem_cons.mpr ⟨in_3 154 (by decide +kernel) rfl, List.forall_mem_cons.mpr ⟨in_3 155 (by decide +kernel) rfl, List.forall_mem_cons.mpr ⟨in_3 156 (by decide +kernel) rfl, List.forall_mem_cons.mpr ⟨in_1 10 (by decide +kernel) rfl, List.forall_mem_cons.mpr ⟨in_3 157 (by decide +kernel) rfl, List.forall_mem_nil _⟩⟩⟩⟩⟩), by decide +kernel⟩
set_option maxRecDepth 100000 in
theorem flX3_41 : Cond.fieldLink RX3 41 (TX3 1).1 (TX3 1).2.1 (TX3 1).2.2.1 ∈ tbg := in_2 18 (by decide +kernel) rfl
set_option maxRecDepth 100000 in
theorem okX3_76 : okV RX3 76 yX4_after cX4_after 3 (some .int) 2 := ⟨good_l (List.forall_mem_cons.mpr ⟨in_3 159 (by decide +kernel) rfl, List.forall_mem_cons.mpr ⟨in_3 53 (by decide +kernel) rfl, List.forall_mem_cons.mpr ⟨in_3 54 (by decide +kernel) rfl, List.forall_mem_cons.mpr ⟨in_1 7 (by decide +kernel) rfl, List.forall_mem_cons.mpr ⟨in_3 55 (by decide +kernel) rfl, List.forall_mem_nil _⟩⟩⟩⟩⟩), by decide +kernel⟩
set_option maxRecDepth 100000 in
theorem okX3_58 : okV RX3 58 yX3_meet cX3_meet 4 none 2 := ⟨good_l (List.forall_mem_cons.mpr ⟨in_3 134 (by decide +kernel) rfl, List.forall_mem_cons.mpr ⟨in_3 136 (by decide +kernel) rfl, List.forall_mem_cons.mpr ⟨in_s 23 (by decide +kernel) rfl, List.forall_mem_cons.mpr ⟨in_1 11 (by decide +kernel) rfl, List.forall_mem_cons.mpr ⟨in_3 137 (by decide +kernel) rfl, List.forall_mem_nil _⟩⟩⟩⟩⟩), by decide +kernel⟩
set_option maxRecDepth 100000 in
theorem flX3_54 : Cond.fieldLink RX3 54 (TX3 9).1 (TX3 9).2.1 (TX3 9).2.2.1 ∈ tbg := in_2 27 (by decide +kernel) rfl
set_option maxRecDepth 100000 in
theorem flX3_51 : Cond.fieldLink RX3 51 (TX3 8).1 (TX3 8).2.1 (TX3 8).2.2.1 ∈ tbg := in_2 26 (by decide +kernel) rfl
set_option maxRecDepth 100000 in
theorem okX3_82 : okV RX3 82 yX3_spread cX3_spread 3 none 2 := ⟨good_l (List.forall_mem_cons.mpr ⟨in_3 142 (by decide +kernel) rfl, List.forall_mem_cons.mpr ⟨in_3 144 (by decide +kernel) rfl, List.forall_mem_cons.mpr ⟨in_s 25 (by decide +kernel) rfl, List.forall_mem_cons.mpr ⟨in_1 11 (by decide +kernel) rfl, List.forall_mem_cons.mpr ⟨in_3 145 (by decide +kernel) rfl, List.forall_mem_nil _⟩⟩⟩⟩⟩), by decide +kernel⟩
set_option maxRecDepth 100000 in
theorem flX3_22 : Cond.fieldLink RX3 22 (TX3 5).1 (TX3 5).2.1 (TX3 5).2.2.1 ∈ tbg := in_2 22 (by decide +kernel) rfl
set_option maxRecDepth 100000 in
theorem flX3_25 : Cond.fieldLink RX3 25 (TX3 6).1 (TX3 6).2.1 (TX3 6).2.2.1 ∈ tbg := in_2 23 (by decide +kernel) rfl
set_option maxRecDepth 100000 in
theorem flX3_90 : Cond.fieldLink RX3 90 (TX8 2).1 (TX8 2).2.1 (TX8 2).2.2.1 ∈ tbg := in_1 223 (by decide +kernel) rfl
set_option maxRecDepth 100000 in
theorem flX3_99 : Cond.fieldLink RX3 99 (TX8 1).1 (TX8 1).2.1 (TX8 1).2.2.1 ∈ tbg := in_1 221 (by decide +kernel) rfl
set_option maxRecDepth 100000 in
theorem flX3_96 : Cond.fieldLink RX3 96 (TX8 4).1 (TX8 4).2.1 (TX8 4).2.2.1 ∈ tbg := in_1 227 (by decide +kernel) rfl
set_option maxRecDepth 100000 in
theorem flX3_93 : Cond.fieldLink RX3 93 (TX8 3).1 (TX8 3).2.1 (TX8 3).2.2.1 ∈ tbg := in_1 225 (by decide +kernel) rfl
set_option maxRecDepth 100000 in
theorem flX3_45 : Cond.fieldLink RX3 45 (TX8 7).1 (TX8 7).2.1 (TX8 7).2.2.1 ∈ tbg := in_1 230 (by decide +kernel) rfl
set_option maxRecDepth 100000 in
theorem flX3_15 : Cond.fieldLink RX3 15 (TX3 3).1 (TX3 3).2.1 (TX3 3).2.2.1 ∈ tbg := in_2 20 (by decide +kernel) rfl
set_option maxRecDepth 100000 in
theorem flX3_33 : Cond.fieldLink RX3 33 (TX3 7).1 (TX3 7).2.1 (TX3 7).2.2.1 ∈ tbg := in_2 24 (by decide +kernel) rfl
set_option maxRecDepth 100000 in
theorem flX3_57 : Cond.fieldLink RX3 57 (TX5 1).1 (TX5 1).2.1 (TX5 1).2.2.1 ∈ tbg := in_1 42 (by decide +kernel) rfl
set_option maxRecDepth 100000 in
theorem okX3_62 : okV RX3 62 yX3_closeGroup cX3_closeGroup 5 none 2 := ⟨good_l (List.forall_mem_cons.mpr ⟨in_3 138 (by decide +kernel) rfl, List.forall_mem_cons.mpr ⟨in_3 140 (by decide +kernel) rfl, List.forall_mem_cons.mpr ⟨in_s 24 (by decide +kernel) rfl, List.forall_mem_cons.mpr ⟨in_1 11 (by decide +kernel) rfl, List.forall_mem_cons.mpr ⟨in_3 141 (by decide +kernel) rfl, List.forall_mem_nil _⟩⟩⟩⟩⟩), by decide +kernel⟩
set_option maxRecDepth 100000 in
theorem okX3_65 : okV RX3 65 yX3_breaks cX3_breaks 8 (some .boolean) 2 := ⟨good_l (List.forall_mem_cons.mpr ⟨in_3 150 (by decide +kernel) rfl, List.forall_mem_cons.mpr ⟨in_3 152 (by decide +kernel) rfl, List.forall_mem_cons.mpr ⟨in_s 27 (by decide +kernel) rfl, List.forall_mem_cons.mpr ⟨in_1 11 (by decide +kernel) rfl, List.forall_mem_cons.mpr ⟨in_3 153 (by decide +kernel) rfl, List.forall_mem_nil _⟩⟩⟩⟩⟩), by decide +kernel⟩
set_option maxRecDepth 100000 in
theorem okX3_69 : okV RX3 69 yX3_writeBreak cX3_writeBreak 5 none 2 := ⟨good_l (List.forall_mem_cons.mpr ⟨in_3 160 (by decide +kernel) rfl, List.forall_mem_cons.mpr ⟨in_3 162 (by decide +kernel) rfl, List.forall_mem_cons.mpr ⟨in_s 28 (by decide +kernel) rfl, List.forall_mem_cons.mpr ⟨in_1 11 (by decide +kernel) rfl, List.forall_mem_cons.mpr ⟨in_3 163 (by decide +kernel) rfl, List.forall_mem_nil _⟩⟩⟩⟩⟩), by decide +kernel⟩
set_option maxRecDepth 100000 in
theorem flX3_85 : Cond.fieldLink RX3 85 (TX8 0).1 (TX8 0).2.1 (TX8 0).2.2.1 ∈ tbg := in_1 219 (by decide +kernel) rfl
set_option maxRecDepth 100000 in
theorem okX3_87 : okV RX3 87 yX3_enterBracket cX3_enterBracket 6 none 2 := ⟨good_l (List.forall_mem_cons.mpr ⟨in_3 146 (by decide +kernel) rfl, List.forall_mem_cons.mpr ⟨in_3 148 (by decide +kernel) rfl, List.forall_mem_cons.mpr ⟨in_s 26 (by decide +kernel) rfl, List.forall_mem_cons.mpr ⟨in_1 11 (by decide +kernel) rfl, List.forall_mem_cons.mpr ⟨in_3 149 (by decide +kernel) rfl, List.forall_mem_nil _⟩⟩⟩⟩⟩), by decide +kernel⟩
set_option maxRecDepth 100000 in
theorem okX3_102 : okV RX3 102 yX5_append cX5_append 2 (some .boolean) 1 := ⟨good_l (List.forall_mem_cons.mpr ⟨in_3 164 (by decide +kernel) rfl, List.forall_mem_cons.mpr ⟨in_3 123 (by decide +kernel) rfl, List.forall_mem_cons.mpr ⟨in_3 124 (by decide +kernel) rfl, List.forall_mem_cons.mpr ⟨in_1 2 (by decide +kernel) rfl, List.forall_mem_cons.mpr ⟨in_3 125 (by decide +kernel) rfl, List.forall_mem_nil _⟩⟩⟩⟩⟩), by decide +kernel⟩
set_option maxRecDepth 100000 in
theorem okX3_106 : okV RX3 106 yX5_turnRound cX5_turnRound 4 none 0 := ⟨good_l (List.forall_mem_cons.mpr ⟨in_3 165 (by decide +kernel) rfl, List.forall_mem_cons.mpr ⟨in_3 166 (by decide +kernel) rfl, List.forall_mem_cons.mpr ⟨in_3 167 (by decide +kernel) rfl, List.forall_mem_cons.mpr ⟨in_1 2 (by decide +kernel) rfl, List.forall_mem_cons.mpr ⟨in_3 168 (by decide +kernel) rfl, List.forall_mem_nil _⟩⟩⟩⟩⟩), by decide +kernel⟩
set_option maxRecDepth 100000 in
theorem okX4_28 : okV RX4 28 yX4_hasState cX4_hasState 2 (some .boolean) 1 := ⟨good_l (List.forall_mem_cons.mpr ⟨in_3 38 (by decide +kernel) rfl, List.forall_mem_cons.mpr ⟨in_3 39 (by decide +kernel) rfl, List.forall_mem_cons.mpr ⟨in_3 40 (by decide +kernel) rfl, List.forall_mem_cons.mpr ⟨in_1 7 (by decide +kernel) rfl, List.forall_mem_cons.mpr ⟨in_3 41 (by decide +kernel) rfl, List.forall_mem_nil _⟩⟩⟩⟩⟩), by decide +kernel⟩
set_option maxRecDepth 100000 in
theorem okX4_32 : okN RX4 32 yX10_isCall RX10 cX10_isCall 1 (some .boolean) 1 := ⟨⟨good_l (List.forall_mem_cons.mpr ⟨in_2 196 (by decide +kernel) rfl, List.forall_mem_cons.mpr ⟨in_1 1 (by decide +kernel) rfl, List.forall_mem_cons.mpr ⟨in_2 197 (by decide +kernel) rfl, List.forall_mem_nil _⟩⟩⟩), by decide +kernel⟩, by decide +kernel⟩
set_option maxRecDepth 100000 in
theorem flX4_9 : Cond.fieldLink RX4 9 (TX4 0).1 (TX4 0).2.1 (TX4 0).2.2.1 ∈ tbg := in_1 178 (by decide +kernel) rfl
set_option maxRecDepth 100000 in
theorem okX4_18 : okS RX4 18 yJ7_fill_53178 cJ7_fill_53178 4 none 2 := ⟨good_l (List.forall_mem_cons.mpr ⟨in_1 175 (by decide +kernel) rfl, List.forall_mem_cons.mpr ⟨in_1 176 (by decide +kernel) rfl, List.forall_mem_cons.mpr ⟨in_1 8 (by decide +kernel) rfl, List.forall_mem_cons.mpr ⟨in_1 177 (by decide +kernel) rfl, List.forall_mem_nil _⟩⟩⟩⟩), by decide +kernel⟩
set_option maxRecDepth 100000 in
theorem flX4_15 : Cond.fieldLink RX4 15 (TX4 1).1 (TX4 1).2.1 (TX4 1).2.2.1 ∈ tbg := in_1 179 (by decide +kernel) rfl
set_option maxRecDepth 100000 in
theorem flX4_24 : Cond.fieldLink RX4 24 (TX4 2).1 (TX4 2).2.1 (TX4 2).2.2.1 ∈ tbg := in_1 180 (by decide +kernel) rfl
set_option maxRecDepth 100000 in
theorem flX4_35 : Cond.fieldLink RX4 35 (TX0 6).1 (TX0 6).2.1 (TX0 6).2.2.1 ∈ tbg := in_1 71 (by decide +kernel) rfl
set_option maxRecDepth 100000 in
theorem flX4_40 : Cond.fieldLink RX4 40 (TX9 4).1 (TX9 4).2.1 (TX9 4).2.2.1 ∈ tbg := in_1 102 (by decide +kernel) rfl
set_option maxRecDepth 100000 in
theorem okX4_45 : okV RX4 45 yX4_countRow cX4_countRow 8 none 3 := ⟨good_l (List.forall_mem_cons.mpr ⟨in_3 47 (by decide +kernel) rfl, List.forall_mem_cons.mpr ⟨in_3 49 (by decide +kernel) rfl, List.forall_mem_cons.mpr ⟨in_s 14 (by decide +kernel) rfl, List.forall_mem_cons.mpr ⟨in_1 7 (by decide +kernel) rfl, List.forall_mem_cons.mpr ⟨in_3 50 (by decide +kernel) rfl, List.forall_mem_nil _⟩⟩⟩⟩⟩), by decide +kernel⟩
set_option maxRecDepth 100000 in
theorem okX4_49 : okV RX4 49 yX0_callAt cX0_callAt 3 (some .int) 2 := ⟨good_l (List.forall_mem_cons.mpr ⟨in_3 51 (by decide +kernel) rfl, List.forall_mem_cons.mpr ⟨in_2 187 (by decide +kernel) rfl, List.forall_mem_cons.mpr ⟨in_2 188 (by decide +kernel) rfl, List.forall_mem_cons.mpr ⟨in_1 4 (by decide +kernel) rfl, List.forall_mem_cons.mpr ⟨in_2 189 (by decide +kernel) rfl, List.forall_mem_nil _⟩⟩⟩⟩⟩), by decide +kernel⟩
set_option maxRecDepth 100000 in
theorem okX4_53 : okV RX4 53 yX4_after cX4_after 3 (some .int) 2 := ⟨good_l (List.forall_mem_cons.mpr ⟨in_3 52 (by decide +kernel) rfl, List.forall_mem_cons.mpr ⟨in_3 53 (by decide +kernel) rfl, List.forall_mem_cons.mpr ⟨in_3 54 (by decide +kernel) rfl, List.forall_mem_cons.mpr ⟨in_1 7 (by decide +kernel) rfl, List.forall_mem_cons.mpr ⟨in_3 55 (by decide +kernel) rfl, List.forall_mem_nil _⟩⟩⟩⟩⟩), by decide +kernel⟩
set_option maxRecDepth 100000 in
theorem flX5_21 : Cond.fieldLink RX5 21 (TX5 1).1 (TX5 1).2.1 (TX5 1).2.2.1 ∈ tbg := in_1 39 (by decide +kernel) rfl
set_option maxRecDepth 100000 in
theorem flX5_15 : Cond.fieldLink RX5 15 (TX5 0).1 (TX5 0).2.1 (TX5 0).2.2.1 ∈ tbg := in_1 37 (by decide +kernel) rfl
set_option maxRecDepth 100000 in
theorem okX5_9 : okS RX5 9 yJ9_max_7cf53 cJ9_max_7cf53 2 (some .int) 2 := ⟨good_l (List.forall_mem_cons.mpr ⟨in_1 34 (by decide +kernel) rfl, List.forall_mem_cons.mpr ⟨in_1 35 (by decide +kernel) rfl, List.forall_mem_cons.mpr ⟨in_1 3 (by decide +kernel) rfl, List.forall_mem_cons.mpr ⟨in_1 36 (by decide +kernel) rfl, List.forall_mem_nil _⟩⟩⟩⟩), by decide +kernel⟩
set_option maxRecDepth 100000 in
theorem flX6_97 : Cond.fieldLink RX6 97 (TX6 10).1 (TX6 10).2.1 (TX6 10).2.2.1 ∈ tbg := in_1 139 (by decide +kernel) rfl
set_option maxRecDepth 100000 in
theorem flX6_21 : Cond.fieldLink RX6 21 (TX6 5).1 (TX6 5).2.1 (TX6 5).2.2.1 ∈ tbg := in_1 134 (by decide +kernel) rfl
set_option maxRecDepth 100000 in
theorem flX6_24 : Cond.fieldLink RX6 24 (TX6 6).1 (TX6 6).2.1 (TX6 6).2.2.1 ∈ tbg := in_1 135 (by decide +kernel) rfl
set_option maxRecDepth 100000 in
theorem flX6_9 : Cond.fieldLink RX6 9 (TX6 2).1 (TX6 2).2.1 (TX6 2).2.2.1 ∈ tbg := in_1 131 (by decide +kernel) rfl
set_option maxRecDepth 100000 in
theorem flX6_15 : Cond.fieldLink RX6 15 (TX6 3).1 (TX6 3).2.1 (TX6 3).2.2.1 ∈ tbg := in_1 132 (by decide +kernel) rfl
set_option maxRecDepth 100000 in
theorem flX6_18 : Cond.fieldLink RX6 18 (TX6 4).1 (TX6 4).2.1 (TX6 4).2.2.1 ∈ tbg := in_1 133 (by decide +kernel) rfl
set_option maxRecDepth 100000 in
theorem flX6_27 : Cond.fieldLink RX6 27 (TX6 7).1 (TX6 7).2.1 (TX6 7).2.2.1 ∈ tbg := in_1 136 (by decide +kernel) rfl
set_option maxRecDepth 100000 in
theorem flX6_30 : Cond.fieldLink RX6 30 (TX6 8).1 (TX6 8).2.1 (TX6 8).2.2.1 ∈ tbg := in_1 137 (by decide +kernel) rfl
set_option maxRecDepth 100000 in
theorem flX6_33 : Cond.fieldLink RX6 33 (TX6 0).1 (TX6 0).2.1 (TX6 0).2.2.1 ∈ tbg := in_1 129 (by decide +kernel) rfl
set_option maxRecDepth 100000 in
theorem flX6_37 : Cond.fieldLink RX6 37 (TX6 1).1 (TX6 1).2.1 (TX6 1).2.2.1 ∈ tbg := in_1 130 (by decide +kernel) rfl
set_option maxRecDepth 100000 in
theorem flX6_91 : Cond.fieldLink RX6 91 (TX6 11).1 (TX6 11).2.1 (TX6 11).2.2.1 ∈ tbg := in_1 140 (by decide +kernel) rfl
set_option maxRecDepth 100000 in
theorem flX6_114 : Cond.fieldLink RX6 114 (TX9 1).1 (TX9 1).2.1 (TX9 1).2.2.1 ∈ tbg := in_1 96 (by decide +kernel) rfl
set_option maxRecDepth 100000 in
theorem okX6_100 : okV RX6 100 yX6_addPair cX6_addPair 3 none 2 := ⟨good_l (List.forall_mem_cons.mpr ⟨in_2 231 (by decide +kernel) rfl, List.forall_mem_cons.mpr ⟨in_2 233 (by decide +kernel) rfl, List.forall_mem_cons.mpr ⟨in_s 7 (by decide +kernel) rfl, List.forall_mem_cons.mpr ⟨in_1 6 (by decide +kernel) rfl, List.forall_mem_cons.mpr ⟨in_2 234 (by decide +kernel) rfl, List.forall_mem_nil _⟩⟩⟩⟩⟩), by decide +kernel⟩
set_option maxRecDepth 100000 in
theorem flX6_94 : Cond.fieldLink RX6 94 (TX6 12).1 (TX6 12).2.1 (TX6 12).2.2.1 ∈ tbg := in_1 141 (by decide +kernel) rfl
set_option maxRecDepth 100000 in
theorem okX6_69 : okV RX6 69 yX6_standing cX6_standing 4 (some .int) 1 := ⟨good_l (List.forall_mem_cons.mpr ⟨in_2 235 (by decide +kernel) rfl, List.forall_mem_cons.mpr ⟨in_2 237 (by decide +kernel) rfl, List.forall_mem_cons.mpr ⟨in_s 8 (by decide +kernel) rfl, List.forall_mem_cons.mpr ⟨in_1 6 (by decide +kernel) rfl, List.forall_mem_cons.mpr ⟨in_2 238 (by decide +kernel) rfl, List.forall_mem_nil _⟩⟩⟩⟩⟩), by decide +kernel⟩
set_option maxRecDepth 100000 in
theorem okX6_103 : okS RX6 103 yJ9_min_7cf53 cJ9_min_7cf53 2 (some .int) 2 := ⟨good_l (List.forall_mem_cons.mpr ⟨in_2 239 (by decide +kernel) rfl, List.forall_mem_cons.mpr ⟨in_3 0 (by decide +kernel) rfl, List.forall_mem_cons.mpr ⟨in_1 3 (by decide +kernel) rfl, List.forall_mem_cons.mpr ⟨in_3 1 (by decide +kernel) rfl, List.forall_mem_nil _⟩⟩⟩⟩), by decide +kernel⟩
set_option maxRecDepth 100000 in
theorem okX6_108 : okS RX6 108 yJ9_max_7cf53 cJ9_max_7cf53 2 (some .int) 2 := ⟨good_l (List.forall_mem_cons.mpr ⟨in_3 2 (by decide +kernel) rfl, List.forall_mem_cons.mpr ⟨in_1 35 (by decide +kernel) rfl, List.forall_mem_cons.mpr ⟨in_1 3 (by decide +kernel) rfl, List.forall_mem_cons.mpr ⟨in_1 36 (by decide +kernel) rfl, List.forall_mem_nil _⟩⟩⟩⟩), by decide +kernel⟩
set_option maxRecDepth 100000 in
theorem okX6_111 : okV RX6 111 yX6_join cX6_join 6 none 2 := ⟨good_l (List.forall_mem_cons.mpr ⟨in_3 3 (by decide +kernel) rfl, List.forall_mem_cons.mpr ⟨in_3 5 (by decide +kernel) rfl, List.forall_mem_cons.mpr ⟨in_s 9 (by decide +kernel) rfl, List.forall_mem_cons.mpr ⟨in_1 6 (by decide +kernel) rfl, List.forall_mem_cons.mpr ⟨in_3 6 (by decide +kernel) rfl, List.forall_mem_nil _⟩⟩⟩⟩⟩), by decide +kernel⟩
set_option maxRecDepth 100000 in
theorem okX6_41 : okV RX6 41 yX0_gatherBinding cX0_gatherBinding 2 none 0 := ⟨good_l (List.forall_mem_cons.mpr ⟨in_2 214 (by decide +kernel) rfl, List.forall_mem_cons.mpr ⟨in_2 215 (by decide +kernel) rfl, List.forall_mem_cons.mpr ⟨in_2 216 (by decide +kernel) rfl, List.forall_mem_cons.mpr ⟨in_1 4 (by decide +kernel) rfl, List.forall_mem_cons.mpr ⟨in_2 217 (by decide +kernel) rfl, List.forall_mem_nil _⟩⟩⟩⟩⟩), by decide +kernel⟩
set_option maxRecDepth 100000 in
theorem flX6_46 : Cond.fieldLink RX6 46 (TX9 6).1 (TX9 6).2.1 (TX9 6).2.2.1 ∈ tbg := in_1 104 (by decide +kernel) rfl
set_option maxRecDepth 100000 in
theorem flX6_52 : Cond.fieldLink RX6 52 (TX6 9).1 (TX6 9).2.1 (TX6 9).2.2.1 ∈ tbg := in_1 138 (by decide +kernel) rfl
set_option maxRecDepth 100000 in
theorem okX6_55 : okV RX6 55 yX6_meltsWithKept cX6_meltsWithKept 3 (some .boolean) 1 := ⟨good_l (List.forall_mem_cons.mpr ⟨in_2 223 (by decide +kernel) rfl, List.forall_mem_cons.mpr ⟨in_2 225 (by decide +kernel) rfl, List.forall_mem_cons.mpr ⟨in_s 5 (by decide +kernel) rfl, List.forall_mem_cons.mpr ⟨in_1 6 (by decide +kernel) rfl, List.forall_mem_cons.mpr ⟨in_2 226 (by decide +kernel) rfl, List.forall_mem_nil _⟩⟩⟩⟩⟩), by decide +kernel⟩
set_option maxRecDepth 100000 in
theorem okX6_77 : okV RX6 77 yX6_melt cX6_melt 6 none 2 := ⟨good_l (List.forall_mem_cons.mpr ⟨in_2 227 (by decide +kernel) rfl, List.forall_mem_cons.mpr ⟨in_2 229 (by decide +kernel) rfl, List.forall_mem_cons.mpr ⟨in_s 6 (by decide +kernel) rfl, List.forall_mem_cons.mpr ⟨in_1 6 (by decide +kernel) rfl, List.forall_mem_cons.mpr ⟨in_2 230 (by decide +kernel) rfl, List.forall_mem_nil _⟩⟩⟩⟩⟩), by decide +kernel⟩
set_option maxRecDepth 100000 in
theorem okX6_81 : okV RX6 81 yX6_takesBindingRow cX6_takesBindingRow 2 (some .boolean) 0 := ⟨good_l (List.forall_mem_cons.mpr ⟨in_3 7 (by decide +kernel) rfl, List.forall_mem_cons.mpr ⟨in_3 9 (by decide +kernel) rfl, List.forall_mem_cons.mpr ⟨in_s 10 (by decide +kernel) rfl, List.forall_mem_cons.mpr ⟨in_1 6 (by decide +kernel) rfl, List.forall_mem_cons.mpr ⟨in_3 10 (by decide +kernel) rfl, List.forall_mem_nil _⟩⟩⟩⟩⟩), by decide +kernel⟩
set_option maxRecDepth 100000 in
theorem okX6_85 : okV RX6 85 yX6_shortenWays cX6_shortenWays 2 none 0 := ⟨good_l (List.forall_mem_cons.mpr ⟨in_3 18 (by decide +kernel) rfl, List.forall_mem_cons.mpr ⟨in_3 20 (by decide +kernel) rfl, List.forall_mem_cons.mpr ⟨in_s 12 (by decide +kernel) rfl, List.forall_mem_cons.mpr ⟨in_1 6 (by decide +kernel) rfl, List.forall_mem_cons.mpr ⟨in_3 21 (by decide +kernel) rfl, List.forall_mem_nil _⟩⟩⟩⟩⟩), by decide +kernel⟩
set_option maxRecDepth 100000 in
theorem okX6_88 : okV RX6 88 yX6_takeBack cX6_takeBack 3 none 0 := ⟨good_l (List.forall_mem_cons.mpr ⟨in_3 22 (by decide +kernel) rfl, List.forall_mem_cons.mpr ⟨in_3 24 (by decide +kernel) rfl, List.forall_mem_cons.mpr ⟨in_s 13 (by decide +kernel) rfl, List.forall_mem_cons.mpr ⟨in_1 6 (by decide +kernel) rfl, List.forall_mem_cons.mpr ⟨in_3 25 (by decide +kernel) rfl, List.forall_mem_nil _⟩⟩⟩⟩⟩), by decide +kernel⟩
set_option maxRecDepth 100000 in
theorem flX6_117 : Cond.fieldLink RX6 117 (TX0 5).1 (TX0 5).2.1 (TX0 5).2.2.1 ∈ tbg := in_1 66 (by decide +kernel) rfl
set_option maxRecDepth 100000 in
theorem flX6_120 : Cond.fieldLink RX6 120 (TX0 4).1 (TX0 4).2.1 (TX0 4).2.2.1 ∈ tbg := in_1 64 (by decide +kernel) rfl
set_option maxRecDepth 100000 in
theorem okX6_123 : okV RX6 123 yX6_takesRow cX6_takesRow 5 (some .boolean) 1 := ⟨good_l (List.forall_mem_cons.mpr ⟨in_3 11 (by decide +kernel) rfl, List.forall_mem_cons.mpr ⟨in_3 13 (by decide +kernel) rfl, List.forall_mem_cons.mpr ⟨in_s 11 (by decide +kernel) rfl, List.forall_mem_cons.mpr ⟨in_1 6 (by decide +kernel) rfl, List.forall_mem_cons.mpr ⟨in_3 14 (by decide +kernel) rfl, List.forall_mem_nil _⟩⟩⟩⟩⟩), by decide +kernel⟩
set_option maxRecDepth 100000 in
theorem okX6_126 : okV RX6 126 yX0_sizeOf cX0_sizeOf 2 (some .int) 1 := ⟨good_l (List.forall_mem_cons.mpr ⟨in_3 15 (by decide +kernel) rfl, List.forall_mem_cons.mpr ⟨in_2 175 (by decide +kernel) rfl, List.forall_mem_cons.mpr ⟨in_2 176 (by decide +kernel) rfl, List.forall_mem_cons.mpr ⟨in_1 4 (by decide +kernel) rfl, List.forall_mem_cons.mpr ⟨in_2 177 (by decide +kernel) rfl, List.forall_mem_nil _⟩⟩⟩⟩⟩), by decide +kernel⟩
set_option maxRecDepth 100000 in
theorem okX6_129 : okV RX6 129 yX0_callAt cX0_callAt 3 (some .int) 2 := ⟨good_l (List.forall_mem_cons.mpr ⟨in_3 16 (by decide +kernel) rfl, List.forall_mem_cons.mpr ⟨in_2 187 (by decide +kernel) rfl, List.forall_mem_cons.mpr ⟨in_2 188 (by decide +kernel) rfl, List.forall_mem_cons.mpr ⟨in_1 4 (by decide +kernel) rfl, List.forall_mem_cons.mpr ⟨in_2 189 (by decide +kernel) rfl, List.forall_mem_nil _⟩⟩⟩⟩⟩), by decide +kernel⟩
set_option maxRecDepth 100000 in
theorem okX6_65 : okV RX6 65 yX9_childOf cX9_childOf 3 (some .int) 2 := ⟨good_l (List.forall_mem_cons.mpr ⟨in_3 17 (by decide +kernel) rfl, List.forall_mem_cons.mpr ⟨in_2 207 (by decide +kernel) rfl, List.forall_mem_cons.mpr ⟨in_2 208 (by decide +kernel) rfl, List.forall_mem_cons.mpr ⟨in_1 5 (by decide +kernel) rfl, List.forall_mem_cons.mpr ⟨in_2 209 (by decide +kernel) rfl, List.forall_mem_nil _⟩⟩⟩⟩⟩), by decide +kernel⟩
set_option maxRecDepth 100000 in
theorem okX6_59 : okV RX6 59 yX4_clear cX4_clear 2 none 1 := ⟨good_l (List.forall_mem_cons.mpr ⟨in_3 30 (by decide +kernel) rfl, List.forall_mem_cons.mpr ⟨in_3 31 (by decide +kernel) rfl, List.forall_mem_cons.mpr ⟨in_3 32 (by decide +kernel) rfl, List.forall_mem_cons.mpr ⟨in_1 7 (by decide +kernel) rfl, List.forall_mem_cons.mpr ⟨in_3 33 (by decide +kernel) rfl, List.forall_mem_nil _⟩⟩⟩⟩⟩), by decide +kernel⟩
set_option maxRecDepth 100000 in
theorem okX6_73 : okV RX6 73 yX4_setStep cX4_setStep 4 none 3 := ⟨good_l (List.forall_mem_cons.mpr ⟨in_3 34 (by decide +kernel) rfl, List.forall_mem_cons.mpr ⟨in_3 35 (by decide +kernel) rfl, List.forall_mem_cons.mpr ⟨in_3 36 (by decide +kernel) rfl, List.forall_mem_cons.mpr ⟨in_1 7 (by decide +kernel) rfl, List.forall_mem_cons.mpr ⟨in_3 37 (by decide +kernel) rfl, List.forall_mem_nil _⟩⟩⟩⟩⟩), by decide +kernel⟩
set_option maxRecDepth 100000 in
theorem flX7_9 : Cond.fieldLink RX7 9 (TX7 2).1 (TX7 2).2.1 (TX7 2).2.2.1 ∈ tbg := in_2 59 (by decide +kernel) rfl
set_option maxRecDepth 100000 in
theorem flX7_27 : Cond.fieldLink RX7 27 (TX7 1).1 (TX7 1).2.1 (TX7 1).2.2.1 ∈ tbg := in_2 58 (by decide +kernel) rfl
set_option maxRecDepth 100000 in
theorem flX7_24 : Cond.fieldLink RX7 24 (TX7 0).1 (TX7 0).2.1 (TX7 0).2.2.1 ∈ tbg := in_2 57 (by decide +kernel) rfl
set_option maxRecDepth 100000 in
theorem okX7_45 : okV RX7 45 yX5_at cX5_at 2 (some .int) 1 := ⟨good_l (List.forall_mem_cons.mpr ⟨in_3 194 (by decide +kernel) rfl, List.forall_mem_cons.mpr ⟨in_2 138 (by decide +kernel) rfl, List.forall_mem_cons.mpr ⟨in_2 139 (by decide +kernel) rfl, List.forall_mem_cons.mpr ⟨in_1 2 (by decide +kernel) rfl, List.forall_mem_cons.mpr ⟨in_2 140 (by decide +kernel) rfl, List.forall_mem_nil _⟩⟩⟩⟩⟩), by decide +kernel⟩
set_option maxRecDepth 100000 in
theorem okX7_75 : okV RX7 75 yX4_after cX4_after 3 (some .int) 2 := ⟨good_l (List.forall_mem_cons.mpr ⟨in_3 195 (by decide +kernel) rfl, List.forall_mem_cons.mpr ⟨in_3 53 (by decide +kernel) rfl, List.forall_mem_cons.mpr ⟨in_3 54 (by decide +kernel) rfl, List.forall_mem_cons.mpr ⟨in_1 7 (by decide +kernel) rfl, List.forall_mem_cons.mpr ⟨in_3 55 (by decide +kernel) rfl, List.forall_mem_nil _⟩⟩⟩⟩⟩), by decide +kernel⟩
set_option maxRecDepth 100000 in
theorem okX7_41 : okV RX7 41 yX7_costFrom cX7_costFrom 3 (some .int) 2 := ⟨good_l (List.forall_mem_cons.mpr ⟨in_3 186 (by decide +kernel) rfl, List.forall_mem_cons.mpr ⟨in_3 188 (by decide +kernel) rfl, List.forall_mem_cons.mpr ⟨in_s 30 (by decide +kernel) rfl, List.forall_mem_cons.mpr ⟨in_1 12 (by decide +kernel) rfl, List.forall_mem_cons.mpr ⟨in_3 189 (by decide +kernel) rfl, List.forall_mem_nil _⟩⟩⟩⟩⟩), by decide +kernel⟩
set_option maxRecDepth 100000 in
theorem flX7_82 : Cond.fieldLink RX7 82 (TX7 4).1 (TX7 4).2.1 (TX7 4).2.2.1 ∈ tbg := in_2 61 (by decide +kernel) rfl
set_option maxRecDepth 100000 in
theorem flX7_85 : Cond.fieldLink RX7 85 (TX7 5).1 (TX7 5).2.1 (TX7 5).2.2.1 ∈ tbg := in_2 62 (by decide +kernel) rfl
set_option maxRecDepth 100000 in
theorem flX7_20 : Cond.fieldLink RX7 20 (TX7 3).1 (TX7 3).2.1 (TX7 3).2.2.1 ∈ tbg := in_2 60 (by decide +kernel) rfl
set_option maxRecDepth 100000 in
theorem flX7_37 : Cond.fieldLink RX7 37 (TX5 1).1 (TX5 1).2.1 (TX5 1).2.2.1 ∈ tbg := in_1 40 (by decide +kernel) rfl
set_option maxRecDepth 100000 in
theorem okX7_88 : okV RX7 88 yX7_goOneOn cX7_goOneOn 3 none 1 := ⟨good_l (List.forall_mem_cons.mpr ⟨in_3 209 (by decide +kernel) rfl, List.forall_mem_cons.mpr ⟨in_3 211 (by decide +kernel) rfl, List.forall_mem_cons.mpr ⟨in_s 35 (by decide +kernel) rfl, List.forall_mem_cons.mpr ⟨in_1 12 (by decide +kernel) rfl, List.forall_mem_cons.mpr ⟨in_3 212 (by decide +kernel) rfl, List.forall_mem_nil _⟩⟩⟩⟩⟩), by decide +kernel⟩
set_option maxRecDepth 100000 in
theorem okX7_64 : okV RX7 64 yX7_costKeeping cX7_costKeeping 4 (some .int) 2 := ⟨good_l (List.forall_mem_cons.mpr ⟨in_3 190 (by decide +kernel) rfl, List.forall_mem_cons.mpr ⟨in_3 192 (by decide +kernel) rfl, List.forall_mem_cons.mpr ⟨in_s 31 (by decide +kernel) rfl, List.forall_mem_cons.mpr ⟨in_1 12 (by decide +kernel) rfl, List.forall_mem_cons.mpr ⟨in_3 193 (by decide +kernel) rfl, List.forall_mem_nil _⟩⟩⟩⟩⟩), by decide +kernel⟩
set_option maxRecDepth 100000 in
theorem okX7_91 : okV RX7 91 yX7_make cX7_make 2 none 1 := ⟨good_l (List.forall_mem_cons.mpr ⟨in_3 213 (by decide +kernel) rfl, List.forall_mem_cons.mpr ⟨in_3 215 (by decide +kernel) rfl, List.forall_mem_cons.mpr ⟨in_s 36 (by decide +kernel) rfl, List.forall_mem_cons.mpr ⟨in_1 12 (by decide +kernel) rfl, List.forall_mem_cons.mpr ⟨in_3 216 (by decide +kernel) rfl, List.forall_mem_nil _⟩⟩⟩⟩⟩), by decide +kernel⟩
set_option maxRecDepth 100000 in
theorem okX7_78 : okV RX7 78 yX7_costPutting cX7_costPutting 5 (some .int) 3 := ⟨good_l (List.forall_mem_cons.mpr ⟨in_3 201 (by decide +kernel) rfl, List.forall_mem_cons.mpr ⟨in_3 203 (by decide +kernel) rfl, List.forall_mem_cons.mpr ⟨in_s 33 (by decide +kernel) rfl, List.forall_mem_cons.mpr ⟨in_1 12 (by decide +kernel) rfl, List.forall_mem_cons.mpr ⟨in_3 204 (by decide +kernel) rfl, List.forall_mem_nil _⟩⟩⟩⟩⟩), by decide +kernel⟩
set_option maxRecDepth 100000 in
theorem flX7_59 : Cond.fieldLink RX7 59 (TX4 2).1 (TX4 2).2.1 (TX4 2).2.2.1 ∈ tbg := in_1 181 (by decide +kernel) rfl
set_option maxRecDepth 100000 in
theorem okX7_49 : okV RX7 49 yX5_append cX5_append 2 (some .boolean) 1 := ⟨good_l (List.forall_mem_cons.mpr ⟨in_3 217 (by decide +kernel) rfl, List.forall_mem_cons.mpr ⟨in_3 123 (by decide +kernel) rfl, List.forall_mem_cons.mpr ⟨in_3 124 (by decide +kernel) rfl, List.forall_mem_cons.mpr ⟨in_1 2 (by decide +kernel) rfl, List.forall_mem_cons.mpr ⟨in_3 125 (by decide +kernel) rfl, List.forall_mem_nil _⟩⟩⟩⟩⟩), by decide +kernel⟩
set_option maxRecDepth 100000 in
theorem okX7_31 : okV RX7 31 yX7_reckonCosts cX7_reckonCosts 5 none 0 := ⟨good_l (List.forall_mem_cons.mpr ⟨in_3 181 (by decide +kernel) rfl, List.forall_mem_cons.mpr ⟨in_3 183 (by decide +kernel) rfl, List.forall_mem_cons.mpr ⟨in_s 29 (by decide +kernel) rfl, List.forall_mem_cons.mpr ⟨in_1 12 (by decide +kernel) rfl, List.forall_mem_cons.mpr ⟨in_3 184 (by decide +kernel) rfl, List.forall_mem_nil _⟩⟩⟩⟩⟩), by decide +kernel⟩
set_option maxRecDepth 100000 in
theorem okX7_34 : okV RX7 34 yX7_goCheapestWay cX7_goCheapestWay 2 none 0 := ⟨good_l (List.forall_mem_cons.mpr ⟨in_3 205 (by decide +kernel) rfl, List.forall_mem_cons.mpr ⟨in_3 207 (by decide +kernel) rfl, List.forall_mem_cons.mpr ⟨in_s 34 (by decide +kernel) rfl, List.forall_mem_cons.mpr ⟨in_1 12 (by decide +kernel) rfl, List.forall_mem_cons.mpr ⟨in_3 208 (by decide +kernel) rfl, List.forall_mem_nil _⟩⟩⟩⟩⟩), by decide +kernel⟩
set_option maxRecDepth 100000 in
theorem okX7_53 : okS RX7 53 yJ7_fill_53178 cJ7_fill_53178 4 none 2 := ⟨good_l (List.forall_mem_cons.mpr ⟨in_3 185 (by decide +kernel) rfl, List.forall_mem_cons.mpr ⟨in_1 176 (by decide +kernel) rfl, List.forall_mem_cons.mpr ⟨in_1 8 (by decide +kernel) rfl, List.forall_mem_cons.mpr ⟨in_1 177 (by decide +kernel) rfl, List.forall_mem_nil _⟩⟩⟩⟩), by decide +kernel⟩
set_option maxRecDepth 100000 in
theorem okX7_67 : okS RX7 67 yJ9_min_7cf53 cJ9_min_7cf53 2 (some .int) 2 := ⟨good_l (List.forall_mem_cons.mpr ⟨in_3 196 (by decide +kernel) rfl, List.forall_mem_cons.mpr ⟨in_3 0 (by decide +kernel) rfl, List.forall_mem_cons.mpr ⟨in_1 3 (by decide +kernel) rfl, List.forall_mem_cons.mpr ⟨in_3 1 (by decide +kernel) rfl, List.forall_mem_nil _⟩⟩⟩⟩), by decide +kernel⟩
set_option maxRecDepth 100000 in
theorem okX7_72 : okV RX7 72 yX7_lowerByPutting cX7_lowerByPutting 6 (some .boolean) 1 := ⟨good_l (List.forall_mem_cons.mpr ⟨in_3 197 (by decide +kernel) rfl, List.forall_mem_cons.mpr ⟨in_3 199 (by decide +kernel) rfl, List.forall_mem_cons.mpr ⟨in_s 32 (by decide +kernel) rfl, List.forall_mem_cons.mpr ⟨in_1 12 (by decide +kernel) rfl, List.forall_mem_cons.mpr ⟨in_3 200 (by decide +kernel) rfl, List.forall_mem_nil _⟩⟩⟩⟩⟩), by decide +kernel⟩
set_option maxRecDepth 100000 in
theorem flX8_38 : Cond.fieldLink RX8 38 (TX8 7).1 (TX8 7).2.1 (TX8 7).2.2.1 ∈ tbg := in_1 231 (by decide +kernel) rfl
set_option maxRecDepth 100000 in
theorem flX8_9 : Cond.fieldLink RX8 9 (TX8 0).1 (TX8 0).2.1 (TX8 0).2.2.1 ∈ tbg := in_1 218 (by decide +kernel) rfl
set_option maxRecDepth 100000 in
theorem okX8_49 : okN RX8 49 yX10_isCall RX10 cX10_isCall 1 (some .boolean) 1 := ⟨⟨good_l (List.forall_mem_cons.mpr ⟨in_2 196 (by decide +kernel) rfl, List.forall_mem_cons.mpr ⟨in_1 1 (by decide +kernel) rfl, List.forall_mem_cons.mpr ⟨in_2 197 (by decide +kernel) rfl, List.forall_mem_nil _⟩⟩⟩), by decide +kernel⟩, by decide +kernel⟩
set_option maxRecDepth 100000 in
theorem flX8_18 : Cond.fieldLink RX8 18 (TX8 2).1 (TX8 2).2.1 (TX8 2).2.2.1 ∈ tbg := in_1 222 (by decide +kernel) rfl
set_option maxRecDepth 100000 in
theorem flX8_15 : Cond.fieldLink RX8 15 (TX8 1).1 (TX8 1).2.1 (TX8 1).2.2.1 ∈ tbg := in_1 220 (by decide +kernel) rfl
set_option maxRecDepth 100000 in
theorem flX8_24 : Cond.fieldLink RX8 24 (TX8 4).1 (TX8 4).2.1 (TX8 4).2.2.1 ∈ tbg := in_1 226 (by decide +kernel) rfl
set_option maxRecDepth 100000 in
theorem flX8_21 : Cond.fieldLink RX8 21 (TX8 3).1 (TX8 3).2.1 (TX8 3).2.2.1 ∈ tbg := in_1 224 (by decide +kernel) rfl
set_option maxRecDepth 100000 in
theorem okX8_34 : okS RX8 34 yX8_mayStand cX8_mayStand 3 (some .boolean) 3 := ⟨good_l (List.forall_mem_cons.mpr ⟨in_4 140 (by decide +kernel) rfl, List.forall_mem_cons.mpr ⟨in_4 141 (by decide +kernel) rfl, List.forall_mem_cons.mpr ⟨in_1 10 (by decide +kernel) rfl, List.forall_mem_cons.mpr ⟨in_4 142 (by decide +kernel) rfl, List.forall_mem_nil _⟩⟩⟩⟩), by decide +kernel⟩
set_option maxRecDepth 100000 in
theorem flX8_28 : Cond.fieldLink RX8 28 (TX8 5).1 (TX8 5).2.1 (TX8 5).2.2.1 ∈ tbg := in_1 228 (by decide +kernel) rfl
set_option maxRecDepth 100000 in
theorem flX8_31 : Cond.fieldLink RX8 31 (TX8 6).1 (TX8 6).2.1 (TX8 6).2.2.1 ∈ tbg := in_1 229 (by decide +kernel) rfl
set_option maxRecDepth 100000 in
theorem okX8_42 : okV RX8 42 yX8_endS cX8_endS 3 none 2 := ⟨good_l (List.forall_mem_cons.mpr ⟨in_4 147 (by decide +kernel) rfl, List.forall_mem_cons.mpr ⟨in_4 149 (by decide +kernel) rfl, List.forall_mem_cons.mpr ⟨in_s 39 (by decide +kernel) rfl, List.forall_mem_cons.mpr ⟨in_1 10 (by decide +kernel) rfl, List.forall_mem_cons.mpr ⟨in_4 150 (by decide +kernel) rfl, List.forall_mem_nil _⟩⟩⟩⟩⟩), by decide +kernel⟩
set_option maxRecDepth 100000 in
theorem okX8_46 : okV RX8 46 yX8_closeBracket cX8_closeBracket 5 none 2 := ⟨good_l (List.forall_mem_cons.mpr ⟨in_4 151 (by decide +kernel) rfl, List.forall_mem_cons.mpr ⟨in_4 153 (by decide +kernel) rfl, List.forall_mem_cons.mpr ⟨in_s 40 (by decide +kernel) rfl, List.forall_mem_cons.mpr ⟨in_1 10 (by decide +kernel) rfl, List.forall_mem_cons.mpr ⟨in_4 154 (by decide +kernel) rfl, List.forall_mem_nil _⟩⟩⟩⟩⟩), by decide +kernel⟩
set_option maxRecDepth 100000 in
theorem flX9_31 : Cond.fieldLink RX9 31 (TX9 6).1 (TX9 6).2.1 (TX9 6).2.2.1 ∈ tbg := in_1 105 (by decide +kernel) rfl
set_option maxRecDepth 100000 in
theorem flX9_15 : Cond.fieldLink RX9 15 (TX9 2).1 (TX9 2).2.1 (TX9 2).2.2.1 ∈ tbg := in_1 97 (by decide +kernel) rfl
set_option maxRecDepth 100000 in
theorem flX9_18 : Cond.fieldLink RX9 18 (TX9 3).1 (TX9 3).2.1 (TX9 3).2.2.1 ∈ tbg := in_1 99 (by decide +kernel) rfl
set_option maxRecDepth 100000 in
theorem flX9_9 : Cond.fieldLink RX9 9 (TX9 1).1 (TX9 1).2.1 (TX9 1).2.2.1 ∈ tbg := in_1 95 (by decide +kernel) rfl
set_option maxRecDepth 100000 in
theorem flX9_24 : Cond.fieldLink RX9 24 (TX9 5).1 (TX9 5).2.1 (TX9 5).2.2.1 ∈ tbg := in_1 103 (by decide +kernel) rfl
set_option maxRecDepth 100000 in
theorem flX9_27 : Cond.fieldLink RX9 27 (TX9 0).1 (TX9 0).2.1 (TX9 0).2.2.1 ∈ tbg := in_1 94 (by decide +kernel) rfl
set_option maxRecDepth 100000 in
theorem okX9_60 : okV RX9 60 yX0_callAt cX0_callAt 3 (some .int) 2 := ⟨good_l (List.forall_mem_cons.mpr ⟨in_2 194 (by decide +kernel) rfl, List.forall_mem_cons.mpr ⟨in_2 187 (by decide +kernel) rfl, List.forall_mem_cons.mpr ⟨in_2 188 (by decide +kernel) rfl, List.forall_mem_cons.mpr ⟨in_1 4 (by decide +kernel) rfl, List.forall_mem_cons.mpr ⟨in_2 189 (by decide +kernel) rfl, List.forall_mem_nil _⟩⟩⟩⟩⟩), by decide +kernel⟩
set_option maxRecDepth 100000 in
theorem flX9_21 : Cond.fieldLink RX9 21 (TX9 4).1 (TX9 4).2.1 (TX9 4).2.2.1 ∈ tbg := in_1 101 (by decide +kernel) rfl
set_option maxRecDepth 100000 in
theorem okX9_63 : okN RX9 63 yX10_isCall RX10 cX10_isCall 1 (some .boolean) 1 := ⟨⟨good_l (List.forall_mem_cons.mpr ⟨in_2 196 (by decide +kernel) rfl, List.forall_mem_cons.mpr ⟨in_1 1 (by decide +kernel) rfl, List.forall_mem_cons.mpr ⟨in_2 197 (by decide +kernel) rfl, List.forall_mem_nil _⟩⟩⟩), by decide +kernel⟩, by decide +kernel⟩
set_option maxRecDepth 100000 in
theorem okX9_66 : okV RX9 66 yX9_childOf cX9_childOf 3 (some .int) 2 := ⟨good_l (List.forall_mem_cons.mpr ⟨in_2 206 (by decide +kernel) rfl, List.forall_mem_cons.mpr ⟨in_2 207 (by decide +kernel) rfl, List.forall_mem_cons.mpr ⟨in_2 208 (by decide +kernel) rfl, List.forall_mem_cons.mpr ⟨in_1 5 (by decide +kernel) rfl, List.forall_mem_cons.mpr ⟨in_2 209 (by decide +kernel) rfl, List.forall_mem_nil _⟩⟩⟩⟩⟩), by decide +kernel⟩
set_option maxRecDepth 100000 in
theorem okX9_35 : okV RX9 35 yX9_addNode cX9_addNode 4 (some .int) 2 := ⟨good_l (List.forall_mem_cons.mpr ⟨in_2 158 (by decide +kernel) rfl, List.forall_mem_cons.mpr ⟨in_2 160 (by decide +kernel) rfl, List.forall_mem_cons.mpr ⟨in_s 0 (by decide +kernel) rfl, List.forall_mem_cons.mpr ⟨in_1 5 (by decide +kernel) rfl, List.forall_mem_cons.mpr ⟨in_2 161 (by decide +kernel) rfl, List.forall_mem_nil _⟩⟩⟩⟩⟩), by decide +kernel⟩
set_option maxRecDepth 100000 in
theorem okX9_39 : okV RX9 39 yX0_isRightThere cX0_isRightThere 2 (some .boolean) 1 := ⟨good_l (List.forall_mem_cons.mpr ⟨in_2 162 (by decide +kernel) rfl, List.forall_mem_cons.mpr ⟨in_2 163 (by decide +kernel) rfl, List.forall_mem_cons.mpr ⟨in_2 164 (by decide +kernel) rfl, List.forall_mem_cons.mpr ⟨in_1 4 (by decide +kernel) rfl, List.forall_mem_cons.mpr ⟨in_2 165 (by decide +kernel) rfl, List.forall_mem_nil _⟩⟩⟩⟩⟩), by decide +kernel⟩
set_option maxRecDepth 100000 in
theorem okX9_45 : okV RX9 45 yX0_cutSize cX0_cutSize 4 (some .int) 1 := ⟨good_l (List.forall_mem_cons.mpr ⟨in_2 170 (by decide +kernel) rfl, List.forall_mem_cons.mpr ⟨in_2 171 (by decide +kernel) rfl, List.forall_mem_cons.mpr ⟨in_2 172 (by decide +kernel) rfl, List.forall_mem_cons.mpr ⟨in_1 4 (by decide +kernel) rfl, List.forall_mem_cons.mpr ⟨in_2 173 (by decide +kernel) rfl, List.forall_mem_nil _⟩⟩⟩⟩⟩), by decide +kernel⟩
set_option maxRecDepth 100000 in
theorem okX9_49 : okV RX9 49 yX9_askForChildren cX9_askForChildren 5 none 1 := ⟨good_l (List.forall_mem_cons.mpr ⟨in_2 190 (by decide +kernel) rfl, List.forall_mem_cons.mpr ⟨in_2 192 (by decide +kernel) rfl, List.forall_mem_cons.mpr ⟨in_s 2 (by decide +kernel) rfl, List.forall_mem_cons.mpr ⟨in_1 5 (by decide +kernel) rfl, List.forall_mem_cons.mpr ⟨in_2 193 (by decide +kernel) rfl, List.forall_mem_nil _⟩⟩⟩⟩⟩), by decide +kernel⟩
set_option maxRecDepth 100000 in
theorem okX9_53 : okV RX9 53 yX9_nameChildren cX9_nameChildren 5 none 2 := ⟨good_l (List.forall_mem_cons.mpr ⟨in_2 198 (by decide +kernel) rfl, List.forall_mem_cons.mpr ⟨in_2 200 (by decide +kernel) rfl, List.forall_mem_cons.mpr ⟨in_s 3 (by decide +kernel) rfl, List.forall_mem_cons.mpr ⟨in_1 5 (by decide +kernel) rfl, List.forall_mem_cons.mpr ⟨in_2 201 (by decide +kernel) rfl, List.forall_mem_nil _⟩⟩⟩⟩⟩), by decide +kernel⟩
set_option maxRecDepth 100000 in
theorem okX9_57 : okV RX9 57 yX9_goDown cX9_goDown 3 none 1 := ⟨good_l (List.forall_mem_cons.mpr ⟨in_2 202 (by decide +kernel) rfl, List.forall_mem_cons.mpr ⟨in_2 204 (by decide +kernel) rfl, List.forall_mem_cons.mpr ⟨in_s 4 (by decide +kernel) rfl, List.forall_mem_cons.mpr ⟨in_1 5 (by decide +kernel) rfl, List.forall_mem_cons.mpr ⟨in_2 205 (by decide +kernel) rfl, List.forall_mem_nil _⟩⟩⟩⟩⟩), by decide +kernel⟩
