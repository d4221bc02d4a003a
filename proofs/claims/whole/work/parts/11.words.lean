theorem z_in1 {w : Cond} (i : Nat) (h : tables_1_1[i]? = some w) (g : goodWord w = true) : w ∈ z_tb := List.mem_filter.mpr ⟨List.mem_append_right _ (List.mem_append_left _ (List.mem_of_getElem? h)), g⟩
theorem z_in2 {w : Cond} (i : Nat) (h : tables_1_2[i]? = some w) (g : goodWord w = true) : w ∈ z_tb := List.mem_filter.mpr ⟨List.mem_append_right _ (List.mem_append_right _ (List.mem_append_left _ (List.mem_of_getElem? h))), g⟩
theorem z_in3 {w : Cond} (i : Nat) (h : tables_1_3[i]? = some w) (g : goodWord w = true) : w ∈ z_tb := List.mem_filter.mpr ⟨List.mem_append_right _ (List.mem_append_right _ (List.mem_append_right _ (List.mem_append_left _ (List.mem_of_getElem? h)))), g⟩
theorem z_in4 {w : Cond} (i : Nat) (h : tables_1_4[i]? = some w) (g : goodWord w = true) : w ∈ z_tb := List.mem_filter.mpr ⟨List.mem_append_right _ (List.mem_append_right _ (List.mem_append_right _ (List.mem_append_right _ (List.mem_append_left _ (List.mem_of_getElem? h))))), g⟩
theorem z_in5 {w : Cond} (i : Nat) (h : tables_1_5[i]? = some w) (g : goodWord w = true) : w ∈ z_tb := List.mem_filter.mpr ⟨List.mem_append_right _ (List.mem_append_right _ (List.mem_append_right _ (List.mem_append_right _ (List.mem_append_right _ (List.mem_of_getElem? h))))), g⟩
theorem z_inp {q : MethodName × Nat} (i : Nat) (h : lw_privs[i]? = some q) (g : goodWord (Cond.selects q.1.cls q.1 q.1) = true) : Cond.selects q.1.cls q.1 q.1 ∈ z_tb := List.mem_filter.mpr ⟨List.mem_append_left _ (List.mem_map.mpr ⟨q, List.mem_of_getElem? h, rfl⟩), g⟩
theorem z_lX0 : ∀ w ∈ u_ws RX0 TX0 (z_cn 0), w ∈ z_tb := by
  intro w hw
  obtain ⟨k, hk, rfl⟩ := List.mem_map.mp hw
  have hk := List.mem_range.mp hk
  change k < 1 at hk
  match k, hk with
  | 0, _ => exact z_in2 9 (by decide +kernel) (by decide +kernel)
  | n + 1, h => exact absurd h (by omega)
theorem z_kX0 : z_Cl 0 RX0 TX0 tyX0 := ⟨rfl, z_lX0, tyX0_ok, nmX0⟩
theorem z_lX1 : ∀ w ∈ u_ws RX1 TX1 (z_cn 1), w ∈ z_tb := by
  intro w hw
  obtain ⟨k, hk, rfl⟩ := List.mem_map.mp hw
  have hk := List.mem_range.mp hk
  change k < 3 at hk
  match k, hk with
  | 0, _ => exact z_in2 21 (by decide +kernel) (by decide +kernel)
  | 1, _ => exact z_in2 23 (by decide +kernel) (by decide +kernel)
  | 2, _ => exact z_in2 25 (by decide +kernel) (by decide +kernel)
  | n + 3, h => exact absurd h (by omega)
theorem z_kX1 : z_Cl 1 RX1 TX1 tyX1 := ⟨rfl, z_lX1, tyX1_ok, nmX1⟩
theorem z_lX2 : ∀ w ∈ u_ws RX2 TX2 (z_cn 2), w ∈ z_tb := by
  intro w hw
  obtain ⟨k, hk, rfl⟩ := List.mem_map.mp hw
  have hk := List.mem_range.mp hk
  change k < 4 at hk
  match k, hk with
  | 0, _ => exact z_in1 233 (by decide +kernel) (by decide +kernel)
  | 1, _ => exact z_in1 235 (by decide +kernel) (by decide +kernel)
  | 2, _ => exact z_in1 237 (by decide +kernel) (by decide +kernel)
  | 3, _ => exact z_in1 239 (by decide +kernel) (by decide +kernel)
  | n + 4, h => exact absurd h (by omega)
theorem z_kX2 : z_Cl 2 RX2 TX2 tyX2 := ⟨rfl, z_lX2, tyX2_ok, nmX2⟩
theorem z_lX3 : ∀ w ∈ u_ws RX3 TX3 (z_cn 3), w ∈ z_tb := by
  intro w hw
  obtain ⟨k, hk, rfl⟩ := List.mem_map.mp hw
  have hk := List.mem_range.mp hk
  change k < 8 at hk
  match k, hk with
  | 0, _ => exact z_in1 206 (by decide +kernel) (by decide +kernel)
  | 1, _ => exact z_in1 208 (by decide +kernel) (by decide +kernel)
  | 2, _ => exact z_in1 210 (by decide +kernel) (by decide +kernel)
  | 3, _ => exact z_in1 212 (by decide +kernel) (by decide +kernel)
  | 4, _ => exact z_in1 214 (by decide +kernel) (by decide +kernel)
  | 5, _ => exact z_in1 216 (by decide +kernel) (by decide +kernel)
  | 6, _ => exact z_in1 218 (by decide +kernel) (by decide +kernel)
  | 7, _ => exact z_in1 220 (by decide +kernel) (by decide +kernel)
  | n + 8, h => exact absurd h (by omega)
theorem z_kX3 : z_Cl 3 RX3 TX3 tyX3 := ⟨rfl, z_lX3, tyX3_ok, nmX3⟩
theorem z_lX4 : ∀ w ∈ u_ws RX4 TX4 (z_cn 4), w ∈ z_tb := by
  intro w hw
  obtain ⟨k, hk, rfl⟩ := List.mem_map.mp hw
  have hk := List.mem_range.mp hk
  change k < 9 at hk
  match k, hk with
  | 0, _ => exact z_in1 138 (by decide +kernel) (by decide +kernel)
  | 1, _ => exact z_in1 140 (by decide +kernel) (by decide +kernel)
  | 2, _ => exact z_in1 142 (by decide +kernel) (by decide +kernel)
  | 3, _ => exact z_in1 144 (by decide +kernel) (by decide +kernel)
  | 4, _ => exact z_in1 146 (by decide +kernel) (by decide +kernel)
  | 5, _ => exact z_in1 148 (by decide +kernel) (by decide +kernel)
  | 6, _ => exact z_in1 150 (by decide +kernel) (by decide +kernel)
  | 7, _ => exact z_in1 152 (by decide +kernel) (by decide +kernel)
  | 8, _ => exact z_in1 154 (by decide +kernel) (by decide +kernel)
  | n + 9, h => exact absurd h (by omega)
theorem z_kX4 : z_Cl 4 RX4 TX4 tyX4 := ⟨rfl, z_lX4, tyX4_ok, nmX4⟩
theorem z_lX5 : ∀ w ∈ u_ws RX5 TX5 (z_cn 5), w ∈ z_tb := by
  intro w hw
  obtain ⟨k, hk, rfl⟩ := List.mem_map.mp hw
  have hk := List.mem_range.mp hk
  change k < 4 at hk
  match k, hk with
  | 0, _ => exact z_in1 164 (by decide +kernel) (by decide +kernel)
  | 1, _ => exact z_in1 166 (by decide +kernel) (by decide +kernel)
  | 2, _ => exact z_in1 168 (by decide +kernel) (by decide +kernel)
  | 3, _ => exact z_in1 170 (by decide +kernel) (by decide +kernel)
  | n + 4, h => exact absurd h (by omega)
theorem z_kX5 : z_Cl 5 RX5 TX5 tyX5 := ⟨rfl, z_lX5, tyX5_ok, nmX5⟩
theorem z_lX6 : ∀ w ∈ u_ws RX6 TX6 (z_cn 6), w ∈ z_tb := by
  intro w hw
  obtain ⟨k, hk, rfl⟩ := List.mem_map.mp hw
  have hk := List.mem_range.mp hk
  change k < 7 at hk
  match k, hk with
  | 0, _ => exact z_in1 71 (by decide +kernel) (by decide +kernel)
  | 1, _ => exact z_in1 73 (by decide +kernel) (by decide +kernel)
  | 2, _ => exact z_in1 75 (by decide +kernel) (by decide +kernel)
  | 3, _ => exact z_in1 77 (by decide +kernel) (by decide +kernel)
  | 4, _ => exact z_in1 79 (by decide +kernel) (by decide +kernel)
  | 5, _ => exact z_in1 81 (by decide +kernel) (by decide +kernel)
  | 6, _ => exact z_in1 83 (by decide +kernel) (by decide +kernel)
  | n + 7, h => exact absurd h (by omega)
theorem z_kX6 : z_Cl 6 RX6 TX6 tyX6 := ⟨rfl, z_lX6, tyX6_ok, nmX6⟩
theorem z_lX7 : ∀ w ∈ u_ws RX7 TX7 (z_cn 7), w ∈ z_tb := by
  intro w hw
  obtain ⟨k, hk, rfl⟩ := List.mem_map.mp hw
  have hk := List.mem_range.mp hk
  change k < 4 at hk
  match k, hk with
  | 0, _ => exact z_in1 183 (by decide +kernel) (by decide +kernel)
  | 1, _ => exact z_in1 185 (by decide +kernel) (by decide +kernel)
  | 2, _ => exact z_in1 187 (by decide +kernel) (by decide +kernel)
  | 3, _ => exact z_in1 189 (by decide +kernel) (by decide +kernel)
  | n + 4, h => exact absurd h (by omega)
theorem z_kX7 : z_Cl 7 RX7 TX7 tyX7 := ⟨rfl, z_lX7, tyX7_ok, nmX7⟩
theorem z_lX8 : ∀ w ∈ u_ws RX8 TX8 (z_cn 8), w ∈ z_tb := by
  intro w hw
  obtain ⟨k, hk, rfl⟩ := List.mem_map.mp hw
  have hk := List.mem_range.mp hk
  change k < 7 at hk
  match k, hk with
  | 0, _ => exact z_in2 35 (by decide +kernel) (by decide +kernel)
  | 1, _ => exact z_in2 37 (by decide +kernel) (by decide +kernel)
  | 2, _ => exact z_in2 39 (by decide +kernel) (by decide +kernel)
  | 3, _ => exact z_in2 41 (by decide +kernel) (by decide +kernel)
  | 4, _ => exact z_in2 43 (by decide +kernel) (by decide +kernel)
  | 5, _ => exact z_in2 45 (by decide +kernel) (by decide +kernel)
  | 6, _ => exact z_in2 47 (by decide +kernel) (by decide +kernel)
  | n + 7, h => exact absurd h (by omega)
theorem z_kX8 : z_Cl 8 RX8 TX8 tyX8 := ⟨rfl, z_lX8, tyX8_ok, nmX8⟩
theorem z_lX9 : ∀ w ∈ u_ws RX9 TX9 (z_cn 9), w ∈ z_tb := by
  intro w hw
  obtain ⟨k, hk, rfl⟩ := List.mem_map.mp hw
  have hk := List.mem_range.mp hk
  change k < 25 at hk
  match k, hk with
  | 0, _ => exact z_in4 55 (by decide +kernel) (by decide +kernel)
  | 1, _ => exact z_in4 57 (by decide +kernel) (by decide +kernel)
  | 2, _ => exact z_in4 59 (by decide +kernel) (by decide +kernel)
  | 3, _ => exact z_in4 61 (by decide +kernel) (by decide +kernel)
  | 4, _ => exact z_in4 63 (by decide +kernel) (by decide +kernel)
  | 5, _ => exact z_in4 65 (by decide +kernel) (by decide +kernel)
  | 6, _ => exact z_in4 67 (by decide +kernel) (by decide +kernel)
  | 7, _ => exact z_in4 69 (by decide +kernel) (by decide +kernel)
  | 8, _ => exact z_in4 71 (by decide +kernel) (by decide +kernel)
  | 9, _ => exact z_in4 73 (by decide +kernel) (by decide +kernel)
  | 10, _ => exact z_in4 75 (by decide +kernel) (by decide +kernel)
  | 11, _ => exact z_in4 77 (by decide +kernel) (by decide +kernel)
  | 12, _ => exact z_in4 79 (by decide +kernel) (by decide +kernel)
  | 13, _ => exact z_in4 81 (by decide +kernel) (by decide +kernel)
  | 14, _ => exact z_in4 83 (by decide +kernel) (by decide +kernel)
  | 15, _ => exact z_in4 85 (by decide +kernel) (by decide +kernel)
  | 16, _ => exact z_in4 87 (by decide +kernel) (by decide +kernel)
  | 17, _ => exact z_in4 89 (by decide +kernel) (by decide +kernel)
  | 18, _ => exact z_in4 91 (by decide +kernel) (by decide +kernel)
  | 19, _ => exact z_in4 93 (by decide +kernel) (by decide +kernel)
  | 20, _ => exact z_in4 95 (by decide +kernel) (by decide +kernel)
  | 21, _ => exact z_in4 97 (by decide +kernel) (by decide +kernel)
  | 22, _ => exact z_in4 99 (by decide +kernel) (by decide +kernel)
  | 23, _ => exact z_in4 101 (by decide +kernel) (by decide +kernel)
  | 24, _ => exact z_in4 103 (by decide +kernel) (by decide +kernel)
  | n + 25, h => exact absurd h (by omega)
theorem z_kX9 : z_Cl 9 RX9 TX9 tyX9 := ⟨rfl, z_lX9, tyX9_ok, nmX9⟩
theorem k_fl_X0_9 : z_Fl RX0 9 0 0 true (.object "CutProofs$Model") := ⟨RX0, TX0, tyX0, z_kX0, by decide, z_in2 8 (by decide +kernel) (by decide +kernel), rfl, rfl, rfl⟩
theorem k_fl_X0_15 : z_Fl RX0 15 4 5 false .int := ⟨RX4, TX4, tyX4, z_kX4, by decide, z_in1 126 (by decide +kernel) (by decide +kernel), rfl, rfl, rfl⟩
theorem k_fl_X0_31 : z_Fl RX0 31 4 7 false .int := ⟨RX4, TX4, tyX4, z_kX4, by decide, z_in1 133 (by decide +kernel) (by decide +kernel), rfl, rfl, rfl⟩
theorem k_fl_X0_37 : z_Fl RX0 37 6 6 false .int := ⟨RX6, TX6, tyX6, z_kX6, by decide, z_in1 69 (by decide +kernel) (by decide +kernel), rfl, rfl, rfl⟩
theorem k_fl_X0_42 : z_Fl RX0 42 4 1 true (.array .int) := ⟨RX4, TX4, tyX4, z_kX4, by decide, z_in1 110 (by decide +kernel) (by decide +kernel), rfl, rfl, rfl⟩
theorem k_fl_X0_46 : z_Fl RX0 46 6 4 true (.array .int) := ⟨RX6, TX6, tyX6, z_kX6, by decide, z_in1 54 (by decide +kernel) (by decide +kernel), rfl, rfl, rfl⟩
theorem k_fl_X0_49 : z_Fl RX0 49 6 5 false .int := ⟨RX6, TX6, tyX6, z_kX6, by decide, z_in1 62 (by decide +kernel) (by decide +kernel), rfl, rfl, rfl⟩
theorem k_fl_X0_52 : z_Fl RX0 52 4 0 true (.array .int) := ⟨RX4, TX4, tyX4, z_kX4, by decide, z_in1 102 (by decide +kernel) (by decide +kernel), rfl, rfl, rfl⟩
theorem k_fl_X0_59 : z_Fl RX0 59 4 3 true (.array .int) := ⟨RX4, TX4, tyX4, z_kX4, by decide, z_in1 116 (by decide +kernel) (by decide +kernel), rfl, rfl, rfl⟩
theorem k_fl_X0_62 : z_Fl RX0 62 6 1 true (.array .int) := ⟨RX6, TX6, tyX6, z_kX6, by decide, z_in1 41 (by decide +kernel) (by decide +kernel), rfl, rfl, rfl⟩
theorem k_fl_X0_65 : z_Fl RX0 65 4 2 true (.array .int) := ⟨RX4, TX4, tyX4, z_kX4, by decide, z_in1 113 (by decide +kernel) (by decide +kernel), rfl, rfl, rfl⟩
theorem k_fl_X0_68 : z_Fl RX0 68 6 0 true (.array .int) := ⟨RX6, TX6, tyX6, z_kX6, by decide, z_in1 37 (by decide +kernel) (by decide +kernel), rfl, rfl, rfl⟩
theorem k_fl_X0_71 : z_Fl RX0 71 4 4 false .int := ⟨RX4, TX4, tyX4, z_kX4, by decide, z_in1 119 (by decide +kernel) (by decide +kernel), rfl, rfl, rfl⟩
theorem k_fl_X0_80 : z_Fl RX0 80 6 3 true (.array (.array .int)) := ⟨RX6, TX6, tyX6, z_kX6, by decide, z_in1 51 (by decide +kernel) (by decide +kernel), rfl, rfl, rfl⟩
theorem k_fl_X0_83 : z_Fl RX0 83 4 8 false .int := ⟨RX4, TX4, tyX4, z_kX4, by decide, z_in1 137 (by decide +kernel) (by decide +kernel), rfl, rfl, rfl⟩
theorem k_fl_X1_9 : z_Fl RX1 9 1 1 true (.array .int) := ⟨RX1, TX1, tyX1, z_kX1, by decide, z_in2 19 (by decide +kernel) (by decide +kernel), rfl, rfl, rfl⟩
theorem k_fl_X1_15 : z_Fl RX1 15 1 2 true (.array .int) := ⟨RX1, TX1, tyX1, z_kX1, by decide, z_in2 20 (by decide +kernel) (by decide +kernel), rfl, rfl, rfl⟩
theorem k_fl_X1_18 : z_Fl RX1 18 1 0 true (.object "CutProofs$Model") := ⟨RX1, TX1, tyX1, z_kX1, by decide, z_in2 18 (by decide +kernel) (by decide +kernel), rfl, rfl, rfl⟩
theorem k_fl_X1_28 : z_Fl RX1 28 6 5 false .int := ⟨RX6, TX6, tyX6, z_kX6, by decide, z_in1 59 (by decide +kernel) (by decide +kernel), rfl, rfl, rfl⟩
theorem k_fl_X1_34 : z_Fl RX1 34 6 0 true (.array .int) := ⟨RX6, TX6, tyX6, z_kX6, by decide, z_in1 36 (by decide +kernel) (by decide +kernel), rfl, rfl, rfl⟩
theorem k_fl_X1_41 : z_Fl RX1 41 6 1 true (.array .int) := ⟨RX6, TX6, tyX6, z_kX6, by decide, z_in1 40 (by decide +kernel) (by decide +kernel), rfl, rfl, rfl⟩
theorem k_fl_X1_44 : z_Fl RX1 44 6 6 false .int := ⟨RX6, TX6, tyX6, z_kX6, by decide, z_in1 70 (by decide +kernel) (by decide +kernel), rfl, rfl, rfl⟩
theorem k_fl_X1_47 : z_Fl RX1 47 6 3 true (.array (.array .int)) := ⟨RX6, TX6, tyX6, z_kX6, by decide, z_in1 49 (by decide +kernel) (by decide +kernel), rfl, rfl, rfl⟩
theorem k_fl_X1_51 : z_Fl RX1 51 6 4 true (.array .int) := ⟨RX6, TX6, tyX6, z_kX6, by decide, z_in1 56 (by decide +kernel) (by decide +kernel), rfl, rfl, rfl⟩
theorem k_fl_X1_54 : z_Fl RX1 54 4 0 true (.array .int) := ⟨RX4, TX4, tyX4, z_kX4, by decide, z_in1 105 (by decide +kernel) (by decide +kernel), rfl, rfl, rfl⟩
theorem k_fl_X1_58 : z_Fl RX1 58 4 4 false .int := ⟨RX4, TX4, tyX4, z_kX4, by decide, z_in1 122 (by decide +kernel) (by decide +kernel), rfl, rfl, rfl⟩
theorem k_fl_X2_9 : z_Fl RX2 9 2 2 true (.array .int) := ⟨RX2, TX2, tyX2, z_kX2, by decide, z_in1 231 (by decide +kernel) (by decide +kernel), rfl, rfl, rfl⟩
theorem k_fl_X2_15 : z_Fl RX2 15 2 0 true (.object "CutProofs$Model") := ⟨RX2, TX2, tyX2, z_kX2, by decide, z_in1 229 (by decide +kernel) (by decide +kernel), rfl, rfl, rfl⟩
theorem k_fl_X2_19 : z_Fl RX2 19 2 1 true (.object "CutProofs$CutList") := ⟨RX2, TX2, tyX2, z_kX2, by decide, z_in1 230 (by decide +kernel) (by decide +kernel), rfl, rfl, rfl⟩
theorem k_fl_X2_29 : z_Fl RX2 29 6 5 false .int := ⟨RX6, TX6, tyX6, z_kX6, by decide, z_in1 58 (by decide +kernel) (by decide +kernel), rfl, rfl, rfl⟩
theorem k_fl_X2_42 : z_Fl RX2 42 2 3 false .int := ⟨RX2, TX2, tyX2, z_kX2, by decide, z_in1 232 (by decide +kernel) (by decide +kernel), rfl, rfl, rfl⟩
theorem k_fl_X2_73 : z_Fl RX2 73 4 0 true (.array .int) := ⟨RX4, TX4, tyX4, z_kX4, by decide, z_in1 106 (by decide +kernel) (by decide +kernel), rfl, rfl, rfl⟩
theorem k_fl_X2_78 : z_Fl RX2 78 4 4 false .int := ⟨RX4, TX4, tyX4, z_kX4, by decide, z_in1 123 (by decide +kernel) (by decide +kernel), rfl, rfl, rfl⟩
theorem k_fl_X3_9 : z_Fl RX3 9 3 2 true (.array .int) := ⟨RX3, TX3, tyX3, z_kX3, by decide, z_in1 200 (by decide +kernel) (by decide +kernel), rfl, rfl, rfl⟩
theorem k_fl_X3_15 : z_Fl RX3 15 3 3 true (.array .int) := ⟨RX3, TX3, tyX3, z_kX3, by decide, z_in1 201 (by decide +kernel) (by decide +kernel), rfl, rfl, rfl⟩
theorem k_fl_X3_18 : z_Fl RX3 18 3 4 true (.array .int) := ⟨RX3, TX3, tyX3, z_kX3, by decide, z_in1 202 (by decide +kernel) (by decide +kernel), rfl, rfl, rfl⟩
theorem k_fl_X3_21 : z_Fl RX3 21 3 5 true (.array .int) := ⟨RX3, TX3, tyX3, z_kX3, by decide, z_in1 203 (by decide +kernel) (by decide +kernel), rfl, rfl, rfl⟩
theorem k_fl_X3_24 : z_Fl RX3 24 3 0 true (.object "CutProofs$Model") := ⟨RX3, TX3, tyX3, z_kX3, by decide, z_in1 198 (by decide +kernel) (by decide +kernel), rfl, rfl, rfl⟩
theorem k_fl_X3_28 : z_Fl RX3 28 3 1 true (.object "CutProofs$CutList") := ⟨RX3, TX3, tyX3, z_kX3, by decide, z_in1 199 (by decide +kernel) (by decide +kernel), rfl, rfl, rfl⟩
theorem k_fl_X3_32 : z_Fl RX3 32 6 6 false .int := ⟨RX6, TX6, tyX6, z_kX6, by decide, z_in1 65 (by decide +kernel) (by decide +kernel), rfl, rfl, rfl⟩
theorem k_fl_X3_42 : z_Fl RX3 42 3 6 false .int := ⟨RX3, TX3, tyX3, z_kX3, by decide, z_in1 204 (by decide +kernel) (by decide +kernel), rfl, rfl, rfl⟩
theorem k_fl_X3_53 : z_Fl RX3 53 6 4 true (.array .int) := ⟨RX6, TX6, tyX6, z_kX6, by decide, z_in1 53 (by decide +kernel) (by decide +kernel), rfl, rfl, rfl⟩
theorem k_fl_X3_56 : z_Fl RX3 56 3 7 false .int := ⟨RX3, TX3, tyX3, z_kX3, by decide, z_in1 205 (by decide +kernel) (by decide +kernel), rfl, rfl, rfl⟩
theorem k_fl_X3_59 : z_Fl RX3 59 6 5 false .int := ⟨RX6, TX6, tyX6, z_kX6, by decide, z_in1 61 (by decide +kernel) (by decide +kernel), rfl, rfl, rfl⟩
theorem k_fl_X3_62 : z_Fl RX3 62 6 3 true (.array (.array .int)) := ⟨RX6, TX6, tyX6, z_kX6, by decide, z_in1 47 (by decide +kernel) (by decide +kernel), rfl, rfl, rfl⟩
theorem k_fl_X3_95 : z_Fl RX3 95 4 8 false .int := ⟨RX4, TX4, tyX4, z_kX4, by decide, z_in1 136 (by decide +kernel) (by decide +kernel), rfl, rfl, rfl⟩
theorem k_fl_X3_105 : z_Fl RX3 105 4 4 false .int := ⟨RX4, TX4, tyX4, z_kX4, by decide, z_in1 120 (by decide +kernel) (by decide +kernel), rfl, rfl, rfl⟩
theorem k_fl_X3_108 : z_Fl RX3 108 4 0 true (.array .int) := ⟨RX4, TX4, tyX4, z_kX4, by decide, z_in1 103 (by decide +kernel) (by decide +kernel), rfl, rfl, rfl⟩
theorem k_fl_X4_9 : z_Fl RX4 9 4 0 true (.array .int) := ⟨RX4, TX4, tyX4, z_kX4, by decide, z_in1 101 (by decide +kernel) (by decide +kernel), rfl, rfl, rfl⟩
theorem k_fl_X4_15 : z_Fl RX4 15 4 1 true (.array .int) := ⟨RX4, TX4, tyX4, z_kX4, by decide, z_in1 109 (by decide +kernel) (by decide +kernel), rfl, rfl, rfl⟩
theorem k_fl_X4_18 : z_Fl RX4 18 4 2 true (.array .int) := ⟨RX4, TX4, tyX4, z_kX4, by decide, z_in1 112 (by decide +kernel) (by decide +kernel), rfl, rfl, rfl⟩
theorem k_fl_X4_21 : z_Fl RX4 21 4 3 true (.array .int) := ⟨RX4, TX4, tyX4, z_kX4, by decide, z_in1 115 (by decide +kernel) (by decide +kernel), rfl, rfl, rfl⟩
theorem k_fl_X4_30 : z_Fl RX4 30 4 4 false .int := ⟨RX4, TX4, tyX4, z_kX4, by decide, z_in1 118 (by decide +kernel) (by decide +kernel), rfl, rfl, rfl⟩
theorem k_fl_X4_34 : z_Fl RX4 34 4 5 false .int := ⟨RX4, TX4, tyX4, z_kX4, by decide, z_in1 127 (by decide +kernel) (by decide +kernel), rfl, rfl, rfl⟩
theorem k_fl_X4_37 : z_Fl RX4 37 4 6 false .int := ⟨RX4, TX4, tyX4, z_kX4, by decide, z_in1 129 (by decide +kernel) (by decide +kernel), rfl, rfl, rfl⟩
theorem k_fl_X4_40 : z_Fl RX4 40 4 7 false .int := ⟨RX4, TX4, tyX4, z_kX4, by decide, z_in1 132 (by decide +kernel) (by decide +kernel), rfl, rfl, rfl⟩
theorem k_fl_X4_43 : z_Fl RX4 43 4 8 false .int := ⟨RX4, TX4, tyX4, z_kX4, by decide, z_in1 135 (by decide +kernel) (by decide +kernel), rfl, rfl, rfl⟩
theorem k_fl_X5_11 : z_Fl RX5 11 5 0 true (.array (.object "CutProofs$Cut")) := ⟨RX5, TX5, tyX5, z_kX5, by decide, z_in1 157 (by decide +kernel) (by decide +kernel), rfl, rfl, rfl⟩
theorem k_fl_X5_17 : z_Fl RX5 17 5 2 false .boolean := ⟨RX5, TX5, tyX5, z_kX5, by decide, z_in1 161 (by decide +kernel) (by decide +kernel), rfl, rfl, rfl⟩
theorem k_fl_X5_21 : z_Fl RX5 21 5 3 true (.object "CutProofs$Model") := ⟨RX5, TX5, tyX5, z_kX5, by decide, z_in1 163 (by decide +kernel) (by decide +kernel), rfl, rfl, rfl⟩
theorem k_fl_X5_26 : z_Fl RX5 26 5 1 false .int := ⟨RX5, TX5, tyX5, z_kX5, by decide, z_in1 159 (by decide +kernel) (by decide +kernel), rfl, rfl, rfl⟩
theorem k_fl_X5_44 : z_Fl RX5 44 6 5 false .int := ⟨RX6, TX6, tyX6, z_kX6, by decide, z_in1 64 (by decide +kernel) (by decide +kernel), rfl, rfl, rfl⟩
theorem k_fl_X5_51 : z_Fl RX5 51 4 6 false .int := ⟨RX4, TX4, tyX4, z_kX4, by decide, z_in1 130 (by decide +kernel) (by decide +kernel), rfl, rfl, rfl⟩
theorem k_fl_X6_9 : z_Fl RX6 9 6 0 true (.array .int) := ⟨RX6, TX6, tyX6, z_kX6, by decide, z_in1 35 (by decide +kernel) (by decide +kernel), rfl, rfl, rfl⟩
theorem k_fl_X6_15 : z_Fl RX6 15 6 1 true (.array .int) := ⟨RX6, TX6, tyX6, z_kX6, by decide, z_in1 39 (by decide +kernel) (by decide +kernel), rfl, rfl, rfl⟩
theorem k_fl_X6_18 : z_Fl RX6 18 6 2 true (.array .long) := ⟨RX6, TX6, tyX6, z_kX6, by decide, z_in1 43 (by decide +kernel) (by decide +kernel), rfl, rfl, rfl⟩
theorem k_fl_X6_24 : z_Fl RX6 24 6 3 true (.array (.array .int)) := ⟨RX6, TX6, tyX6, z_kX6, by decide, z_in1 46 (by decide +kernel) (by decide +kernel), rfl, rfl, rfl⟩
theorem k_fl_X6_27 : z_Fl RX6 27 6 4 true (.array .int) := ⟨RX6, TX6, tyX6, z_kX6, by decide, z_in1 52 (by decide +kernel) (by decide +kernel), rfl, rfl, rfl⟩
theorem k_fl_X6_30 : z_Fl RX6 30 6 5 false .int := ⟨RX6, TX6, tyX6, z_kX6, by decide, z_in1 57 (by decide +kernel) (by decide +kernel), rfl, rfl, rfl⟩
theorem k_fl_X6_34 : z_Fl RX6 34 6 6 false .int := ⟨RX6, TX6, tyX6, z_kX6, by decide, z_in1 67 (by decide +kernel) (by decide +kernel), rfl, rfl, rfl⟩
theorem k_fl_X6_51 : z_Fl RX6 51 4 0 true (.array .int) := ⟨RX4, TX4, tyX4, z_kX4, by decide, z_in1 108 (by decide +kernel) (by decide +kernel), rfl, rfl, rfl⟩
theorem k_fl_X6_55 : z_Fl RX6 55 4 4 false .int := ⟨RX4, TX4, tyX4, z_kX4, by decide, z_in1 125 (by decide +kernel) (by decide +kernel), rfl, rfl, rfl⟩
theorem k_fl_X7_9 : z_Fl RX7 9 7 2 true (.array .int) := ⟨RX7, TX7, tyX7, z_kX7, by decide, z_in1 181 (by decide +kernel) (by decide +kernel), rfl, rfl, rfl⟩
theorem k_fl_X7_15 : z_Fl RX7 15 7 0 true (.object "CutProofs$Model") := ⟨RX7, TX7, tyX7, z_kX7, by decide, z_in1 179 (by decide +kernel) (by decide +kernel), rfl, rfl, rfl⟩
theorem k_fl_X7_19 : z_Fl RX7 19 7 1 true (.object "CutProofs$CutList") := ⟨RX7, TX7, tyX7, z_kX7, by decide, z_in1 180 (by decide +kernel) (by decide +kernel), rfl, rfl, rfl⟩
theorem k_fl_X7_29 : z_Fl RX7 29 7 3 false .int := ⟨RX7, TX7, tyX7, z_kX7, by decide, z_in1 182 (by decide +kernel) (by decide +kernel), rfl, rfl, rfl⟩
theorem k_fl_X7_33 : z_Fl RX7 33 6 6 false .int := ⟨RX6, TX6, tyX6, z_kX6, by decide, z_in1 66 (by decide +kernel) (by decide +kernel), rfl, rfl, rfl⟩
theorem k_fl_X7_53 : z_Fl RX7 53 6 5 false .int := ⟨RX6, TX6, tyX6, z_kX6, by decide, z_in1 63 (by decide +kernel) (by decide +kernel), rfl, rfl, rfl⟩
theorem k_fl_X7_56 : z_Fl RX7 56 6 3 true (.array (.array .int)) := ⟨RX6, TX6, tyX6, z_kX6, by decide, z_in1 50 (by decide +kernel) (by decide +kernel), rfl, rfl, rfl⟩
theorem k_fl_X7_60 : z_Fl RX7 60 6 4 true (.array .int) := ⟨RX6, TX6, tyX6, z_kX6, by decide, z_in1 55 (by decide +kernel) (by decide +kernel), rfl, rfl, rfl⟩
theorem k_fl_X7_69 : z_Fl RX7 69 4 1 true (.array .int) := ⟨RX4, TX4, tyX4, z_kX4, by decide, z_in1 111 (by decide +kernel) (by decide +kernel), rfl, rfl, rfl⟩
theorem k_fl_X7_74 : z_Fl RX7 74 4 7 false .int := ⟨RX4, TX4, tyX4, z_kX4, by decide, z_in1 134 (by decide +kernel) (by decide +kernel), rfl, rfl, rfl⟩
theorem k_fl_X7_77 : z_Fl RX7 77 4 4 false .int := ⟨RX4, TX4, tyX4, z_kX4, by decide, z_in1 121 (by decide +kernel) (by decide +kernel), rfl, rfl, rfl⟩
theorem k_fl_X7_80 : z_Fl RX7 80 4 0 true (.array .int) := ⟨RX4, TX4, tyX4, z_kX4, by decide, z_in1 104 (by decide +kernel) (by decide +kernel), rfl, rfl, rfl⟩
theorem k_fl_X7_108 : z_Fl RX7 108 6 2 true (.array .long) := ⟨RX6, TX6, tyX6, z_kX6, by decide, z_in1 45 (by decide +kernel) (by decide +kernel), rfl, rfl, rfl⟩
theorem k_fl_X7_114 : z_Fl RX7 114 6 0 true (.array .int) := ⟨RX6, TX6, tyX6, z_kX6, by decide, z_in1 38 (by decide +kernel) (by decide +kernel), rfl, rfl, rfl⟩
theorem k_fl_X7_117 : z_Fl RX7 117 6 1 true (.array .int) := ⟨RX6, TX6, tyX6, z_kX6, by decide, z_in1 42 (by decide +kernel) (by decide +kernel), rfl, rfl, rfl⟩
theorem k_fl_X7_120 : z_Fl RX7 120 4 2 true (.array .int) := ⟨RX4, TX4, tyX4, z_kX4, by decide, z_in1 114 (by decide +kernel) (by decide +kernel), rfl, rfl, rfl⟩
theorem k_fl_X7_123 : z_Fl RX7 123 4 3 true (.array .int) := ⟨RX4, TX4, tyX4, z_kX4, by decide, z_in1 117 (by decide +kernel) (by decide +kernel), rfl, rfl, rfl⟩
theorem k_fl_X8_10 : z_Fl RX8 10 8 0 true (.object "CutProofs$Model") := ⟨RX8, TX8, tyX8, z_kX8, by decide, z_in2 28 (by decide +kernel) (by decide +kernel), rfl, rfl, rfl⟩
theorem k_fl_X8_21 : z_Fl RX8 21 8 1 true (.object "CutProofs$CutList") := ⟨RX8, TX8, tyX8, z_kX8, by decide, z_in2 29 (by decide +kernel) (by decide +kernel), rfl, rfl, rfl⟩
theorem k_fl_X8_30 : z_Fl RX8 30 8 2 true (.object "CutProofs$RoundingSearch") := ⟨RX8, TX8, tyX8, z_kX8, by decide, z_in2 30 (by decide +kernel) (by decide +kernel), rfl, rfl, rfl⟩
theorem k_fl_X8_37 : z_Fl RX8 37 8 3 true (.object "CutProofs$CoverSearch") := ⟨RX8, TX8, tyX8, z_kX8, by decide, z_in2 31 (by decide +kernel) (by decide +kernel), rfl, rfl, rfl⟩
theorem k_fl_X8_44 : z_Fl RX8 44 8 4 true (.object "CutProofs$CliqueSearch") := ⟨RX8, TX8, tyX8, z_kX8, by decide, z_in2 32 (by decide +kernel) (by decide +kernel), rfl, rfl, rfl⟩
theorem k_fl_X8_51 : z_Fl RX8 51 8 5 true (.object "CutProofs$Checker") := ⟨RX8, TX8, tyX8, z_kX8, by decide, z_in2 33 (by decide +kernel) (by decide +kernel), rfl, rfl, rfl⟩
theorem k_fl_X8_58 : z_Fl RX8 58 8 6 true (.object "CutProofs$ChoiceWalk") := ⟨RX8, TX8, tyX8, z_kX8, by decide, z_in2 34 (by decide +kernel) (by decide +kernel), rfl, rfl, rfl⟩
theorem k_fl_X8_66 : z_Fl RX8 66 6 5 false .int := ⟨RX6, TX6, tyX6, z_kX6, by decide, z_in1 60 (by decide +kernel) (by decide +kernel), rfl, rfl, rfl⟩
theorem k_fl_X8_70 : z_Fl RX8 70 5 1 false .int := ⟨RX5, TX5, tyX5, z_kX5, by decide, z_in1 160 (by decide +kernel) (by decide +kernel), rfl, rfl, rfl⟩
theorem k_fl_X8_77 : z_Fl RX8 77 6 6 false .int := ⟨RX6, TX6, tyX6, z_kX6, by decide, z_in1 68 (by decide +kernel) (by decide +kernel), rfl, rfl, rfl⟩
theorem k_fl_X8_91 : z_Fl RX8 91 6 3 true (.array (.array .int)) := ⟨RX6, TX6, tyX6, z_kX6, by decide, z_in1 48 (by decide +kernel) (by decide +kernel), rfl, rfl, rfl⟩
theorem k_fl_X8_95 : z_Fl RX8 95 6 2 true (.array .long) := ⟨RX6, TX6, tyX6, z_kX6, by decide, z_in1 44 (by decide +kernel) (by decide +kernel), rfl, rfl, rfl⟩
theorem k_fl_X8_99 : z_Fl RX8 99 5 2 false .boolean := ⟨RX5, TX5, tyX5, z_kX5, by decide, z_in1 162 (by decide +kernel) (by decide +kernel), rfl, rfl, rfl⟩
theorem k_fl_X8_125 : z_Fl RX8 125 5 0 true (.array (.object "CutProofs$Cut")) := ⟨RX5, TX5, tyX5, z_kX5, by decide, z_in1 158 (by decide +kernel) (by decide +kernel), rfl, rfl, rfl⟩
theorem k_fl_X8_131 : z_Fl RX8 131 4 0 true (.array .int) := ⟨RX4, TX4, tyX4, z_kX4, by decide, z_in1 107 (by decide +kernel) (by decide +kernel), rfl, rfl, rfl⟩
theorem k_fl_X8_136 : z_Fl RX8 136 4 4 false .int := ⟨RX4, TX4, tyX4, z_kX4, by decide, z_in1 124 (by decide +kernel) (by decide +kernel), rfl, rfl, rfl⟩
theorem k_fl_X8_139 : z_Fl RX8 139 4 5 false .int := ⟨RX4, TX4, tyX4, z_kX4, by decide, z_in1 128 (by decide +kernel) (by decide +kernel), rfl, rfl, rfl⟩
theorem k_fl_X8_142 : z_Fl RX8 142 4 6 false .int := ⟨RX4, TX4, tyX4, z_kX4, by decide, z_in1 131 (by decide +kernel) (by decide +kernel), rfl, rfl, rfl⟩
theorem k_fl_X9_7 : z_Fl RX9 7 9 1 true (.array .int) := ⟨RX9, TX9, tyX9, z_kX9, by decide, z_in4 31 (by decide +kernel) (by decide +kernel), rfl, rfl, rfl⟩
theorem k_fl_X9_13 : z_Fl RX9 13 9 2 true (.array .int) := ⟨RX9, TX9, tyX9, z_kX9, by decide, z_in4 32 (by decide +kernel) (by decide +kernel), rfl, rfl, rfl⟩
theorem k_fl_X9_16 : z_Fl RX9 16 9 3 true (.array .long) := ⟨RX9, TX9, tyX9, z_kX9, by decide, z_in4 33 (by decide +kernel) (by decide +kernel), rfl, rfl, rfl⟩
theorem k_fl_X9_20 : z_Fl RX9 20 9 5 true (.array .int) := ⟨RX9, TX9, tyX9, z_kX9, by decide, z_in4 35 (by decide +kernel) (by decide +kernel), rfl, rfl, rfl⟩
theorem k_fl_X9_23 : z_Fl RX9 23 9 6 true (.array .int) := ⟨RX9, TX9, tyX9, z_kX9, by decide, z_in4 36 (by decide +kernel) (by decide +kernel), rfl, rfl, rfl⟩
theorem k_fl_X9_26 : z_Fl RX9 26 9 8 true (.array .long) := ⟨RX9, TX9, tyX9, z_kX9, by decide, z_in4 38 (by decide +kernel) (by decide +kernel), rfl, rfl, rfl⟩
theorem k_fl_X9_29 : z_Fl RX9 29 9 9 true (.array .long) := ⟨RX9, TX9, tyX9, z_kX9, by decide, z_in4 39 (by decide +kernel) (by decide +kernel), rfl, rfl, rfl⟩
theorem k_fl_X9_32 : z_Fl RX9 32 9 10 true (.array .int) := ⟨RX9, TX9, tyX9, z_kX9, by decide, z_in4 40 (by decide +kernel) (by decide +kernel), rfl, rfl, rfl⟩
theorem k_fl_X9_35 : z_Fl RX9 35 9 11 true (.array .int) := ⟨RX9, TX9, tyX9, z_kX9, by decide, z_in4 41 (by decide +kernel) (by decide +kernel), rfl, rfl, rfl⟩
theorem k_fl_X9_38 : z_Fl RX9 38 9 12 true (.array .int) := ⟨RX9, TX9, tyX9, z_kX9, by decide, z_in4 42 (by decide +kernel) (by decide +kernel), rfl, rfl, rfl⟩
theorem k_fl_X9_41 : z_Fl RX9 41 9 13 false .int := ⟨RX9, TX9, tyX9, z_kX9, by decide, z_in4 43 (by decide +kernel) (by decide +kernel), rfl, rfl, rfl⟩
theorem k_fl_X9_45 : z_Fl RX9 45 9 16 true (.array .long) := ⟨RX9, TX9, tyX9, z_kX9, by decide, z_in4 46 (by decide +kernel) (by decide +kernel), rfl, rfl, rfl⟩
theorem k_fl_X9_48 : z_Fl RX9 48 9 18 true (.array .int) := ⟨RX9, TX9, tyX9, z_kX9, by decide, z_in4 48 (by decide +kernel) (by decide +kernel), rfl, rfl, rfl⟩
theorem k_fl_X9_51 : z_Fl RX9 51 9 19 true (.array .int) := ⟨RX9, TX9, tyX9, z_kX9, by decide, z_in4 49 (by decide +kernel) (by decide +kernel), rfl, rfl, rfl⟩
theorem k_fl_X9_54 : z_Fl RX9 54 9 20 true (.array .int) := ⟨RX9, TX9, tyX9, z_kX9, by decide, z_in4 50 (by decide +kernel) (by decide +kernel), rfl, rfl, rfl⟩
theorem k_fl_X9_57 : z_Fl RX9 57 9 21 true (.array .int) := ⟨RX9, TX9, tyX9, z_kX9, by decide, z_in4 51 (by decide +kernel) (by decide +kernel), rfl, rfl, rfl⟩
theorem k_fl_X9_60 : z_Fl RX9 60 9 24 true (.array .int) := ⟨RX9, TX9, tyX9, z_kX9, by decide, z_in4 54 (by decide +kernel) (by decide +kernel), rfl, rfl, rfl⟩
theorem k_fl_X9_63 : z_Fl RX9 63 9 15 false .int := ⟨RX9, TX9, tyX9, z_kX9, by decide, z_in4 45 (by decide +kernel) (by decide +kernel), rfl, rfl, rfl⟩
theorem k_fl_X9_66 : z_Fl RX9 66 9 0 false .int := ⟨RX9, TX9, tyX9, z_kX9, by decide, z_in4 30 (by decide +kernel) (by decide +kernel), rfl, rfl, rfl⟩
theorem k_fl_X9_69 : z_Fl RX9 69 9 7 false .int := ⟨RX9, TX9, tyX9, z_kX9, by decide, z_in4 37 (by decide +kernel) (by decide +kernel), rfl, rfl, rfl⟩
theorem k_fl_X9_72 : z_Fl RX9 72 9 4 false .int := ⟨RX9, TX9, tyX9, z_kX9, by decide, z_in4 34 (by decide +kernel) (by decide +kernel), rfl, rfl, rfl⟩
theorem k_fl_X9_84 : z_Fl RX9 84 9 17 false .long := ⟨RX9, TX9, tyX9, z_kX9, by decide, z_in4 47 (by decide +kernel) (by decide +kernel), rfl, rfl, rfl⟩
theorem k_fl_X9_92 : z_Fl RX9 92 9 14 false .int := ⟨RX9, TX9, tyX9, z_kX9, by decide, z_in4 44 (by decide +kernel) (by decide +kernel), rfl, rfl, rfl⟩
theorem k_fl_X9_124 : z_Fl RX9 124 9 22 false .int := ⟨RX9, TX9, tyX9, z_kX9, by decide, z_in4 52 (by decide +kernel) (by decide +kernel), rfl, rfl, rfl⟩
theorem k_fl_X9_127 : z_Fl RX9 127 9 23 false .int := ⟨RX9, TX9, tyX9, z_kX9, by decide, z_in4 53 (by decide +kernel) (by decide +kernel), rfl, rfl, rfl⟩
theorem k_ml_L_7 : Cond.methodLink RL 7 yX8_cut ∈ z_tb := z_in3 158 (by decide +kernel) (by decide +kernel)
theorem k_ml_L_17 : Cond.methodLink RL 17 yX8_strength ∈ z_tb := z_in4 9 (by decide +kernel) (by decide +kernel)
theorem k_ml_L_21 : Cond.methodLink RL 21 yX8_init ∈ z_tb := z_in1 21 (by decide +kernel) (by decide +kernel)
theorem k_ml_L_24 : Cond.methodLink RL 24 yX9_init ∈ z_tb := z_in4 26 (by decide +kernel) (by decide +kernel)
theorem k_ml_L_25 : Cond.methodLink RL 25 yX8_name ∈ z_tb := z_in2 50 (by decide +kernel) (by decide +kernel)
theorem k_ml_L_29 : Cond.methodLink RL 29 yX9_name ∈ z_tb := z_in4 110 (by decide +kernel) (by decide +kernel)
theorem k_ml_L_30 : Cond.methodLink RL 30 yX8_row ∈ z_tb := z_in2 61 (by decide +kernel) (by decide +kernel)
theorem k_ml_L_34 : Cond.methodLink RL 34 yX9_row ∈ z_tb := z_in4 114 (by decide +kernel) (by decide +kernel)
theorem k_ml_L_35 : Cond.methodLink RL 35 yX8_factor ∈ z_tb := z_in2 72 (by decide +kernel) (by decide +kernel)
theorem k_ml_L_38 : Cond.methodLink RL 38 yX9_factor ∈ z_tb := z_in4 118 (by decide +kernel) (by decide +kernel)
theorem k_ml_L_39 : Cond.methodLink RL 39 yX8_point ∈ z_tb := z_in2 84 (by decide +kernel) (by decide +kernel)
theorem k_ml_L_42 : Cond.methodLink RL 42 yX9_point ∈ z_tb := z_in4 130 (by decide +kernel) (by decide +kernel)
theorem k_ml_L_43 : Cond.methodLink RL 43 yX8_find ∈ z_tb := z_in2 88 (by decide +kernel) (by decide +kernel)
theorem k_ml_L_46 : Cond.methodLink RL 46 yX9_find ∈ z_tb := z_in4 135 (by decide +kernel) (by decide +kernel)
theorem k_ml_L_47 : Cond.methodLink RL 47 yX8_closed ∈ z_tb := z_in3 18 (by decide +kernel) (by decide +kernel)
theorem k_ml_L_51 : Cond.methodLink RL 51 yX9_closed ∈ z_tb := z_in4 226 (by decide +kernel) (by decide +kernel)
theorem k_ml_L_52 : Cond.methodLink RL 52 yL_cut ∈ z_tb := z_in3 153 (by decide +kernel) (by decide +kernel)
theorem k_ml_L_57 : Cond.methodLink RL 57 yX9_cut ∈ z_tb := z_in4 230 (by decide +kernel) (by decide +kernel)
theorem k_ml_L_58 : Cond.methodLink RL 58 yX9_thrown ∈ z_tb := z_in4 106 (by decide +kernel) (by decide +kernel)
theorem k_ml_L_61 : Cond.methodLink RL 61 yX8_proof ∈ z_tb := z_in3 22 (by decide +kernel) (by decide +kernel)
theorem k_ml_L_64 : Cond.methodLink RL 64 yX9_proof ∈ z_tb := z_in4 238 (by decide +kernel) (by decide +kernel)
theorem k_ml_L_65 : Cond.methodLink RL 65 yX8_plant ∈ z_tb := z_in3 38 (by decide +kernel) (by decide +kernel)
theorem k_ml_L_69 : Cond.methodLink RL 69 yX9_plant ∈ z_tb := z_in5 6 (by decide +kernel) (by decide +kernel)
theorem k_ml_L_70 : Cond.methodLink RL 70 yX8_check ∈ z_tb := z_in3 50 (by decide +kernel) (by decide +kernel)
theorem k_ml_L_73 : Cond.methodLink RL 73 yX9_check ∈ z_tb := z_in5 10 (by decide +kernel) (by decide +kernel)
theorem k_ml_L_74 : Cond.methodLink RL 74 yL_strength ∈ z_tb := z_in4 6 (by decide +kernel) (by decide +kernel)
theorem k_ml_L_77 : Cond.methodLink RL 77 yX9_strength ∈ z_tb := z_in5 30 (by decide +kernel) (by decide +kernel)
theorem k_ml_L_78 : Cond.methodLink RL 78 yX8_best ∈ z_tb := z_in3 90 (by decide +kernel) (by decide +kernel)
theorem k_ml_L_81 : Cond.methodLink RL 81 yX9_best ∈ z_tb := z_in5 38 (by decide +kernel) (by decide +kernel)
theorem k_ml_L_82 : Cond.methodLink RL 82 yX8_holds ∈ z_tb := z_in3 95 (by decide +kernel) (by decide +kernel)
theorem k_ml_L_85 : Cond.methodLink RL 85 yX9_holds ∈ z_tb := z_in5 42 (by decide +kernel) (by decide +kernel)
theorem k_ml_L_86 : Cond.methodLink RL 86 yX8_plans ∈ z_tb := z_in3 125 (by decide +kernel) (by decide +kernel)
theorem k_ml_L_89 : Cond.methodLink RL 89 yX9_plans ∈ z_tb := z_in5 63 (by decide +kernel) (by decide +kernel)
theorem k_ml_L_90 : Cond.methodLink RL 90 yX8_turn ∈ z_tb := z_in3 129 (by decide +kernel) (by decide +kernel)
theorem k_ml_L_93 : Cond.methodLink RL 93 yX9_turn ∈ z_tb := z_in5 67 (by decide +kernel) (by decide +kernel)
theorem k_ml_L_94 : Cond.methodLink RL 94 yX8_told ∈ z_tb := z_in3 137 (by decide +kernel) (by decide +kernel)
theorem k_ml_L_97 : Cond.methodLink RL 97 yX9_told ∈ z_tb := z_in5 71 (by decide +kernel) (by decide +kernel)
theorem k_ml_L_98 : Cond.methodLink RL 98 yX8_clear ∈ z_tb := z_in3 149 (by decide +kernel) (by decide +kernel)
theorem k_ml_L_101 : Cond.methodLink RL 101 yX9_clear ∈ z_tb := z_in5 75 (by decide +kernel) (by decide +kernel)
theorem k_ml_X0_21 : Cond.methodLink RX0 21 yX0_acceptsRounding ∈ z_tb := z_in3 58 (by decide +kernel) (by decide +kernel)
theorem k_ml_X0_25 : Cond.methodLink RX0 25 yX0_acceptsCover ∈ z_tb := z_in3 73 (by decide +kernel) (by decide +kernel)
theorem k_ml_X0_28 : Cond.methodLink RX0 28 yX0_acceptsClique ∈ z_tb := z_in3 85 (by decide +kernel) (by decide +kernel)
theorem k_ml_X0_34 : Cond.methodLink RX0 34 yX0_isTakenBelowZero ∈ z_tb := z_in3 62 (by decide +kernel) (by decide +kernel)
theorem k_ml_X0_55 : Cond.methodLink RX0 55 yX0_comingFactor ∈ z_tb := z_in3 66 (by decide +kernel) (by decide +kernel)
theorem k_ml_X0_74 : Cond.methodLink RX0 74 yJ9_floorDiv_f86c9 ∈ z_tb := z_in3 70 (by decide +kernel) (by decide +kernel)
theorem k_ml_X0_86 : Cond.methodLink RX0 86 yX6_hasRow ∈ z_tb := z_in3 77 (by decide +kernel) (by decide +kernel)
theorem k_ml_X0_90 : Cond.methodLink RX0 90 yX6_least ∈ z_tb := z_in3 78 (by decide +kernel) (by decide +kernel)
theorem k_ml_X0_94 : Cond.methodLink RX0 94 yX6_isBinary ∈ z_tb := z_in3 79 (by decide +kernel) (by decide +kernel)
theorem k_ml_X0_97 : Cond.methodLink RX0 97 yX0_sumOver ∈ z_tb := z_in3 80 (by decide +kernel) (by decide +kernel)
theorem k_ml_X0_105 : Cond.methodLink RX0 105 yX6_clashAnywhere ∈ z_tb := z_in3 89 (by decide +kernel) (by decide +kernel)
theorem k_ml_X1_22 : Cond.methodLink RX1 22 yJ7_fill_53178 ∈ z_tb := z_in3 108 (by decide +kernel) (by decide +kernel)
theorem k_ml_X1_37 : Cond.methodLink RX1 37 yX1_choose ∈ z_tb := z_in3 109 (by decide +kernel) (by decide +kernel)
theorem k_ml_X2_23 : Cond.methodLink RX2 23 yX2_readBinaries ∈ z_tb := z_in2 227 (by decide +kernel) (by decide +kernel)
theorem k_ml_X2_26 : Cond.methodLink RX2 26 yX2_readClashes ∈ z_tb := z_in2 232 (by decide +kernel) (by decide +kernel)
theorem k_ml_X2_35 : Cond.methodLink RX2 35 yX2_isWidestClique ∈ z_tb := z_in3 7 (by decide +kernel) (by decide +kernel)
theorem k_ml_X2_39 : Cond.methodLink RX2 39 yX2_tryClique ∈ z_tb := z_in3 12 (by decide +kernel) (by decide +kernel)
theorem k_ml_X2_45 : Cond.methodLink RX2 45 yX6_isBinary ∈ z_tb := z_in2 231 (by decide +kernel) (by decide +kernel)
theorem k_ml_X2_48 : Cond.methodLink RX2 48 yJ7_fill_53178 ∈ z_tb := z_in2 236 (by decide +kernel) (by decide +kernel)
theorem k_ml_X2_58 : Cond.methodLink RX2 58 yX6_clashAnywhere ∈ z_tb := z_in2 238 (by decide +kernel) (by decide +kernel)
theorem k_ml_X2_61 : Cond.methodLink RX2 61 yJ6_bitCount_0f7a4 ∈ z_tb := z_in3 11 (by decide +kernel) (by decide +kernel)
theorem k_ml_X2_67 : Cond.methodLink RX2 67 yX5_newDraft ∈ z_tb := z_in3 16 (by decide +kernel) (by decide +kernel)
theorem k_ml_X2_81 : Cond.methodLink RX2 81 yX5_settleDraft ∈ z_tb := z_in3 17 (by decide +kernel) (by decide +kernel)
theorem k_ml_X3_38 : Cond.methodLink RX3 38 yX3_readLiterals ∈ z_tb := z_in2 174 (by decide +kernel) (by decide +kernel)
theorem k_ml_X3_45 : Cond.methodLink RX3 45 yX3_isMinimalCover ∈ z_tb := z_in2 189 (by decide +kernel) (by decide +kernel)
theorem k_ml_X3_49 : Cond.methodLink RX3 49 yX3_tryCover ∈ z_tb := z_in2 198 (by decide +kernel) (by decide +kernel)
theorem k_ml_X3_66 : Cond.methodLink RX3 66 yX6_isBinary ∈ z_tb := z_in2 178 (by decide +kernel) (by decide +kernel)
theorem k_ml_X3_69 : Cond.methodLink RX3 69 yX6_least ∈ z_tb := z_in2 182 (by decide +kernel) (by decide +kernel)
theorem k_ml_X3_73 : Cond.methodLink RX3 73 yJ9_abs_0f7a4 ∈ z_tb := z_in2 186 (by decide +kernel) (by decide +kernel)
theorem k_ml_X3_83 : Cond.methodLink RX3 83 yJ9_min_7cf53 ∈ z_tb := z_in2 195 (by decide +kernel) (by decide +kernel)
theorem k_ml_X3_86 : Cond.methodLink RX3 86 yX3_lift ∈ z_tb := z_in2 202 (by decide +kernel) (by decide +kernel)
theorem k_ml_X3_89 : Cond.methodLink RX3 89 yX5_newDraft ∈ z_tb := z_in2 221 (by decide +kernel) (by decide +kernel)
theorem k_ml_X3_100 : Cond.methodLink RX3 100 yJ6_bitCount_0f7a4 ∈ z_tb := z_in2 206 (by decide +kernel) (by decide +kernel)
theorem k_ml_X3_110 : Cond.methodLink RX3 110 yX5_settleDraft ∈ z_tb := z_in2 222 (by decide +kernel) (by decide +kernel)
theorem k_ml_X3_114 : Cond.methodLink RX3 114 yJ7_fill_53178 ∈ z_tb := z_in2 212 (by decide +kernel) (by decide +kernel)
theorem k_ml_X3_120 : Cond.methodLink RX3 120 yX3_giveAlpha ∈ z_tb := z_in2 213 (by decide +kernel) (by decide +kernel)
theorem k_ml_X3_124 : Cond.methodLink RX3 124 yX3_greatestSum ∈ z_tb := z_in2 217 (by decide +kernel) (by decide +kernel)
theorem k_ml_X4_24 : Cond.methodLink RX4 24 yJ7_fill_53178 ∈ z_tb := z_in2 116 (by decide +kernel) (by decide +kernel)
theorem k_ml_X5_30 : Cond.methodLink RX5 30 yX4_begin ∈ z_tb := z_in2 112 (by decide +kernel) (by decide +kernel)
theorem k_ml_X5_34 : Cond.methodLink RX5 34 yX6_scaledStrength ∈ z_tb := z_in2 145 (by decide +kernel) (by decide +kernel)
theorem k_ml_X5_40 : Cond.methodLink RX5 40 yX5_isToldAlready ∈ z_tb := z_in2 150 (by decide +kernel) (by decide +kernel)
theorem k_ml_X5_47 : Cond.methodLink RX5 47 yX4_saysTheSameAs ∈ z_tb := z_in2 154 (by decide +kernel) (by decide +kernel)
theorem k_ml_X6_37 : Cond.methodLink RX6 37 yJ7_fill_53178 ∈ z_tb := z_in2 69 (by decide +kernel) (by decide +kernel)
theorem k_ml_X6_43 : Cond.methodLink RX6 43 yX6_clashIn ∈ z_tb := z_in3 2 (by decide +kernel) (by decide +kernel)
theorem k_ml_X6_47 : Cond.methodLink RX6 47 yX6_least ∈ z_tb := z_in3 6 (by decide +kernel) (by decide +kernel)
theorem k_ml_X7_23 : Cond.methodLink RX7 23 yJ7_fill_53178 ∈ z_tb := z_in2 96 (by decide +kernel) (by decide +kernel)
theorem k_ml_X7_38 : Cond.methodLink RX7 38 yX7_moveSumTo ∈ z_tb := z_in2 97 (by decide +kernel) (by decide +kernel)
theorem k_ml_X7_42 : Cond.methodLink RX7 42 yX7_tryHalves ∈ z_tb := z_in2 104 (by decide +kernel) (by decide +kernel)
theorem k_ml_X7_46 : Cond.methodLink RX7 46 yX7_tryRounded ∈ z_tb := z_in2 162 (by decide +kernel) (by decide +kernel)
theorem k_ml_X7_63 : Cond.methodLink RX7 63 yX5_newDraft ∈ z_tb := z_in2 108 (by decide +kernel) (by decide +kernel)
theorem k_ml_X7_82 : Cond.methodLink RX7 82 yJ9_floorMod_7cf53 ∈ z_tb := z_in2 117 (by decide +kernel) (by decide +kernel)
theorem k_ml_X7_88 : Cond.methodLink RX7 88 yX7_isHighNearer ∈ z_tb := z_in2 120 (by decide +kernel) (by decide +kernel)
theorem k_ml_X7_91 : Cond.methodLink RX7 91 yX7_takeHigh ∈ z_tb := z_in2 126 (by decide +kernel) (by decide +kernel)
theorem k_ml_X7_95 : Cond.methodLink RX7 95 yX7_takeLow ∈ z_tb := z_in2 130 (by decide +kernel) (by decide +kernel)
theorem k_ml_X7_98 : Cond.methodLink RX7 98 yX7_divideAndSettle ∈ z_tb := z_in2 134 (by decide +kernel) (by decide +kernel)
theorem k_ml_X7_102 : Cond.methodLink RX7 102 yX7_isLowCheaper ∈ z_tb := z_in2 166 (by decide +kernel) (by decide +kernel)
theorem k_ml_X7_126 : Cond.methodLink RX7 126 yJ9_floorDiv_7cf53 ∈ z_tb := z_in2 138 (by decide +kernel) (by decide +kernel)
theorem k_ml_X7_129 : Cond.methodLink RX7 129 yX5_settleDraft ∈ z_tb := z_in2 141 (by decide +kernel) (by decide +kernel)
theorem k_ml_X8_18 : Cond.methodLink RX8 18 yX5_init ∈ z_tb := z_in1 90 (by decide +kernel) (by decide +kernel)
theorem k_ml_X8_27 : Cond.methodLink RX8 27 yX7_init ∈ z_tb := z_in1 175 (by decide +kernel) (by decide +kernel)
theorem k_ml_X8_36 : Cond.methodLink RX8 36 yX3_init ∈ z_tb := z_in1 194 (by decide +kernel) (by decide +kernel)
theorem k_ml_X8_43 : Cond.methodLink RX8 43 yX2_init ∈ z_tb := z_in1 225 (by decide +kernel) (by decide +kernel)
theorem k_ml_X8_50 : Cond.methodLink RX8 50 yX0_init ∈ z_tb := z_in2 4 (by decide +kernel) (by decide +kernel)
theorem k_ml_X8_57 : Cond.methodLink RX8 57 yX1_init ∈ z_tb := z_in2 14 (by decide +kernel) (by decide +kernel)
theorem k_ml_X8_62 : Cond.methodLink RX8 62 yX8_isBeyond ∈ z_tb := z_in2 54 (by decide +kernel) (by decide +kernel)
theorem k_ml_X8_73 : Cond.methodLink RX8 73 yX6_addName ∈ z_tb := z_in2 57 (by decide +kernel) (by decide +kernel)
theorem k_ml_X8_80 : Cond.methodLink RX8 80 yX6_addRow ∈ z_tb := z_in2 65 (by decide +kernel) (by decide +kernel)
theorem k_ml_X8_84 : Cond.methodLink RX8 84 yX6_hasRow ∈ z_tb := z_in2 76 (by decide +kernel) (by decide +kernel)
theorem k_ml_X8_88 : Cond.methodLink RX8 88 yX6_hasName ∈ z_tb := z_in2 80 (by decide +kernel) (by decide +kernel)
theorem k_ml_X8_103 : Cond.methodLink RX8 103 yX7_seekHalves ∈ z_tb := z_in2 92 (by decide +kernel) (by decide +kernel)
theorem k_ml_X8_106 : Cond.methodLink RX8 106 yX7_seekRounded ∈ z_tb := z_in2 158 (by decide +kernel) (by decide +kernel)
theorem k_ml_X8_109 : Cond.methodLink RX8 109 yX3_seekCovers ∈ z_tb := z_in2 170 (by decide +kernel) (by decide +kernel)
theorem k_ml_X8_112 : Cond.methodLink RX8 112 yX2_seekCliques ∈ z_tb := z_in2 223 (by decide +kernel) (by decide +kernel)
theorem k_ml_X8_115 : Cond.methodLink RX8 115 yX5_has ∈ z_tb := z_in3 26 (by decide +kernel) (by decide +kernel)
theorem k_ml_X8_150 : Cond.methodLink RX8 150 yX8_refusalOfShown ∈ z_tb := z_in3 30 (by decide +kernel) (by decide +kernel)
theorem k_ml_X8_154 : Cond.methodLink RX8 154 yX4_shown ∈ z_tb := z_in3 34 (by decide +kernel) (by decide +kernel)
theorem k_ml_X8_157 : Cond.methodLink RX8 157 yX8_refusalOfPlanted ∈ z_tb := z_in3 42 (by decide +kernel) (by decide +kernel)
theorem k_ml_X8_160 : Cond.methodLink RX8 160 yX4_showOtherwise ∈ z_tb := z_in3 46 (by decide +kernel) (by decide +kernel)
theorem k_ml_X8_164 : Cond.methodLink RX8 164 yX0_accepts ∈ z_tb := z_in3 54 (by decide +kernel) (by decide +kernel)
theorem k_ml_X8_170 : Cond.methodLink RX8 170 yX6_scaledStrength ∈ z_tb := z_in3 94 (by decide +kernel) (by decide +kernel)
theorem k_ml_X8_174 : Cond.methodLink RX8 174 yX8_commonWithScale ∈ z_tb := z_in4 14 (by decide +kernel) (by decide +kernel)
theorem k_ml_X8_180 : Cond.methodLink RX8 180 yX6_choices ∈ z_tb := z_in3 99 (by decide +kernel) (by decide +kernel)
theorem k_ml_X8_186 : Cond.methodLink RX8 186 yX1_begin ∈ z_tb := z_in3 104 (by decide +kernel) (by decide +kernel)
theorem k_ml_X8_189 : Cond.methodLink RX8 189 yX1_isPlan ∈ z_tb := z_in3 113 (by decide +kernel) (by decide +kernel)
theorem k_ml_X8_193 : Cond.methodLink RX8 193 yX1_keeps ∈ z_tb := z_in3 117 (by decide +kernel) (by decide +kernel)
theorem k_ml_X8_196 : Cond.methodLink RX8 196 yX1_advance ∈ z_tb := z_in3 121 (by decide +kernel) (by decide +kernel)
theorem k_ml_X8_199 : Cond.methodLink RX8 199 yX5_ageAll ∈ z_tb := z_in3 133 (by decide +kernel) (by decide +kernel)
theorem k_ml_X8_203 : Cond.methodLink RX8 203 yX8_countBroken ∈ z_tb := z_in3 141 (by decide +kernel) (by decide +kernel)
theorem k_ml_X8_206 : Cond.methodLink RX8 206 yX8_countAccepted ∈ z_tb := z_in3 145 (by decide +kernel) (by decide +kernel)
theorem k_ml_X8_209 : Cond.methodLink RX8 209 yJ9_abs_067f4 ∈ z_tb := z_in4 18 (by decide +kernel) (by decide +kernel)
theorem k_ml_X8_214 : Cond.methodLink RX8 214 yJ9_max_f86c9 ∈ z_tb := z_in4 21 (by decide +kernel) (by decide +kernel)
theorem k_ml_X9_75 : Cond.methodLink RX9 75 yX9_isRow ∈ z_tb := z_in4 122 (by decide +kernel) (by decide +kernel)
theorem k_ml_X9_79 : Cond.methodLink RX9 79 yX9_isName ∈ z_tb := z_in4 126 (by decide +kernel) (by decide +kernel)
theorem k_ml_X9_88 : Cond.methodLink RX9 88 yX9_isThere ∈ z_tb := z_in4 168 (by decide +kernel) (by decide +kernel)
theorem k_ml_X9_95 : Cond.methodLink RX9 95 yJ9_floorDiv_f86c9 ∈ z_tb := z_in4 163 (by decide +kernel) (by decide +kernel)
theorem k_ml_X9_101 : Cond.methodLink RX9 101 yX9_emptied ∈ z_tb := z_in4 143 (by decide +kernel) (by decide +kernel)
theorem k_ml_X9_104 : Cond.methodLink RX9 104 yX9_takeRow ∈ z_tb := z_in4 147 (by decide +kernel) (by decide +kernel)
theorem k_ml_X9_108 : Cond.methodLink RX9 108 yX9_takeHigh ∈ z_tb := z_in4 151 (by decide +kernel) (by decide +kernel)
theorem k_ml_X9_112 : Cond.methodLink RX9 112 yX9_takeLow ∈ z_tb := z_in4 155 (by decide +kernel) (by decide +kernel)
theorem k_ml_X9_115 : Cond.methodLink RX9 115 yX9_divide ∈ z_tb := z_in4 159 (by decide +kernel) (by decide +kernel)
theorem k_ml_X9_118 : Cond.methodLink RX9 118 yX9_offer ∈ z_tb := z_in4 164 (by decide +kernel) (by decide +kernel)
theorem k_ml_X9_121 : Cond.methodLink RX9 121 yJ9_floorMod_f86c9 ∈ z_tb := z_in4 176 (by decide +kernel) (by decide +kernel)
theorem k_ml_X9_130 : Cond.methodLink RX9 130 yX9_isBinary ∈ z_tb := z_in4 187 (by decide +kernel) (by decide +kernel)
theorem k_ml_X9_133 : Cond.methodLink RX9 133 yX9_least ∈ z_tb := z_in4 191 (by decide +kernel) (by decide +kernel)
theorem k_ml_X9_137 : Cond.methodLink RX9 137 yX9_weightOf ∈ z_tb := z_in4 199 (by decide +kernel) (by decide +kernel)
theorem k_ml_X9_141 : Cond.methodLink RX9 141 yJ9_max_7cf53 ∈ z_tb := z_in4 211 (by decide +kernel) (by decide +kernel)
theorem k_ml_X9_144 : Cond.methodLink RX9 144 yX9_greatest ∈ z_tb := z_in4 207 (by decide +kernel) (by decide +kernel)
theorem k_ml_X9_147 : Cond.methodLink RX9 147 yX9_findLiterals ∈ z_tb := z_in4 183 (by decide +kernel) (by decide +kernel)
theorem k_ml_X9_150 : Cond.methodLink RX9 150 yX9_isCover ∈ z_tb := z_in4 195 (by decide +kernel) (by decide +kernel)
theorem k_ml_X9_153 : Cond.methodLink RX9 153 yX9_cover ∈ z_tb := z_in4 203 (by decide +kernel) (by decide +kernel)
theorem k_ml_X9_156 : Cond.methodLink RX9 156 yX9_clash ∈ z_tb := z_in4 222 (by decide +kernel) (by decide +kernel)
theorem k_ml_X9_160 : Cond.methodLink RX9 160 yX9_isClique ∈ z_tb := z_in4 218 (by decide +kernel) (by decide +kernel)
theorem k_ml_X9_163 : Cond.methodLink RX9 163 yX9_halves ∈ z_tb := z_in4 139 (by decide +kernel) (by decide +kernel)
theorem k_ml_X9_166 : Cond.methodLink RX9 166 yX9_rounded ∈ z_tb := z_in4 172 (by decide +kernel) (by decide +kernel)
theorem k_ml_X9_169 : Cond.methodLink RX9 169 yX9_covers ∈ z_tb := z_in4 179 (by decide +kernel) (by decide +kernel)
theorem k_ml_X9_172 : Cond.methodLink RX9 172 yX9_cliques ∈ z_tb := z_in4 214 (by decide +kernel) (by decide +kernel)
theorem k_ml_X9_175 : Cond.methodLink RX9 175 yX9_isCut ∈ z_tb := z_in4 234 (by decide +kernel) (by decide +kernel)
theorem k_ml_X9_178 : Cond.methodLink RX9 178 yX9_placeOf ∈ z_tb := z_in5 2 (by decide +kernel) (by decide +kernel)
theorem k_ml_X9_182 : Cond.methodLink RX9 182 yX9_acceptsSum ∈ z_tb := z_in5 18 (by decide +kernel) (by decide +kernel)
theorem k_ml_X9_185 : Cond.methodLink RX9 185 yX9_acceptsCover ∈ z_tb := z_in5 22 (by decide +kernel) (by decide +kernel)
theorem k_ml_X9_188 : Cond.methodLink RX9 188 yX9_acceptsClique ∈ z_tb := z_in5 26 (by decide +kernel) (by decide +kernel)
theorem k_ml_X9_191 : Cond.methodLink RX9 191 yX9_accepts ∈ z_tb := z_in5 14 (by decide +kernel) (by decide +kernel)
theorem k_ml_X9_194 : Cond.methodLink RX9 194 yX9_over ∈ z_tb := z_in5 34 (by decide +kernel) (by decide +kernel)
theorem k_ml_X9_200 : Cond.methodLink RX9 200 yX9_isPlan ∈ z_tb := z_in5 55 (by decide +kernel) (by decide +kernel)
theorem k_ml_X9_203 : Cond.methodLink RX9 203 yX9_goesOn ∈ z_tb := z_in5 59 (by decide +kernel) (by decide +kernel)
theorem k_ml_X9_206 : Cond.methodLink RX9 206 yX9_tooMany ∈ z_tb := z_in5 46 (by decide +kernel) (by decide +kernel)
theorem k_ml_X9_209 : Cond.methodLink RX9 209 yX9_count ∈ z_tb := z_in5 51 (by decide +kernel) (by decide +kernel)
def m_J6_bitCount_0f7a4 : ZD := (yJ6_bitCount_0f7a4, cJ6_bitCount_0f7a4, 1, (some .int), { frames := 0, cells := 0, slots := 0, locals := 0 })
theorem k_J6_bitCount_0f7a4 : z_Cs m_J6_bitCount_0f7a4 1 := ⟨z_in2 208 (by decide +kernel) (by decide +kernel), z_in2 207 (by decide +kernel) (by decide +kernel), z_in1 13 (by decide +kernel) (by decide +kernel), by decide +kernel, by decide +kernel⟩
def m_J7_fill_53178 : ZD := (yJ7_fill_53178, cJ7_fill_53178, 4, none, { frames := 0, cells := 0, slots := 0, locals := 0 })
theorem k_J7_fill_53178 : z_Cs m_J7_fill_53178 2 := ⟨z_in2 71 (by decide +kernel) (by decide +kernel), z_in2 70 (by decide +kernel) (by decide +kernel), z_in1 11 (by decide +kernel) (by decide +kernel), by decide +kernel, by decide +kernel⟩
def m_J9_abs_067f4 : ZD := (yJ9_abs_067f4, cJ9_abs_067f4, 2, (some .long), { frames := 0, cells := 0, slots := 0, locals := 0 })
theorem k_J9_abs_067f4 : z_Cs m_J9_abs_067f4 1 := ⟨z_in4 20 (by decide +kernel) (by decide +kernel), z_in4 19 (by decide +kernel) (by decide +kernel), z_in1 12 (by decide +kernel) (by decide +kernel), by decide +kernel, by decide +kernel⟩
def m_J9_abs_0f7a4 : ZD := (yJ9_abs_0f7a4, cJ9_abs_0f7a4, 1, (some .int), { frames := 0, cells := 0, slots := 0, locals := 0 })
theorem k_J9_abs_0f7a4 : z_Cs m_J9_abs_0f7a4 1 := ⟨z_in2 188 (by decide +kernel) (by decide +kernel), z_in2 187 (by decide +kernel) (by decide +kernel), z_in1 12 (by decide +kernel) (by decide +kernel), by decide +kernel, by decide +kernel⟩
def m_J9_floorDiv_7cf53 : ZD := (yJ9_floorDiv_7cf53, cJ9_floorDiv_7cf53, 3, (some .int), { frames := 0, cells := 0, slots := 0, locals := 0 })
theorem k_J9_floorDiv_7cf53 : z_Cs m_J9_floorDiv_7cf53 2 := ⟨z_in2 140 (by decide +kernel) (by decide +kernel), z_in2 139 (by decide +kernel) (by decide +kernel), z_in1 12 (by decide +kernel) (by decide +kernel), by decide +kernel, by decide +kernel⟩
def m_J9_floorDiv_f86c9 : ZD := (yJ9_floorDiv_f86c9, cJ9_floorDiv_f86c9, 6, (some .long), { frames := 0, cells := 0, slots := 0, locals := 0 })
theorem k_J9_floorDiv_f86c9 : z_Cs m_J9_floorDiv_f86c9 2 := ⟨z_in3 72 (by decide +kernel) (by decide +kernel), z_in3 71 (by decide +kernel) (by decide +kernel), z_in1 12 (by decide +kernel) (by decide +kernel), by decide +kernel, by decide +kernel⟩
def m_J9_floorMod_7cf53 : ZD := (yJ9_floorMod_7cf53, cJ9_floorMod_7cf53, 3, (some .int), { frames := 0, cells := 0, slots := 0, locals := 0 })
theorem k_J9_floorMod_7cf53 : z_Cs m_J9_floorMod_7cf53 2 := ⟨z_in2 119 (by decide +kernel) (by decide +kernel), z_in2 118 (by decide +kernel) (by decide +kernel), z_in1 12 (by decide +kernel) (by decide +kernel), by decide +kernel, by decide +kernel⟩
def m_J9_floorMod_f86c9 : ZD := (yJ9_floorMod_f86c9, cJ9_floorMod_f86c9, 6, (some .long), { frames := 0, cells := 0, slots := 0, locals := 0 })
theorem k_J9_floorMod_f86c9 : z_Cs m_J9_floorMod_f86c9 2 := ⟨z_in4 178 (by decide +kernel) (by decide +kernel), z_in4 177 (by decide +kernel) (by decide +kernel), z_in1 12 (by decide +kernel) (by decide +kernel), by decide +kernel, by decide +kernel⟩
def m_J9_max_7cf53 : ZD := (yJ9_max_7cf53, cJ9_max_7cf53, 2, (some .int), { frames := 0, cells := 0, slots := 0, locals := 0 })
theorem k_J9_max_7cf53 : z_Cs m_J9_max_7cf53 2 := ⟨z_in4 213 (by decide +kernel) (by decide +kernel), z_in4 212 (by decide +kernel) (by decide +kernel), z_in1 12 (by decide +kernel) (by decide +kernel), by decide +kernel, by decide +kernel⟩
def m_J9_max_f86c9 : ZD := (yJ9_max_f86c9, cJ9_max_f86c9, 4, (some .long), { frames := 0, cells := 0, slots := 0, locals := 0 })
theorem k_J9_max_f86c9 : z_Cs m_J9_max_f86c9 2 := ⟨z_in4 23 (by decide +kernel) (by decide +kernel), z_in4 22 (by decide +kernel) (by decide +kernel), z_in1 12 (by decide +kernel) (by decide +kernel), by decide +kernel, by decide +kernel⟩
def m_J9_min_7cf53 : ZD := (yJ9_min_7cf53, cJ9_min_7cf53, 2, (some .int), { frames := 0, cells := 0, slots := 0, locals := 0 })
theorem k_J9_min_7cf53 : z_Cs m_J9_min_7cf53 2 := ⟨z_in2 197 (by decide +kernel) (by decide +kernel), z_in2 196 (by decide +kernel) (by decide +kernel), z_in1 12 (by decide +kernel) (by decide +kernel), by decide +kernel, by decide +kernel⟩
def m_X0_accepts : ZD := (yX0_accepts, cX0_accepts, 2, (some .boolean), { frames := 4, cells := 0, slots := 0, locals := 93 })
theorem k_X0_accepts : z_Cv m_X0_accepts 1 := ⟨z_in3 57 (by decide +kernel) (by decide +kernel), z_in3 55 (by decide +kernel) (by decide +kernel), z_in3 56 (by decide +kernel) (by decide +kernel), z_in1 8 (by decide +kernel) (by decide +kernel), by decide +kernel, by decide +kernel⟩
def m_X0_acceptsClique : ZD := (yX0_acceptsClique, cX0_acceptsClique, 4, (some .boolean), { frames := 3, cells := 0, slots := 0, locals := 70 })
theorem k_X0_acceptsClique : z_Cv m_X0_acceptsClique 1 := ⟨z_in3 88 (by decide +kernel) (by decide +kernel), z_in3 87 (by decide +kernel) (by decide +kernel), z_inp (q := (yX0_acceptsClique, 1)) 27 (by decide +kernel) (by decide +kernel), z_in1 8 (by decide +kernel) (by decide +kernel), by decide +kernel, by decide +kernel⟩
def m_X0_acceptsCover : ZD := (yX0_acceptsCover, cX0_acceptsCover, 7, (some .boolean), { frames := 2, cells := 0, slots := 0, locals := 45 })
theorem k_X0_acceptsCover : z_Cv m_X0_acceptsCover 1 := ⟨z_in3 76 (by decide +kernel) (by decide +kernel), z_in3 75 (by decide +kernel) (by decide +kernel), z_inp (q := (yX0_acceptsCover, 1)) 25 (by decide +kernel) (by decide +kernel), z_in1 8 (by decide +kernel) (by decide +kernel), by decide +kernel, by decide +kernel⟩
def m_X0_acceptsRounding : ZD := (yX0_acceptsRounding, cX0_acceptsRounding, 5, (some .boolean), { frames := 1, cells := 0, slots := 0, locals := 25 })
theorem k_X0_acceptsRounding : z_Cv m_X0_acceptsRounding 1 := ⟨z_in3 61 (by decide +kernel) (by decide +kernel), z_in3 60 (by decide +kernel) (by decide +kernel), z_inp (q := (yX0_acceptsRounding, 1)) 22 (by decide +kernel) (by decide +kernel), z_in1 8 (by decide +kernel) (by decide +kernel), by decide +kernel, by decide +kernel⟩
def m_X0_comingFactor : ZD := (yX0_comingFactor, cX0_comingFactor, 6, (some .long), { frames := 0, cells := 0, slots := 0, locals := 0 })
theorem k_X0_comingFactor : z_Cv m_X0_comingFactor 2 := ⟨z_in3 69 (by decide +kernel) (by decide +kernel), z_in3 68 (by decide +kernel) (by decide +kernel), z_inp (q := (yX0_comingFactor, 1)) 24 (by decide +kernel) (by decide +kernel), z_in1 8 (by decide +kernel) (by decide +kernel), by decide +kernel, by decide +kernel⟩
def m_X0_init : ZD := (yX0_init, cX0_init, 2, none, { frames := 1, cells := 0, slots := 0, locals := 24 })
def m_X0_isTakenBelowZero : ZD := (yX0_isTakenBelowZero, cX0_isTakenBelowZero, 3, (some .boolean), { frames := 0, cells := 0, slots := 0, locals := 0 })
theorem k_X0_isTakenBelowZero : z_Cv m_X0_isTakenBelowZero 1 := ⟨z_in3 65 (by decide +kernel) (by decide +kernel), z_in3 64 (by decide +kernel) (by decide +kernel), z_inp (q := (yX0_isTakenBelowZero, 1)) 23 (by decide +kernel) (by decide +kernel), z_in1 8 (by decide +kernel) (by decide +kernel), by decide +kernel, by decide +kernel⟩
def m_X0_sumOver : ZD := (yX0_sumOver, cX0_sumOver, 5, (some .int), { frames := 1, cells := 0, slots := 0, locals := 21 })
theorem k_X0_sumOver : z_Cv m_X0_sumOver 2 := ⟨z_in3 83 (by decide +kernel) (by decide +kernel), z_in3 82 (by decide +kernel) (by decide +kernel), z_inp (q := (yX0_sumOver, 1)) 26 (by decide +kernel) (by decide +kernel), z_in1 8 (by decide +kernel) (by decide +kernel), by decide +kernel, by decide +kernel⟩
def m_X1_advance : ZD := (yX1_advance, cX1_advance, 2, none, { frames := 1, cells := 0, slots := 0, locals := 24 })
theorem k_X1_advance : z_Cv m_X1_advance 0 := ⟨z_in3 124 (by decide +kernel) (by decide +kernel), z_in3 122 (by decide +kernel) (by decide +kernel), z_in3 123 (by decide +kernel) (by decide +kernel), z_in1 9 (by decide +kernel) (by decide +kernel), by decide +kernel, by decide +kernel⟩
def m_X1_begin : ZD := (yX1_begin, cX1_begin, 2, none, { frames := 1, cells := 0, slots := 0, locals := 24 })
theorem k_X1_begin : z_Cv m_X1_begin 0 := ⟨z_in3 107 (by decide +kernel) (by decide +kernel), z_in3 105 (by decide +kernel) (by decide +kernel), z_in3 106 (by decide +kernel) (by decide +kernel), z_in1 9 (by decide +kernel) (by decide +kernel), by decide +kernel, by decide +kernel⟩
def m_X1_choose : ZD := (yX1_choose, cX1_choose, 5, none, { frames := 0, cells := 0, slots := 0, locals := 0 })
theorem k_X1_choose : z_Cv m_X1_choose 2 := ⟨z_in3 112 (by decide +kernel) (by decide +kernel), z_in3 111 (by decide +kernel) (by decide +kernel), z_inp (q := (yX1_choose, 3)) 28 (by decide +kernel) (by decide +kernel), z_in1 9 (by decide +kernel) (by decide +kernel), by decide +kernel, by decide +kernel⟩
def m_X1_init : ZD := (yX1_init, cX1_init, 2, none, { frames := 1, cells := 2, slots := 18, locals := 24 })
def m_X1_isPlan : ZD := (yX1_isPlan, cX1_isPlan, 2, (some .boolean), { frames := 0, cells := 0, slots := 0, locals := 0 })
theorem k_X1_isPlan : z_Cv m_X1_isPlan 0 := ⟨z_in3 116 (by decide +kernel) (by decide +kernel), z_in3 114 (by decide +kernel) (by decide +kernel), z_in3 115 (by decide +kernel) (by decide +kernel), z_in1 9 (by decide +kernel) (by decide +kernel), by decide +kernel, by decide +kernel⟩
def m_X1_keeps : ZD := (yX1_keeps, cX1_keeps, 4, (some .boolean), { frames := 0, cells := 0, slots := 0, locals := 0 })
theorem k_X1_keeps : z_Cv m_X1_keeps 1 := ⟨z_in3 120 (by decide +kernel) (by decide +kernel), z_in3 118 (by decide +kernel) (by decide +kernel), z_in3 119 (by decide +kernel) (by decide +kernel), z_in1 9 (by decide +kernel) (by decide +kernel), by decide +kernel, by decide +kernel⟩
def m_X2_init : ZD := (yX2_init, cX2_init, 3, none, { frames := 1, cells := 1, slots := 8, locals := 24 })
def m_X2_isWidestClique : ZD := (yX2_isWidestClique, cX2_isWidestClique, 5, (some .boolean), { frames := 1, cells := 0, slots := 0, locals := 21 })
theorem k_X2_isWidestClique : z_Cv m_X2_isWidestClique 1 := ⟨z_in3 10 (by decide +kernel) (by decide +kernel), z_in3 9 (by decide +kernel) (by decide +kernel), z_inp (q := (yX2_isWidestClique, 4)) 18 (by decide +kernel) (by decide +kernel), z_in1 7 (by decide +kernel) (by decide +kernel), by decide +kernel, by decide +kernel⟩
def m_X2_readBinaries : ZD := (yX2_readBinaries, cX2_readBinaries, 2, none, { frames := 1, cells := 0, slots := 0, locals := 21 })
theorem k_X2_readBinaries : z_Cv m_X2_readBinaries 0 := ⟨z_in2 230 (by decide +kernel) (by decide +kernel), z_in2 229 (by decide +kernel) (by decide +kernel), z_inp (q := (yX2_readBinaries, 4)) 15 (by decide +kernel) (by decide +kernel), z_in1 7 (by decide +kernel) (by decide +kernel), by decide +kernel, by decide +kernel⟩
def m_X2_readClashes : ZD := (yX2_readClashes, cX2_readClashes, 3, none, { frames := 3, cells := 0, slots := 0, locals := 70 })
theorem k_X2_readClashes : z_Cv m_X2_readClashes 0 := ⟨z_in2 235 (by decide +kernel) (by decide +kernel), z_in2 234 (by decide +kernel) (by decide +kernel), z_inp (q := (yX2_readClashes, 4)) 16 (by decide +kernel) (by decide +kernel), z_in1 7 (by decide +kernel) (by decide +kernel), by decide +kernel, by decide +kernel⟩
def m_X2_seekCliques : ZD := (yX2_seekCliques, cX2_seekCliques, 2, none, { frames := 4, cells := 0, slots := 0, locals := 92 })
theorem k_X2_seekCliques : z_Cv m_X2_seekCliques 0 := ⟨z_in2 226 (by decide +kernel) (by decide +kernel), z_in2 224 (by decide +kernel) (by decide +kernel), z_in2 225 (by decide +kernel) (by decide +kernel), z_in1 7 (by decide +kernel) (by decide +kernel), by decide +kernel, by decide +kernel⟩
def m_X2_tryClique : ZD := (yX2_tryClique, cX2_tryClique, 4, (some .boolean), { frames := 3, cells := 0, slots := 0, locals := 66 })
theorem k_X2_tryClique : z_Cv m_X2_tryClique 1 := ⟨z_in3 15 (by decide +kernel) (by decide +kernel), z_in3 14 (by decide +kernel) (by decide +kernel), z_inp (q := (yX2_tryClique, 4)) 19 (by decide +kernel) (by decide +kernel), z_in1 7 (by decide +kernel) (by decide +kernel), by decide +kernel, by decide +kernel⟩
def m_X3_giveAlpha : ZD := (yX3_giveAlpha, cX3_giveAlpha, 4, none, { frames := 1, cells := 0, slots := 0, locals := 21 })
theorem k_X3_giveAlpha : z_Cv m_X3_giveAlpha 2 := ⟨z_in2 216 (by decide +kernel) (by decide +kernel), z_in2 215 (by decide +kernel) (by decide +kernel), z_inp (q := (yX3_giveAlpha, 8)) 13 (by decide +kernel) (by decide +kernel), z_in1 6 (by decide +kernel) (by decide +kernel), by decide +kernel, by decide +kernel⟩
def m_X3_greatestSum : ZD := (yX3_greatestSum, cX3_greatestSum, 3, (some .int), { frames := 0, cells := 0, slots := 0, locals := 0 })
theorem k_X3_greatestSum : z_Cv m_X3_greatestSum 1 := ⟨z_in2 220 (by decide +kernel) (by decide +kernel), z_in2 219 (by decide +kernel) (by decide +kernel), z_inp (q := (yX3_greatestSum, 8)) 14 (by decide +kernel) (by decide +kernel), z_in1 6 (by decide +kernel) (by decide +kernel), by decide +kernel, by decide +kernel⟩
def m_X3_init : ZD := (yX3_init, cX3_init, 3, none, { frames := 1, cells := 4, slots := 89, locals := 24 })
def m_X3_isMinimalCover : ZD := (yX3_isMinimalCover, cX3_isMinimalCover, 5, (some .boolean), { frames := 1, cells := 0, slots := 0, locals := 21 })
theorem k_X3_isMinimalCover : z_Cv m_X3_isMinimalCover 1 := ⟨z_in2 192 (by decide +kernel) (by decide +kernel), z_in2 191 (by decide +kernel) (by decide +kernel), z_inp (q := (yX3_isMinimalCover, 8)) 10 (by decide +kernel) (by decide +kernel), z_in1 6 (by decide +kernel) (by decide +kernel), by decide +kernel, by decide +kernel⟩
def m_X3_lift : ZD := (yX3_lift, cX3_lift, 4, none, { frames := 2, cells := 0, slots := 0, locals := 44 })
theorem k_X3_lift : z_Cv m_X3_lift 1 := ⟨z_in2 205 (by decide +kernel) (by decide +kernel), z_in2 204 (by decide +kernel) (by decide +kernel), z_inp (q := (yX3_lift, 8)) 12 (by decide +kernel) (by decide +kernel), z_in1 6 (by decide +kernel) (by decide +kernel), by decide +kernel, by decide +kernel⟩
def m_X3_readLiterals : ZD := (yX3_readLiterals, cX3_readLiterals, 4, none, { frames := 1, cells := 0, slots := 0, locals := 22 })
theorem k_X3_readLiterals : z_Cv m_X3_readLiterals 1 := ⟨z_in2 177 (by decide +kernel) (by decide +kernel), z_in2 176 (by decide +kernel) (by decide +kernel), z_inp (q := (yX3_readLiterals, 8)) 9 (by decide +kernel) (by decide +kernel), z_in1 6 (by decide +kernel) (by decide +kernel), by decide +kernel, by decide +kernel⟩
def m_X3_seekCovers : ZD := (yX3_seekCovers, cX3_seekCovers, 3, none, { frames := 4, cells := 0, slots := 0, locals := 92 })
theorem k_X3_seekCovers : z_Cv m_X3_seekCovers 0 := ⟨z_in2 173 (by decide +kernel) (by decide +kernel), z_in2 171 (by decide +kernel) (by decide +kernel), z_in2 172 (by decide +kernel) (by decide +kernel), z_in1 6 (by decide +kernel) (by decide +kernel), by decide +kernel, by decide +kernel⟩
def m_X3_tryCover : ZD := (yX3_tryCover, cX3_tryCover, 6, (some .boolean), { frames := 3, cells := 0, slots := 0, locals := 67 })
theorem k_X3_tryCover : z_Cv m_X3_tryCover 2 := ⟨z_in2 201 (by decide +kernel) (by decide +kernel), z_in2 200 (by decide +kernel) (by decide +kernel), z_inp (q := (yX3_tryCover, 8)) 11 (by decide +kernel) (by decide +kernel), z_in1 6 (by decide +kernel) (by decide +kernel), by decide +kernel, by decide +kernel⟩
def m_X4_begin : ZD := (yX4_begin, cX4_begin, 2, none, { frames := 1, cells := 0, slots := 0, locals := 23 })
theorem k_X4_begin : z_Cv m_X4_begin 1 := ⟨z_in2 115 (by decide +kernel) (by decide +kernel), z_in2 113 (by decide +kernel) (by decide +kernel), z_in2 114 (by decide +kernel) (by decide +kernel), z_in1 4 (by decide +kernel) (by decide +kernel), by decide +kernel, by decide +kernel⟩
def m_X4_init : ZD := (yX4_init, cX4_init, 1, none, { frames := 1, cells := 4, slots := 34, locals := 24 })
def m_X4_saysTheSameAs : ZD := (yX4_saysTheSameAs, cX4_saysTheSameAs, 4, (some .boolean), { frames := 0, cells := 0, slots := 0, locals := 0 })
theorem k_X4_saysTheSameAs : z_Cv m_X4_saysTheSameAs 2 := ⟨z_in2 157 (by decide +kernel) (by decide +kernel), z_in2 155 (by decide +kernel) (by decide +kernel), z_in2 156 (by decide +kernel) (by decide +kernel), z_in1 4 (by decide +kernel) (by decide +kernel), by decide +kernel, by decide +kernel⟩
def m_X4_showOtherwise : ZD := (yX4_showOtherwise, cX4_showOtherwise, 4, none, { frames := 0, cells := 0, slots := 0, locals := 0 })
theorem k_X4_showOtherwise : z_Cv m_X4_showOtherwise 3 := ⟨z_in3 49 (by decide +kernel) (by decide +kernel), z_in3 47 (by decide +kernel) (by decide +kernel), z_in3 48 (by decide +kernel) (by decide +kernel), z_in1 4 (by decide +kernel) (by decide +kernel), by decide +kernel, by decide +kernel⟩
def m_X4_shown : ZD := (yX4_shown, cX4_shown, 3, (some .int), { frames := 0, cells := 0, slots := 0, locals := 0 })
theorem k_X4_shown : z_Cv m_X4_shown 2 := ⟨z_in3 37 (by decide +kernel) (by decide +kernel), z_in3 35 (by decide +kernel) (by decide +kernel), z_in3 36 (by decide +kernel) (by decide +kernel), z_in1 4 (by decide +kernel) (by decide +kernel), by decide +kernel, by decide +kernel⟩
def m_X5_ageAll : ZD := (yX5_ageAll, cX5_ageAll, 5, (some .int), { frames := 1, cells := 0, slots := 0, locals := 24 })
theorem k_X5_ageAll : z_Cv m_X5_ageAll 0 := ⟨z_in3 136 (by decide +kernel) (by decide +kernel), z_in3 134 (by decide +kernel) (by decide +kernel), z_in3 135 (by decide +kernel) (by decide +kernel), z_in1 3 (by decide +kernel) (by decide +kernel), by decide +kernel, by decide +kernel⟩
def m_X5_has : ZD := (yX5_has, cX5_has, 2, (some .boolean), { frames := 0, cells := 0, slots := 0, locals := 0 })
theorem k_X5_has : z_Cv m_X5_has 1 := ⟨z_in3 29 (by decide +kernel) (by decide +kernel), z_in3 27 (by decide +kernel) (by decide +kernel), z_in3 28 (by decide +kernel) (by decide +kernel), z_in1 3 (by decide +kernel) (by decide +kernel), by decide +kernel, by decide +kernel⟩
def m_X5_init : ZD := (yX5_init, cX5_init, 3, none, { frames := 2, cells := 206, slots := 1804, locals := 44 })
def m_X5_isToldAlready : ZD := (yX5_isToldAlready, cX5_isToldAlready, 3, (some .boolean), { frames := 1, cells := 0, slots := 0, locals := 23 })
theorem k_X5_isToldAlready : z_Cv m_X5_isToldAlready 1 := ⟨z_in2 153 (by decide +kernel) (by decide +kernel), z_in2 152 (by decide +kernel) (by decide +kernel), z_inp (q := (yX5_isToldAlready, 4)) 6 (by decide +kernel) (by decide +kernel), z_in1 3 (by decide +kernel) (by decide +kernel), by decide +kernel, by decide +kernel⟩
def m_X5_newDraft : ZD := (yX5_newDraft, cX5_newDraft, 3, (some (.object "CutProofs$Cut")), { frames := 2, cells := 0, slots := 0, locals := 44 })
theorem k_X5_newDraft : z_Cv m_X5_newDraft 1 := ⟨z_in2 111 (by decide +kernel) (by decide +kernel), z_in2 109 (by decide +kernel) (by decide +kernel), z_in2 110 (by decide +kernel) (by decide +kernel), z_in1 3 (by decide +kernel) (by decide +kernel), by decide +kernel, by decide +kernel⟩
def m_X5_settleDraft : ZD := (yX5_settleDraft, cX5_settleDraft, 1, (some .boolean), { frames := 2, cells := 0, slots := 0, locals := 45 })
theorem k_X5_settleDraft : z_Cv m_X5_settleDraft 0 := ⟨z_in2 144 (by decide +kernel) (by decide +kernel), z_in2 142 (by decide +kernel) (by decide +kernel), z_in2 143 (by decide +kernel) (by decide +kernel), z_in1 3 (by decide +kernel) (by decide +kernel), by decide +kernel, by decide +kernel⟩
def m_X6_addName : ZD := (yX6_addName, cX6_addName, 3, (some .int), { frames := 0, cells := 0, slots := 0, locals := 0 })
theorem k_X6_addName : z_Cv m_X6_addName 2 := ⟨z_in2 60 (by decide +kernel) (by decide +kernel), z_in2 58 (by decide +kernel) (by decide +kernel), z_in2 59 (by decide +kernel) (by decide +kernel), z_in1 2 (by decide +kernel) (by decide +kernel), by decide +kernel, by decide +kernel⟩
def m_X6_addRow : ZD := (yX6_addRow, cX6_addRow, 2, (some .int), { frames := 1, cells := 0, slots := 0, locals := 23 })
theorem k_X6_addRow : z_Cv m_X6_addRow 1 := ⟨z_in2 68 (by decide +kernel) (by decide +kernel), z_in2 66 (by decide +kernel) (by decide +kernel), z_in2 67 (by decide +kernel) (by decide +kernel), z_in1 2 (by decide +kernel) (by decide +kernel), by decide +kernel, by decide +kernel⟩
def m_X6_choices : ZD := (yX6_choices, cX6_choices, 4, (some .long), { frames := 0, cells := 0, slots := 0, locals := 0 })
theorem k_X6_choices : z_Cv m_X6_choices 0 := ⟨z_in3 102 (by decide +kernel) (by decide +kernel), z_in3 100 (by decide +kernel) (by decide +kernel), z_in3 101 (by decide +kernel) (by decide +kernel), z_in1 2 (by decide +kernel) (by decide +kernel), by decide +kernel, by decide +kernel⟩
def m_X6_clashAnywhere : ZD := (yX6_clashAnywhere, cX6_clashAnywhere, 4, (some .boolean), { frames := 2, cells := 0, slots := 0, locals := 47 })
theorem k_X6_clashAnywhere : z_Cv m_X6_clashAnywhere 2 := ⟨z_in3 1 (by decide +kernel) (by decide +kernel), z_in2 239 (by decide +kernel) (by decide +kernel), z_in3 0 (by decide +kernel) (by decide +kernel), z_in1 2 (by decide +kernel) (by decide +kernel), by decide +kernel, by decide +kernel⟩
def m_X6_clashIn : ZD := (yX6_clashIn, cX6_clashIn, 6, (some .boolean), { frames := 1, cells := 0, slots := 0, locals := 22 })
theorem k_X6_clashIn : z_Cv m_X6_clashIn 3 := ⟨z_in3 5 (by decide +kernel) (by decide +kernel), z_in3 4 (by decide +kernel) (by decide +kernel), z_inp (q := (yX6_clashIn, 7)) 17 (by decide +kernel) (by decide +kernel), z_in1 2 (by decide +kernel) (by decide +kernel), by decide +kernel, by decide +kernel⟩
def m_X6_hasName : ZD := (yX6_hasName, cX6_hasName, 2, (some .boolean), { frames := 0, cells := 0, slots := 0, locals := 0 })
theorem k_X6_hasName : z_Cv m_X6_hasName 1 := ⟨z_in2 83 (by decide +kernel) (by decide +kernel), z_in2 81 (by decide +kernel) (by decide +kernel), z_in2 82 (by decide +kernel) (by decide +kernel), z_in1 2 (by decide +kernel) (by decide +kernel), by decide +kernel, by decide +kernel⟩
def m_X6_hasRow : ZD := (yX6_hasRow, cX6_hasRow, 2, (some .boolean), { frames := 0, cells := 0, slots := 0, locals := 0 })
theorem k_X6_hasRow : z_Cv m_X6_hasRow 1 := ⟨z_in2 79 (by decide +kernel) (by decide +kernel), z_in2 77 (by decide +kernel) (by decide +kernel), z_in2 78 (by decide +kernel) (by decide +kernel), z_in1 2 (by decide +kernel) (by decide +kernel), by decide +kernel, by decide +kernel⟩
def m_X6_init : ZD := (yX6_init, cX6_init, 1, none, { frames := 1, cells := 15, slots := 124, locals := 24 })
def m_X6_isBinary : ZD := (yX6_isBinary, cX6_isBinary, 2, (some .boolean), { frames := 0, cells := 0, slots := 0, locals := 0 })
theorem k_X6_isBinary : z_Cv m_X6_isBinary 1 := ⟨z_in2 181 (by decide +kernel) (by decide +kernel), z_in2 179 (by decide +kernel) (by decide +kernel), z_in2 180 (by decide +kernel) (by decide +kernel), z_in1 2 (by decide +kernel) (by decide +kernel), by decide +kernel, by decide +kernel⟩
def m_X6_least : ZD := (yX6_least, cX6_least, 3, (some .int), { frames := 0, cells := 0, slots := 0, locals := 0 })
theorem k_X6_least : z_Cv m_X6_least 2 := ⟨z_in2 185 (by decide +kernel) (by decide +kernel), z_in2 183 (by decide +kernel) (by decide +kernel), z_in2 184 (by decide +kernel) (by decide +kernel), z_in1 2 (by decide +kernel) (by decide +kernel), by decide +kernel, by decide +kernel⟩
def m_X6_scaledStrength : ZD := (yX6_scaledStrength, cX6_scaledStrength, 5, (some .long), { frames := 0, cells := 0, slots := 0, locals := 0 })
theorem k_X6_scaledStrength : z_Cv m_X6_scaledStrength 1 := ⟨z_in2 148 (by decide +kernel) (by decide +kernel), z_in2 146 (by decide +kernel) (by decide +kernel), z_in2 147 (by decide +kernel) (by decide +kernel), z_in1 2 (by decide +kernel) (by decide +kernel), by decide +kernel, by decide +kernel⟩
def m_X7_divideAndSettle : ZD := (yX7_divideAndSettle, cX7_divideAndSettle, 4, (some .boolean), { frames := 3, cells := 0, slots := 0, locals := 65 })
theorem k_X7_divideAndSettle : z_Cv m_X7_divideAndSettle 2 := ⟨z_in2 137 (by decide +kernel) (by decide +kernel), z_in2 136 (by decide +kernel) (by decide +kernel), z_inp (q := (yX7_divideAndSettle, 4)) 5 (by decide +kernel) (by decide +kernel), z_in1 5 (by decide +kernel) (by decide +kernel), by decide +kernel, by decide +kernel⟩
def m_X7_init : ZD := (yX7_init, cX7_init, 3, none, { frames := 1, cells := 1, slots := 8, locals := 24 })
def m_X7_isHighNearer : ZD := (yX7_isHighNearer, cX7_isHighNearer, 2, (some .boolean), { frames := 0, cells := 0, slots := 0, locals := 0 })
theorem k_X7_isHighNearer : z_Cv m_X7_isHighNearer 1 := ⟨z_in2 123 (by decide +kernel) (by decide +kernel), z_in2 122 (by decide +kernel) (by decide +kernel), z_inp (q := (yX7_isHighNearer, 4)) 2 (by decide +kernel) (by decide +kernel), z_in1 5 (by decide +kernel) (by decide +kernel), by decide +kernel, by decide +kernel⟩
def m_X7_isLowCheaper : ZD := (yX7_isLowCheaper, cX7_isLowCheaper, 8, (some .boolean), { frames := 0, cells := 0, slots := 0, locals := 0 })
theorem k_X7_isLowCheaper : z_Cv m_X7_isLowCheaper 3 := ⟨z_in2 169 (by decide +kernel) (by decide +kernel), z_in2 168 (by decide +kernel) (by decide +kernel), z_inp (q := (yX7_isLowCheaper, 4)) 8 (by decide +kernel) (by decide +kernel), z_in1 5 (by decide +kernel) (by decide +kernel), by decide +kernel, by decide +kernel⟩
def m_X7_moveSumTo : ZD := (yX7_moveSumTo, cX7_moveSumTo, 6, none, { frames := 1, cells := 0, slots := 0, locals := 21 })
theorem k_X7_moveSumTo : z_Cv m_X7_moveSumTo 1 := ⟨z_in2 100 (by decide +kernel) (by decide +kernel), z_in2 99 (by decide +kernel) (by decide +kernel), z_inp (q := (yX7_moveSumTo, 4)) 0 (by decide +kernel) (by decide +kernel), z_in1 5 (by decide +kernel) (by decide +kernel), by decide +kernel, by decide +kernel⟩
def m_X7_seekHalves : ZD := (yX7_seekHalves, cX7_seekHalves, 2, none, { frames := 5, cells := 0, slots := 0, locals := 111 })
theorem k_X7_seekHalves : z_Cv m_X7_seekHalves 0 := ⟨z_in2 95 (by decide +kernel) (by decide +kernel), z_in2 93 (by decide +kernel) (by decide +kernel), z_in2 94 (by decide +kernel) (by decide +kernel), z_in1 5 (by decide +kernel) (by decide +kernel), by decide +kernel, by decide +kernel⟩
def m_X7_seekRounded : ZD := (yX7_seekRounded, cX7_seekRounded, 3, none, { frames := 5, cells := 0, slots := 0, locals := 113 })
theorem k_X7_seekRounded : z_Cv m_X7_seekRounded 0 := ⟨z_in2 161 (by decide +kernel) (by decide +kernel), z_in2 159 (by decide +kernel) (by decide +kernel), z_in2 160 (by decide +kernel) (by decide +kernel), z_in1 5 (by decide +kernel) (by decide +kernel), by decide +kernel, by decide +kernel⟩
def m_X7_takeHigh : ZD := (yX7_takeHigh, cX7_takeHigh, 4, none, { frames := 0, cells := 0, slots := 0, locals := 0 })
theorem k_X7_takeHigh : z_Cv m_X7_takeHigh 3 := ⟨z_in2 129 (by decide +kernel) (by decide +kernel), z_in2 128 (by decide +kernel) (by decide +kernel), z_inp (q := (yX7_takeHigh, 4)) 3 (by decide +kernel) (by decide +kernel), z_in1 5 (by decide +kernel) (by decide +kernel), by decide +kernel, by decide +kernel⟩
def m_X7_takeLow : ZD := (yX7_takeLow, cX7_takeLow, 4, none, { frames := 0, cells := 0, slots := 0, locals := 0 })
theorem k_X7_takeLow : z_Cv m_X7_takeLow 3 := ⟨z_in2 133 (by decide +kernel) (by decide +kernel), z_in2 132 (by decide +kernel) (by decide +kernel), z_inp (q := (yX7_takeLow, 4)) 4 (by decide +kernel) (by decide +kernel), z_in1 5 (by decide +kernel) (by decide +kernel), by decide +kernel, by decide +kernel⟩
def m_X7_tryHalves : ZD := (yX7_tryHalves, cX7_tryHalves, 4, (some .boolean), { frames := 4, cells := 0, slots := 0, locals := 88 })
theorem k_X7_tryHalves : z_Cv m_X7_tryHalves 1 := ⟨z_in2 107 (by decide +kernel) (by decide +kernel), z_in2 106 (by decide +kernel) (by decide +kernel), z_inp (q := (yX7_tryHalves, 4)) 1 (by decide +kernel) (by decide +kernel), z_in1 5 (by decide +kernel) (by decide +kernel), by decide +kernel, by decide +kernel⟩
def m_X7_tryRounded : ZD := (yX7_tryRounded, cX7_tryRounded, 6, (some .boolean), { frames := 4, cells := 0, slots := 0, locals := 88 })
theorem k_X7_tryRounded : z_Cv m_X7_tryRounded 2 := ⟨z_in2 165 (by decide +kernel) (by decide +kernel), z_in2 164 (by decide +kernel) (by decide +kernel), z_inp (q := (yX7_tryRounded, 4)) 7 (by decide +kernel) (by decide +kernel), z_in1 5 (by decide +kernel) (by decide +kernel), by decide +kernel, by decide +kernel⟩
def m_X8_best : ZD := (yX8_best, cX8_best, 7, (some .int), { frames := 1, cells := 0, slots := 0, locals := 24 })
theorem k_X8_best : z_Cv m_X8_best 0 := ⟨z_in3 93 (by decide +kernel) (by decide +kernel), z_in3 91 (by decide +kernel) (by decide +kernel), z_in3 92 (by decide +kernel) (by decide +kernel), z_in1 1 (by decide +kernel) (by decide +kernel), by decide +kernel, by decide +kernel⟩
def m_X8_check : ZD := (yX8_check, cX8_check, 2, (some .int), { frames := 5, cells := 0, slots := 0, locals := 114 })
theorem k_X8_check : z_Cv m_X8_check 1 := ⟨z_in3 53 (by decide +kernel) (by decide +kernel), z_in3 51 (by decide +kernel) (by decide +kernel), z_in3 52 (by decide +kernel) (by decide +kernel), z_in1 1 (by decide +kernel) (by decide +kernel), by decide +kernel, by decide +kernel⟩
def m_X8_clear : ZD := (yX8_clear, cX8_clear, 1, none, { frames := 0, cells := 0, slots := 0, locals := 0 })
theorem k_X8_clear : z_Cv m_X8_clear 0 := ⟨z_in3 152 (by decide +kernel) (by decide +kernel), z_in3 150 (by decide +kernel) (by decide +kernel), z_in3 151 (by decide +kernel) (by decide +kernel), z_in1 1 (by decide +kernel) (by decide +kernel), by decide +kernel, by decide +kernel⟩
def m_X8_closed : ZD := (yX8_closed, cX8_closed, 1, (some .int), { frames := 0, cells := 0, slots := 0, locals := 0 })
theorem k_X8_closed : z_Cv m_X8_closed 0 := ⟨z_in3 21 (by decide +kernel) (by decide +kernel), z_in3 19 (by decide +kernel) (by decide +kernel), z_in3 20 (by decide +kernel) (by decide +kernel), z_in1 1 (by decide +kernel) (by decide +kernel), by decide +kernel, by decide +kernel⟩
def m_X8_commonWithScale : ZD := (yX8_commonWithScale, cX8_commonWithScale, 9, (some .long), { frames := 1, cells := 0, slots := 0, locals := 23 })
theorem k_X8_commonWithScale : z_Cs m_X8_commonWithScale 1 := ⟨z_in4 16 (by decide +kernel) (by decide +kernel), z_in4 15 (by decide +kernel) (by decide +kernel), z_in1 1 (by decide +kernel) (by decide +kernel), by decide +kernel, by decide +kernel⟩
def m_X8_countAccepted : ZD := (yX8_countAccepted, cX8_countAccepted, 3, (some .int), { frames := 5, cells := 0, slots := 0, locals := 114 })
theorem k_X8_countAccepted : z_Cv m_X8_countAccepted 0 := ⟨z_in3 148 (by decide +kernel) (by decide +kernel), z_in3 147 (by decide +kernel) (by decide +kernel), z_inp (q := (yX8_countAccepted, 7)) 30 (by decide +kernel) (by decide +kernel), z_in1 1 (by decide +kernel) (by decide +kernel), by decide +kernel, by decide +kernel⟩
def m_X8_countBroken : ZD := (yX8_countBroken, cX8_countBroken, 3, (some .int), { frames := 1, cells := 0, slots := 0, locals := 24 })
theorem k_X8_countBroken : z_Cv m_X8_countBroken 0 := ⟨z_in3 144 (by decide +kernel) (by decide +kernel), z_in3 143 (by decide +kernel) (by decide +kernel), z_inp (q := (yX8_countBroken, 7)) 29 (by decide +kernel) (by decide +kernel), z_in1 1 (by decide +kernel) (by decide +kernel), by decide +kernel, by decide +kernel⟩
def m_X8_cut : ZD := (yX8_cut, cX8_cut, 5, (some .int), { frames := 1, cells := 0, slots := 0, locals := 21 })
theorem k_X8_cut : z_Cv m_X8_cut 3 := ⟨z_in3 161 (by decide +kernel) (by decide +kernel), z_in3 159 (by decide +kernel) (by decide +kernel), z_in3 160 (by decide +kernel) (by decide +kernel), z_in1 1 (by decide +kernel) (by decide +kernel), by decide +kernel, by decide +kernel⟩
def m_X8_factor : ZD := (yX8_factor, cX8_factor, 5, (some .int), { frames := 1, cells := 0, slots := 0, locals := 21 })
theorem k_X8_factor : z_Cv m_X8_factor 3 := ⟨z_in2 75 (by decide +kernel) (by decide +kernel), z_in2 73 (by decide +kernel) (by decide +kernel), z_in2 74 (by decide +kernel) (by decide +kernel), z_in1 1 (by decide +kernel) (by decide +kernel), by decide +kernel, by decide +kernel⟩
def m_X8_find : ZD := (yX8_find, cX8_find, 3, (some .int), { frames := 6, cells := 0, slots := 0, locals := 135 })
theorem k_X8_find : z_Cv m_X8_find 1 := ⟨z_in2 91 (by decide +kernel) (by decide +kernel), z_in2 89 (by decide +kernel) (by decide +kernel), z_in2 90 (by decide +kernel) (by decide +kernel), z_in1 1 (by decide +kernel) (by decide +kernel), by decide +kernel, by decide +kernel⟩
def m_X8_holds : ZD := (yX8_holds, cX8_holds, 6, (some .int), { frames := 2, cells := 0, slots := 0, locals := 45 })
theorem k_X8_holds : z_Cv m_X8_holds 1 := ⟨z_in3 98 (by decide +kernel) (by decide +kernel), z_in3 96 (by decide +kernel) (by decide +kernel), z_in3 97 (by decide +kernel) (by decide +kernel), z_in1 1 (by decide +kernel) (by decide +kernel), by decide +kernel, by decide +kernel⟩
def m_X8_init : ZD := (yX8_init, cX8_init, 1, none, { frames := 3, cells := 236, slots := 2082, locals := 66 })
def m_X8_isBeyond : ZD := (yX8_isBeyond, cX8_isBeyond, 2, (some .boolean), { frames := 0, cells := 0, slots := 0, locals := 0 })
theorem k_X8_isBeyond : z_Cs m_X8_isBeyond 2 := ⟨z_in2 56 (by decide +kernel) (by decide +kernel), z_in2 55 (by decide +kernel) (by decide +kernel), z_in1 1 (by decide +kernel) (by decide +kernel), by decide +kernel, by decide +kernel⟩
def m_X8_isIn : ZD := (yX8_isIn, cX8_isIn, 2, (some .boolean), { frames := 0, cells := 0, slots := 0, locals := 0 })
theorem k_X8_isIn : z_Cs m_X8_isIn 2 := ⟨z_in2 103 (by decide +kernel) (by decide +kernel), z_in2 102 (by decide +kernel) (by decide +kernel), z_in1 1 (by decide +kernel) (by decide +kernel), by decide +kernel, by decide +kernel⟩
def m_X8_name : ZD := (yX8_name, cX8_name, 3, (some .int), { frames := 1, cells := 0, slots := 0, locals := 22 })
theorem k_X8_name : z_Cv m_X8_name 2 := ⟨z_in2 53 (by decide +kernel) (by decide +kernel), z_in2 51 (by decide +kernel) (by decide +kernel), z_in2 52 (by decide +kernel) (by decide +kernel), z_in1 1 (by decide +kernel) (by decide +kernel), by decide +kernel, by decide +kernel⟩
def m_X8_plans : ZD := (yX8_plans, cX8_plans, 5, (some .int), { frames := 2, cells := 0, slots := 0, locals := 45 })
theorem k_X8_plans : z_Cv m_X8_plans 0 := ⟨z_in3 128 (by decide +kernel) (by decide +kernel), z_in3 126 (by decide +kernel) (by decide +kernel), z_in3 127 (by decide +kernel) (by decide +kernel), z_in1 1 (by decide +kernel) (by decide +kernel), by decide +kernel, by decide +kernel⟩
def m_X8_plant : ZD := (yX8_plant, cX8_plant, 7, (some .int), { frames := 3, cells := 0, slots := 0, locals := 68 })
theorem k_X8_plant : z_Cv m_X8_plant 4 := ⟨z_in3 41 (by decide +kernel) (by decide +kernel), z_in3 39 (by decide +kernel) (by decide +kernel), z_in3 40 (by decide +kernel) (by decide +kernel), z_in1 1 (by decide +kernel) (by decide +kernel), by decide +kernel, by decide +kernel⟩
def m_X8_point : ZD := (yX8_point, cX8_point, 4, (some .int), { frames := 1, cells := 0, slots := 0, locals := 21 })
theorem k_X8_point : z_Cv m_X8_point 3 := ⟨z_in2 87 (by decide +kernel) (by decide +kernel), z_in2 85 (by decide +kernel) (by decide +kernel), z_in2 86 (by decide +kernel) (by decide +kernel), z_in1 1 (by decide +kernel) (by decide +kernel), by decide +kernel, by decide +kernel⟩
def m_X8_proof : ZD := (yX8_proof, cX8_proof, 6, (some .int), { frames := 2, cells := 0, slots := 0, locals := 45 })
theorem k_X8_proof : z_Cv m_X8_proof 3 := ⟨z_in3 25 (by decide +kernel) (by decide +kernel), z_in3 23 (by decide +kernel) (by decide +kernel), z_in3 24 (by decide +kernel) (by decide +kernel), z_in1 1 (by decide +kernel) (by decide +kernel), by decide +kernel, by decide +kernel⟩
def m_X8_refusalOfPlanted : ZD := (yX8_refusalOfPlanted, cX8_refusalOfPlanted, 4, (some .int), { frames := 2, cells := 0, slots := 0, locals := 45 })
theorem k_X8_refusalOfPlanted : z_Cv m_X8_refusalOfPlanted 3 := ⟨z_in3 45 (by decide +kernel) (by decide +kernel), z_in3 44 (by decide +kernel) (by decide +kernel), z_inp (q := (yX8_refusalOfPlanted, 7)) 21 (by decide +kernel) (by decide +kernel), z_in1 1 (by decide +kernel) (by decide +kernel), by decide +kernel, by decide +kernel⟩
def m_X8_refusalOfShown : ZD := (yX8_refusalOfShown, cX8_refusalOfShown, 5, (some .int), { frames := 1, cells := 0, slots := 0, locals := 21 })
theorem k_X8_refusalOfShown : z_Cv m_X8_refusalOfShown 3 := ⟨z_in3 33 (by decide +kernel) (by decide +kernel), z_in3 32 (by decide +kernel) (by decide +kernel), z_inp (q := (yX8_refusalOfShown, 7)) 20 (by decide +kernel) (by decide +kernel), z_in1 1 (by decide +kernel) (by decide +kernel), by decide +kernel, by decide +kernel⟩
def m_X8_row : ZD := (yX8_row, cX8_row, 2, (some .int), { frames := 2, cells := 0, slots := 0, locals := 44 })
theorem k_X8_row : z_Cv m_X8_row 1 := ⟨z_in2 64 (by decide +kernel) (by decide +kernel), z_in2 62 (by decide +kernel) (by decide +kernel), z_in2 63 (by decide +kernel) (by decide +kernel), z_in1 1 (by decide +kernel) (by decide +kernel), by decide +kernel, by decide +kernel⟩
def m_X8_strength : ZD := (yX8_strength, cX8_strength, 7, (some .long), { frames := 2, cells := 0, slots := 0, locals := 51 })
theorem k_X8_strength : z_Cv m_X8_strength 2 := ⟨z_in4 12 (by decide +kernel) (by decide +kernel), z_in4 10 (by decide +kernel) (by decide +kernel), z_in4 11 (by decide +kernel) (by decide +kernel), z_in1 1 (by decide +kernel) (by decide +kernel), by decide +kernel, by decide +kernel⟩
def m_X8_told : ZD := (yX8_told, cX8_told, 2, (some .int), { frames := 6, cells := 0, slots := 0, locals := 136 })
theorem k_X8_told : z_Cv m_X8_told 1 := ⟨z_in3 140 (by decide +kernel) (by decide +kernel), z_in3 138 (by decide +kernel) (by decide +kernel), z_in3 139 (by decide +kernel) (by decide +kernel), z_in1 1 (by decide +kernel) (by decide +kernel), by decide +kernel, by decide +kernel⟩
def m_X8_turn : ZD := (yX8_turn, cX8_turn, 1, (some .int), { frames := 2, cells := 0, slots := 0, locals := 48 })
theorem k_X8_turn : z_Cv m_X8_turn 0 := ⟨z_in3 132 (by decide +kernel) (by decide +kernel), z_in3 130 (by decide +kernel) (by decide +kernel), z_in3 131 (by decide +kernel) (by decide +kernel), z_in1 1 (by decide +kernel) (by decide +kernel), by decide +kernel, by decide +kernel⟩
def m_X9_accepts : ZD := (yX9_accepts, cX9_accepts, 2, (some .boolean), { frames := 3, cells := 0, slots := 0, locals := 73 })
theorem k_X9_accepts : z_Cv m_X9_accepts 1 := ⟨z_in5 17 (by decide +kernel) (by decide +kernel), z_in5 16 (by decide +kernel) (by decide +kernel), z_inp (q := (yX9_accepts, 25)) 56 (by decide +kernel) (by decide +kernel), z_in1 10 (by decide +kernel) (by decide +kernel), by decide +kernel, by decide +kernel⟩
def m_X9_acceptsClique : ZD := (yX9_acceptsClique, cX9_acceptsClique, 6, (some .boolean), { frames := 2, cells := 0, slots := 0, locals := 48 })
theorem k_X9_acceptsClique : z_Cv m_X9_acceptsClique 1 := ⟨z_in5 29 (by decide +kernel) (by decide +kernel), z_in5 28 (by decide +kernel) (by decide +kernel), z_inp (q := (yX9_acceptsClique, 25)) 59 (by decide +kernel) (by decide +kernel), z_in1 10 (by decide +kernel) (by decide +kernel), by decide +kernel, by decide +kernel⟩
def m_X9_acceptsCover : ZD := (yX9_acceptsCover, cX9_acceptsCover, 12, (some .boolean), { frames := 1, cells := 0, slots := 0, locals := 23 })
theorem k_X9_acceptsCover : z_Cv m_X9_acceptsCover 1 := ⟨z_in5 25 (by decide +kernel) (by decide +kernel), z_in5 24 (by decide +kernel) (by decide +kernel), z_inp (q := (yX9_acceptsCover, 25)) 58 (by decide +kernel) (by decide +kernel), z_in1 10 (by decide +kernel) (by decide +kernel), by decide +kernel, by decide +kernel⟩
def m_X9_acceptsSum : ZD := (yX9_acceptsSum, cX9_acceptsSum, 14, (some .boolean), { frames := 1, cells := 0, slots := 0, locals := 25 })
theorem k_X9_acceptsSum : z_Cv m_X9_acceptsSum 1 := ⟨z_in5 21 (by decide +kernel) (by decide +kernel), z_in5 20 (by decide +kernel) (by decide +kernel), z_inp (q := (yX9_acceptsSum, 25)) 57 (by decide +kernel) (by decide +kernel), z_in1 10 (by decide +kernel) (by decide +kernel), by decide +kernel, by decide +kernel⟩
def m_X9_best : ZD := (yX9_best, cX9_best, 3, (some .int), { frames := 1, cells := 0, slots := 0, locals := 24 })
theorem k_X9_best : z_Cv m_X9_best 0 := ⟨z_in5 41 (by decide +kernel) (by decide +kernel), z_in5 39 (by decide +kernel) (by decide +kernel), z_in5 40 (by decide +kernel) (by decide +kernel), z_in1 10 (by decide +kernel) (by decide +kernel), by decide +kernel, by decide +kernel⟩
def m_X9_check : ZD := (yX9_check, cX9_check, 2, (some .int), { frames := 4, cells := 0, slots := 0, locals := 94 })
theorem k_X9_check : z_Cv m_X9_check 1 := ⟨z_in5 13 (by decide +kernel) (by decide +kernel), z_in5 11 (by decide +kernel) (by decide +kernel), z_in5 12 (by decide +kernel) (by decide +kernel), z_in1 10 (by decide +kernel) (by decide +kernel), by decide +kernel, by decide +kernel⟩
def m_X9_clash : ZD := (yX9_clash, cX9_clash, 6, (some .boolean), { frames := 1, cells := 0, slots := 0, locals := 23 })
theorem k_X9_clash : z_Cv m_X9_clash 2 := ⟨z_in4 225 (by decide +kernel) (by decide +kernel), z_in4 224 (by decide +kernel) (by decide +kernel), z_inp (q := (yX9_clash, 25)) 53 (by decide +kernel) (by decide +kernel), z_in1 10 (by decide +kernel) (by decide +kernel), by decide +kernel, by decide +kernel⟩
def m_X9_clear : ZD := (yX9_clear, cX9_clear, 1, none, { frames := 0, cells := 0, slots := 0, locals := 0 })
theorem k_X9_clear : z_Cv m_X9_clear 0 := ⟨z_in5 78 (by decide +kernel) (by decide +kernel), z_in5 76 (by decide +kernel) (by decide +kernel), z_in5 77 (by decide +kernel) (by decide +kernel), z_in1 10 (by decide +kernel) (by decide +kernel), by decide +kernel, by decide +kernel⟩
def m_X9_cliques : ZD := (yX9_cliques, cX9_cliques, 3, none, { frames := 3, cells := 0, slots := 0, locals := 73 })
theorem k_X9_cliques : z_Cv m_X9_cliques 0 := ⟨z_in4 217 (by decide +kernel) (by decide +kernel), z_in4 216 (by decide +kernel) (by decide +kernel), z_inp (q := (yX9_cliques, 25)) 51 (by decide +kernel) (by decide +kernel), z_in1 10 (by decide +kernel) (by decide +kernel), by decide +kernel, by decide +kernel⟩
def m_X9_closed : ZD := (yX9_closed, cX9_closed, 1, (some .int), { frames := 0, cells := 0, slots := 0, locals := 0 })
theorem k_X9_closed : z_Cv m_X9_closed 0 := ⟨z_in4 229 (by decide +kernel) (by decide +kernel), z_in4 227 (by decide +kernel) (by decide +kernel), z_in4 228 (by decide +kernel) (by decide +kernel), z_in1 10 (by decide +kernel) (by decide +kernel), by decide +kernel, by decide +kernel⟩
def m_X9_count : ZD := (yX9_count, cX9_count, 7, (some .int), { frames := 1, cells := 0, slots := 0, locals := 23 })
theorem k_X9_count : z_Cv m_X9_count 1 := ⟨z_in5 54 (by decide +kernel) (by decide +kernel), z_in5 53 (by decide +kernel) (by decide +kernel), z_inp (q := (yX9_count, 25)) 62 (by decide +kernel) (by decide +kernel), z_in1 10 (by decide +kernel) (by decide +kernel), by decide +kernel, by decide +kernel⟩
def m_X9_cover : ZD := (yX9_cover, cX9_cover, 8, none, { frames := 2, cells := 0, slots := 0, locals := 49 })
theorem k_X9_cover : z_Cv m_X9_cover 2 := ⟨z_in4 206 (by decide +kernel) (by decide +kernel), z_in4 205 (by decide +kernel) (by decide +kernel), z_inp (q := (yX9_cover, 25)) 49 (by decide +kernel) (by decide +kernel), z_in1 10 (by decide +kernel) (by decide +kernel), by decide +kernel, by decide +kernel⟩
def m_X9_covers : ZD := (yX9_covers, cX9_covers, 3, none, { frames := 3, cells := 0, slots := 0, locals := 76 })
theorem k_X9_covers : z_Cv m_X9_covers 0 := ⟨z_in4 182 (by decide +kernel) (by decide +kernel), z_in4 181 (by decide +kernel) (by decide +kernel), z_inp (q := (yX9_covers, 25)) 43 (by decide +kernel) (by decide +kernel), z_in1 10 (by decide +kernel) (by decide +kernel), by decide +kernel, by decide +kernel⟩
def m_X9_cut : ZD := (yX9_cut, cX9_cut, 4, (some .int), { frames := 1, cells := 0, slots := 0, locals := 21 })
theorem k_X9_cut : z_Cv m_X9_cut 3 := ⟨z_in4 233 (by decide +kernel) (by decide +kernel), z_in4 231 (by decide +kernel) (by decide +kernel), z_in4 232 (by decide +kernel) (by decide +kernel), z_in1 10 (by decide +kernel) (by decide +kernel), by decide +kernel, by decide +kernel⟩
def m_X9_divide : ZD := (yX9_divide, cX9_divide, 3, none, { frames := 1, cells := 0, slots := 0, locals := 25 })
theorem k_X9_divide : z_Cv m_X9_divide 1 := ⟨z_in4 162 (by decide +kernel) (by decide +kernel), z_in4 161 (by decide +kernel) (by decide +kernel), z_inp (q := (yX9_divide, 25)) 39 (by decide +kernel) (by decide +kernel), z_in1 10 (by decide +kernel) (by decide +kernel), by decide +kernel, by decide +kernel⟩
def m_X9_emptied : ZD := (yX9_emptied, cX9_emptied, 2, none, { frames := 0, cells := 0, slots := 0, locals := 0 })
theorem k_X9_emptied : z_Cv m_X9_emptied 0 := ⟨z_in4 146 (by decide +kernel) (by decide +kernel), z_in4 145 (by decide +kernel) (by decide +kernel), z_inp (q := (yX9_emptied, 25)) 35 (by decide +kernel) (by decide +kernel), z_in1 10 (by decide +kernel) (by decide +kernel), by decide +kernel, by decide +kernel⟩
def m_X9_factor : ZD := (yX9_factor, cX9_factor, 5, (some .int), { frames := 1, cells := 0, slots := 0, locals := 21 })
theorem k_X9_factor : z_Cv m_X9_factor 3 := ⟨z_in4 121 (by decide +kernel) (by decide +kernel), z_in4 119 (by decide +kernel) (by decide +kernel), z_in4 120 (by decide +kernel) (by decide +kernel), z_in1 10 (by decide +kernel) (by decide +kernel), by decide +kernel, by decide +kernel⟩
def m_X9_find : ZD := (yX9_find, cX9_find, 2, (some .int), { frames := 4, cells := 0, slots := 0, locals := 98 })
theorem k_X9_find : z_Cv m_X9_find 1 := ⟨z_in4 138 (by decide +kernel) (by decide +kernel), z_in4 136 (by decide +kernel) (by decide +kernel), z_in4 137 (by decide +kernel) (by decide +kernel), z_in1 10 (by decide +kernel) (by decide +kernel), by decide +kernel, by decide +kernel⟩
def m_X9_findLiterals : ZD := (yX9_findLiterals, cX9_findLiterals, 4, none, { frames := 1, cells := 0, slots := 0, locals := 23 })
theorem k_X9_findLiterals : z_Cv m_X9_findLiterals 1 := ⟨z_in4 186 (by decide +kernel) (by decide +kernel), z_in4 185 (by decide +kernel) (by decide +kernel), z_inp (q := (yX9_findLiterals, 25)) 44 (by decide +kernel) (by decide +kernel), z_in1 10 (by decide +kernel) (by decide +kernel), by decide +kernel, by decide +kernel⟩
def m_X9_goesOn : ZD := (yX9_goesOn, cX9_goesOn, 2, (some .boolean), { frames := 0, cells := 0, slots := 0, locals := 0 })
theorem k_X9_goesOn : z_Cv m_X9_goesOn 0 := ⟨z_in5 62 (by decide +kernel) (by decide +kernel), z_in5 61 (by decide +kernel) (by decide +kernel), z_inp (q := (yX9_goesOn, 25)) 64 (by decide +kernel) (by decide +kernel), z_in1 10 (by decide +kernel) (by decide +kernel), by decide +kernel, by decide +kernel⟩
def m_X9_greatest : ZD := (yX9_greatest, cX9_greatest, 7, (some .int), { frames := 1, cells := 0, slots := 0, locals := 23 })
theorem k_X9_greatest : z_Cv m_X9_greatest 2 := ⟨z_in4 210 (by decide +kernel) (by decide +kernel), z_in4 209 (by decide +kernel) (by decide +kernel), z_inp (q := (yX9_greatest, 25)) 50 (by decide +kernel) (by decide +kernel), z_in1 10 (by decide +kernel) (by decide +kernel), by decide +kernel, by decide +kernel⟩
def m_X9_halves : ZD := (yX9_halves, cX9_halves, 3, none, { frames := 2, cells := 0, slots := 0, locals := 47 })
theorem k_X9_halves : z_Cv m_X9_halves 0 := ⟨z_in4 142 (by decide +kernel) (by decide +kernel), z_in4 141 (by decide +kernel) (by decide +kernel), z_inp (q := (yX9_halves, 25)) 34 (by decide +kernel) (by decide +kernel), z_in1 10 (by decide +kernel) (by decide +kernel), by decide +kernel, by decide +kernel⟩
def m_X9_holds : ZD := (yX9_holds, cX9_holds, 2, (some .int), { frames := 2, cells := 0, slots := 0, locals := 49 })
theorem k_X9_holds : z_Cv m_X9_holds 1 := ⟨z_in5 45 (by decide +kernel) (by decide +kernel), z_in5 43 (by decide +kernel) (by decide +kernel), z_in5 44 (by decide +kernel) (by decide +kernel), z_in1 10 (by decide +kernel) (by decide +kernel), by decide +kernel, by decide +kernel⟩
def m_X9_init : ZD := (yX9_init, cX9_init, 1, none, { frames := 1, cells := 16, slots := 1701, locals := 24 })
def m_X9_isBinary : ZD := (yX9_isBinary, cX9_isBinary, 2, (some .boolean), { frames := 0, cells := 0, slots := 0, locals := 0 })
theorem k_X9_isBinary : z_Cv m_X9_isBinary 1 := ⟨z_in4 190 (by decide +kernel) (by decide +kernel), z_in4 189 (by decide +kernel) (by decide +kernel), z_inp (q := (yX9_isBinary, 25)) 45 (by decide +kernel) (by decide +kernel), z_in1 10 (by decide +kernel) (by decide +kernel), by decide +kernel, by decide +kernel⟩
def m_X9_isClique : ZD := (yX9_isClique, cX9_isClique, 6, (some .boolean), { frames := 2, cells := 0, slots := 0, locals := 48 })
theorem k_X9_isClique : z_Cv m_X9_isClique 1 := ⟨z_in4 221 (by decide +kernel) (by decide +kernel), z_in4 220 (by decide +kernel) (by decide +kernel), z_inp (q := (yX9_isClique, 25)) 52 (by decide +kernel) (by decide +kernel), z_in1 10 (by decide +kernel) (by decide +kernel), by decide +kernel, by decide +kernel⟩
def m_X9_isCover : ZD := (yX9_isCover, cX9_isCover, 5, (some .boolean), { frames := 1, cells := 0, slots := 0, locals := 23 })
theorem k_X9_isCover : z_Cv m_X9_isCover 1 := ⟨z_in4 198 (by decide +kernel) (by decide +kernel), z_in4 197 (by decide +kernel) (by decide +kernel), z_inp (q := (yX9_isCover, 25)) 47 (by decide +kernel) (by decide +kernel), z_in1 10 (by decide +kernel) (by decide +kernel), by decide +kernel, by decide +kernel⟩
def m_X9_isCut : ZD := (yX9_isCut, cX9_isCut, 2, (some .boolean), { frames := 0, cells := 0, slots := 0, locals := 0 })
theorem k_X9_isCut : z_Cv m_X9_isCut 1 := ⟨z_in4 237 (by decide +kernel) (by decide +kernel), z_in4 236 (by decide +kernel) (by decide +kernel), z_inp (q := (yX9_isCut, 25)) 54 (by decide +kernel) (by decide +kernel), z_in1 10 (by decide +kernel) (by decide +kernel), by decide +kernel, by decide +kernel⟩
def m_X9_isName : ZD := (yX9_isName, cX9_isName, 2, (some .boolean), { frames := 0, cells := 0, slots := 0, locals := 0 })
theorem k_X9_isName : z_Cv m_X9_isName 1 := ⟨z_in4 129 (by decide +kernel) (by decide +kernel), z_in4 128 (by decide +kernel) (by decide +kernel), z_inp (q := (yX9_isName, 25)) 33 (by decide +kernel) (by decide +kernel), z_in1 10 (by decide +kernel) (by decide +kernel), by decide +kernel, by decide +kernel⟩
def m_X9_isPlan : ZD := (yX9_isPlan, cX9_isPlan, 4, (some .boolean), { frames := 0, cells := 0, slots := 0, locals := 0 })
theorem k_X9_isPlan : z_Cv m_X9_isPlan 0 := ⟨z_in5 58 (by decide +kernel) (by decide +kernel), z_in5 57 (by decide +kernel) (by decide +kernel), z_inp (q := (yX9_isPlan, 25)) 63 (by decide +kernel) (by decide +kernel), z_in1 10 (by decide +kernel) (by decide +kernel), by decide +kernel, by decide +kernel⟩
def m_X9_isRow : ZD := (yX9_isRow, cX9_isRow, 2, (some .boolean), { frames := 0, cells := 0, slots := 0, locals := 0 })
theorem k_X9_isRow : z_Cv m_X9_isRow 1 := ⟨z_in4 125 (by decide +kernel) (by decide +kernel), z_in4 124 (by decide +kernel) (by decide +kernel), z_inp (q := (yX9_isRow, 25)) 32 (by decide +kernel) (by decide +kernel), z_in1 10 (by decide +kernel) (by decide +kernel), by decide +kernel, by decide +kernel⟩
def m_X9_isThere : ZD := (yX9_isThere, cX9_isThere, 4, (some .boolean), { frames := 0, cells := 0, slots := 0, locals := 0 })
theorem k_X9_isThere : z_Cv m_X9_isThere 0 := ⟨z_in4 171 (by decide +kernel) (by decide +kernel), z_in4 170 (by decide +kernel) (by decide +kernel), z_inp (q := (yX9_isThere, 25)) 41 (by decide +kernel) (by decide +kernel), z_in1 10 (by decide +kernel) (by decide +kernel), by decide +kernel, by decide +kernel⟩
def m_X9_least : ZD := (yX9_least, cX9_least, 4, (some .int), { frames := 0, cells := 0, slots := 0, locals := 0 })
theorem k_X9_least : z_Cv m_X9_least 2 := ⟨z_in4 194 (by decide +kernel) (by decide +kernel), z_in4 193 (by decide +kernel) (by decide +kernel), z_inp (q := (yX9_least, 25)) 46 (by decide +kernel) (by decide +kernel), z_in1 10 (by decide +kernel) (by decide +kernel), by decide +kernel, by decide +kernel⟩
def m_X9_name : ZD := (yX9_name, cX9_name, 4, (some .int), { frames := 0, cells := 0, slots := 0, locals := 0 })
theorem k_X9_name : z_Cv m_X9_name 2 := ⟨z_in4 113 (by decide +kernel) (by decide +kernel), z_in4 111 (by decide +kernel) (by decide +kernel), z_in4 112 (by decide +kernel) (by decide +kernel), z_in1 10 (by decide +kernel) (by decide +kernel), by decide +kernel, by decide +kernel⟩
def m_X9_offer : ZD := (yX9_offer, cX9_offer, 5, none, { frames := 1, cells := 0, slots := 0, locals := 23 })
theorem k_X9_offer : z_Cv m_X9_offer 1 := ⟨z_in4 167 (by decide +kernel) (by decide +kernel), z_in4 166 (by decide +kernel) (by decide +kernel), z_inp (q := (yX9_offer, 25)) 40 (by decide +kernel) (by decide +kernel), z_in1 10 (by decide +kernel) (by decide +kernel), by decide +kernel, by decide +kernel⟩
def m_X9_over : ZD := (yX9_over, cX9_over, 5, (some .long), { frames := 0, cells := 0, slots := 0, locals := 0 })
theorem k_X9_over : z_Cv m_X9_over 1 := ⟨z_in5 37 (by decide +kernel) (by decide +kernel), z_in5 36 (by decide +kernel) (by decide +kernel), z_inp (q := (yX9_over, 25)) 60 (by decide +kernel) (by decide +kernel), z_in1 10 (by decide +kernel) (by decide +kernel), by decide +kernel, by decide +kernel⟩
def m_X9_placeOf : ZD := (yX9_placeOf, cX9_placeOf, 5, (some .int), { frames := 1, cells := 0, slots := 0, locals := 21 })
theorem k_X9_placeOf : z_Cv m_X9_placeOf 3 := ⟨z_in5 5 (by decide +kernel) (by decide +kernel), z_in5 4 (by decide +kernel) (by decide +kernel), z_inp (q := (yX9_placeOf, 25)) 55 (by decide +kernel) (by decide +kernel), z_in1 10 (by decide +kernel) (by decide +kernel), by decide +kernel, by decide +kernel⟩
def m_X9_plans : ZD := (yX9_plans, cX9_plans, 1, (some .int), { frames := 2, cells := 0, slots := 0, locals := 49 })
theorem k_X9_plans : z_Cv m_X9_plans 0 := ⟨z_in5 66 (by decide +kernel) (by decide +kernel), z_in5 64 (by decide +kernel) (by decide +kernel), z_in5 65 (by decide +kernel) (by decide +kernel), z_in1 10 (by decide +kernel) (by decide +kernel), by decide +kernel, by decide +kernel⟩
def m_X9_plant : ZD := (yX9_plant, cX9_plant, 6, (some .int), { frames := 2, cells := 0, slots := 0, locals := 45 })
theorem k_X9_plant : z_Cv m_X9_plant 4 := ⟨z_in5 9 (by decide +kernel) (by decide +kernel), z_in5 7 (by decide +kernel) (by decide +kernel), z_in5 8 (by decide +kernel) (by decide +kernel), z_in1 10 (by decide +kernel) (by decide +kernel), by decide +kernel, by decide +kernel⟩
def m_X9_point : ZD := (yX9_point, cX9_point, 4, (some .int), { frames := 1, cells := 0, slots := 0, locals := 21 })
theorem k_X9_point : z_Cv m_X9_point 3 := ⟨z_in4 133 (by decide +kernel) (by decide +kernel), z_in4 131 (by decide +kernel) (by decide +kernel), z_in4 132 (by decide +kernel) (by decide +kernel), z_in1 10 (by decide +kernel) (by decide +kernel), by decide +kernel, by decide +kernel⟩
def m_X9_proof : ZD := (yX9_proof, cX9_proof, 5, (some .int), { frames := 2, cells := 0, slots := 0, locals := 45 })
theorem k_X9_proof : z_Cv m_X9_proof 3 := ⟨z_in5 1 (by decide +kernel) (by decide +kernel), z_in4 239 (by decide +kernel) (by decide +kernel), z_in5 0 (by decide +kernel) (by decide +kernel), z_in1 10 (by decide +kernel) (by decide +kernel), by decide +kernel, by decide +kernel⟩
def m_X9_rounded : ZD := (yX9_rounded, cX9_rounded, 5, none, { frames := 2, cells := 0, slots := 0, locals := 47 })
theorem k_X9_rounded : z_Cv m_X9_rounded 0 := ⟨z_in4 175 (by decide +kernel) (by decide +kernel), z_in4 174 (by decide +kernel) (by decide +kernel), z_inp (q := (yX9_rounded, 25)) 42 (by decide +kernel) (by decide +kernel), z_in1 10 (by decide +kernel) (by decide +kernel), by decide +kernel, by decide +kernel⟩
def m_X9_row : ZD := (yX9_row, cX9_row, 3, (some .int), { frames := 0, cells := 0, slots := 0, locals := 0 })
theorem k_X9_row : z_Cv m_X9_row 1 := ⟨z_in4 117 (by decide +kernel) (by decide +kernel), z_in4 115 (by decide +kernel) (by decide +kernel), z_in4 116 (by decide +kernel) (by decide +kernel), z_in1 10 (by decide +kernel) (by decide +kernel), by decide +kernel, by decide +kernel⟩
def m_X9_strength : ZD := (yX9_strength, cX9_strength, 11, (some .long), { frames := 1, cells := 0, slots := 0, locals := 24 })
theorem k_X9_strength : z_Cv m_X9_strength 2 := ⟨z_in5 33 (by decide +kernel) (by decide +kernel), z_in5 31 (by decide +kernel) (by decide +kernel), z_in5 32 (by decide +kernel) (by decide +kernel), z_in1 10 (by decide +kernel) (by decide +kernel), by decide +kernel, by decide +kernel⟩
def m_X9_takeHigh : ZD := (yX9_takeHigh, cX9_takeHigh, 3, none, { frames := 0, cells := 0, slots := 0, locals := 0 })
theorem k_X9_takeHigh : z_Cv m_X9_takeHigh 2 := ⟨z_in4 154 (by decide +kernel) (by decide +kernel), z_in4 153 (by decide +kernel) (by decide +kernel), z_inp (q := (yX9_takeHigh, 25)) 37 (by decide +kernel) (by decide +kernel), z_in1 10 (by decide +kernel) (by decide +kernel), by decide +kernel, by decide +kernel⟩
def m_X9_takeLow : ZD := (yX9_takeLow, cX9_takeLow, 3, none, { frames := 0, cells := 0, slots := 0, locals := 0 })
theorem k_X9_takeLow : z_Cv m_X9_takeLow 2 := ⟨z_in4 158 (by decide +kernel) (by decide +kernel), z_in4 157 (by decide +kernel) (by decide +kernel), z_inp (q := (yX9_takeLow, 25)) 38 (by decide +kernel) (by decide +kernel), z_in1 10 (by decide +kernel) (by decide +kernel), by decide +kernel, by decide +kernel⟩
def m_X9_takeRow : ZD := (yX9_takeRow, cX9_takeRow, 3, none, { frames := 0, cells := 0, slots := 0, locals := 0 })
theorem k_X9_takeRow : z_Cv m_X9_takeRow 1 := ⟨z_in4 150 (by decide +kernel) (by decide +kernel), z_in4 149 (by decide +kernel) (by decide +kernel), z_inp (q := (yX9_takeRow, 25)) 36 (by decide +kernel) (by decide +kernel), z_in1 10 (by decide +kernel) (by decide +kernel), by decide +kernel, by decide +kernel⟩
def m_X9_thrown : ZD := (yX9_thrown, cX9_thrown, 1, (some .int), { frames := 0, cells := 0, slots := 0, locals := 0 })
theorem k_X9_thrown : z_Cv m_X9_thrown 0 := ⟨z_in4 109 (by decide +kernel) (by decide +kernel), z_in4 107 (by decide +kernel) (by decide +kernel), z_in4 108 (by decide +kernel) (by decide +kernel), z_in1 10 (by decide +kernel) (by decide +kernel), by decide +kernel, by decide +kernel⟩
def m_X9_told : ZD := (yX9_told, cX9_told, 4, (some .int), { frames := 4, cells := 0, slots := 0, locals := 94 })
theorem k_X9_told : z_Cv m_X9_told 1 := ⟨z_in5 74 (by decide +kernel) (by decide +kernel), z_in5 72 (by decide +kernel) (by decide +kernel), z_in5 73 (by decide +kernel) (by decide +kernel), z_in1 10 (by decide +kernel) (by decide +kernel), by decide +kernel, by decide +kernel⟩
def m_X9_tooMany : ZD := (yX9_tooMany, cX9_tooMany, 4, (some .boolean), { frames := 0, cells := 0, slots := 0, locals := 0 })
theorem k_X9_tooMany : z_Cv m_X9_tooMany 0 := ⟨z_in5 49 (by decide +kernel) (by decide +kernel), z_in5 48 (by decide +kernel) (by decide +kernel), z_inp (q := (yX9_tooMany, 25)) 61 (by decide +kernel) (by decide +kernel), z_in1 10 (by decide +kernel) (by decide +kernel), by decide +kernel, by decide +kernel⟩
def m_X9_turn : ZD := (yX9_turn, cX9_turn, 6, (some .int), { frames := 1, cells := 0, slots := 0, locals := 24 })
theorem k_X9_turn : z_Cv m_X9_turn 0 := ⟨z_in5 70 (by decide +kernel) (by decide +kernel), z_in5 68 (by decide +kernel) (by decide +kernel), z_in5 69 (by decide +kernel) (by decide +kernel), z_in1 10 (by decide +kernel) (by decide +kernel), by decide +kernel, by decide +kernel⟩
def m_X9_weightOf : ZD := (yX9_weightOf, cX9_weightOf, 4, (some .int), { frames := 0, cells := 0, slots := 0, locals := 0 })
theorem k_X9_weightOf : z_Cv m_X9_weightOf 1 := ⟨z_in4 202 (by decide +kernel) (by decide +kernel), z_in4 201 (by decide +kernel) (by decide +kernel), z_inp (q := (yX9_weightOf, 25)) 48 (by decide +kernel) (by decide +kernel), z_in1 10 (by decide +kernel) (by decide +kernel), by decide +kernel, by decide +kernel⟩
