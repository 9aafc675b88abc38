/-! words of the tables, by their places (laid by wip/whole/gen_words.py) -/
def wsAll : List Cond := lw_tbl.filter goodWord
theorem wt0 {w : Cond} (i : Nat) (h : (k2_sels lw_privs)[i]? = some w) (g : goodWord w = true) : w ∈ wsAll := List.mem_filter.mpr ⟨List.mem_append_left _ (List.mem_of_getElem? h), g⟩
theorem wt1 {w : Cond} (i : Nat) (h : tables_1_1[i]? = some w) (g : goodWord w = true) : w ∈ wsAll := List.mem_filter.mpr ⟨List.mem_append_right _ (List.mem_append_left _ (List.mem_of_getElem? h)), g⟩
theorem wt2 {w : Cond} (i : Nat) (h : tables_1_2[i]? = some w) (g : goodWord w = true) : w ∈ wsAll := List.mem_filter.mpr ⟨List.mem_append_right _ (List.mem_append_right _ (List.mem_append_left _ (List.mem_of_getElem? h))), g⟩
theorem wt3 {w : Cond} (i : Nat) (h : tables_1_3[i]? = some w) (g : goodWord w = true) : w ∈ wsAll := List.mem_filter.mpr ⟨List.mem_append_right _ (List.mem_append_right _ (List.mem_append_right _ (List.mem_of_getElem? h))), g⟩
theorem in_X0 : Cond.initialized RX0 ∈ wsAll := wt1 2 (by decide +kernel) rfl
theorem in_X1 : Cond.initialized RX1 ∈ wsAll := wt1 4 (by decide +kernel) rfl
theorem in_X2 : Cond.initialized RX2 ∈ wsAll := wt1 3 (by decide +kernel) rfl
theorem in_X3 : Cond.initialized RX3 ∈ wsAll := wt1 5 (by decide +kernel) rfl
theorem in_X4 : Cond.initialized RX4 ∈ wsAll := wt1 1 (by decide +kernel) rfl
theorem in_L : Cond.initialized RL ∈ wsAll := wt1 0 (by decide +kernel) rfl
theorem lay_X0 : ∀ w ∈ u_ws RX0 TX0 13, w ∈ wsAll := by
  intro w hw
  obtain ⟨k, hk, rfl⟩ := List.mem_map.mp hw
  rw [List.mem_range] at hk
  rcases (show k = 0 ∨ k = 1 ∨ k = 2 ∨ k = 3 ∨ k = 4 ∨ k = 5 ∨ k = 6 ∨ k = 7 ∨ k = 8 ∨ k = 9 ∨ k = 10 ∨ k = 11 ∨ k = 12 by omega) with rfl | rfl | rfl | rfl | rfl | rfl | rfl | rfl | rfl | rfl | rfl | rfl | rfl
  · exact wt1 123 (by decide +kernel) rfl
  · exact wt1 125 (by decide +kernel) rfl
  · exact wt1 127 (by decide +kernel) rfl
  · exact wt1 129 (by decide +kernel) rfl
  · exact wt1 131 (by decide +kernel) rfl
  · exact wt1 133 (by decide +kernel) rfl
  · exact wt1 135 (by decide +kernel) rfl
  · exact wt1 137 (by decide +kernel) rfl
  · exact wt1 139 (by decide +kernel) rfl
  · exact wt1 141 (by decide +kernel) rfl
  · exact wt1 143 (by decide +kernel) rfl
  · exact wt1 145 (by decide +kernel) rfl
  · exact wt1 147 (by decide +kernel) rfl
theorem lay_X1 : ∀ w ∈ u_ws RX1 TX1 2, w ∈ wsAll := by
  intro w hw
  obtain ⟨k, hk, rfl⟩ := List.mem_map.mp hw
  rw [List.mem_range] at hk
  rcases (show k = 0 ∨ k = 1 by omega) with rfl | rfl
  · exact wt1 162 (by decide +kernel) rfl
  · exact wt1 164 (by decide +kernel) rfl
theorem lay_X2 : ∀ w ∈ u_ws RX2 TX2 16, w ∈ wsAll := by
  intro w hw
  obtain ⟨k, hk, rfl⟩ := List.mem_map.mp hw
  rw [List.mem_range] at hk
  rcases (show k = 0 ∨ k = 1 ∨ k = 2 ∨ k = 3 ∨ k = 4 ∨ k = 5 ∨ k = 6 ∨ k = 7 ∨ k = 8 ∨ k = 9 ∨ k = 10 ∨ k = 11 ∨ k = 12 ∨ k = 13 ∨ k = 14 ∨ k = 15 by omega) with rfl | rfl | rfl | rfl | rfl | rfl | rfl | rfl | rfl | rfl | rfl | rfl | rfl | rfl | rfl | rfl
  · exact wt1 67 (by decide +kernel) rfl
  · exact wt1 69 (by decide +kernel) rfl
  · exact wt1 71 (by decide +kernel) rfl
  · exact wt1 73 (by decide +kernel) rfl
  · exact wt1 75 (by decide +kernel) rfl
  · exact wt1 77 (by decide +kernel) rfl
  · exact wt1 79 (by decide +kernel) rfl
  · exact wt1 81 (by decide +kernel) rfl
  · exact wt1 83 (by decide +kernel) rfl
  · exact wt1 85 (by decide +kernel) rfl
  · exact wt1 87 (by decide +kernel) rfl
  · exact wt1 89 (by decide +kernel) rfl
  · exact wt1 91 (by decide +kernel) rfl
  · exact wt1 93 (by decide +kernel) rfl
  · exact wt1 95 (by decide +kernel) rfl
  · exact wt1 97 (by decide +kernel) rfl
theorem lay_X3 : ∀ w ∈ u_ws RX3 TX3 4, w ∈ wsAll := by
  intro w hw
  obtain ⟨k, hk, rfl⟩ := List.mem_map.mp hw
  rw [List.mem_range] at hk
  rcases (show k = 0 ∨ k = 1 ∨ k = 2 ∨ k = 3 by omega) with rfl | rfl | rfl | rfl
  · exact wt1 177 (by decide +kernel) rfl
  · exact wt1 179 (by decide +kernel) rfl
  · exact wt1 181 (by decide +kernel) rfl
  · exact wt1 183 (by decide +kernel) rfl
theorem lay_X4 : ∀ w ∈ u_ws RX4 TX4 8, w ∈ wsAll := by
  intro w hw
  obtain ⟨k, hk, rfl⟩ := List.mem_map.mp hw
  rw [List.mem_range] at hk
  rcases (show k = 0 ∨ k = 1 ∨ k = 2 ∨ k = 3 ∨ k = 4 ∨ k = 5 ∨ k = 6 ∨ k = 7 by omega) with rfl | rfl | rfl | rfl | rfl | rfl | rfl | rfl
  · exact wt1 194 (by decide +kernel) rfl
  · exact wt1 196 (by decide +kernel) rfl
  · exact wt1 198 (by decide +kernel) rfl
  · exact wt1 200 (by decide +kernel) rfl
  · exact wt1 202 (by decide +kernel) rfl
  · exact wt1 204 (by decide +kernel) rfl
  · exact wt1 206 (by decide +kernel) rfl
  · exact wt1 208 (by decide +kernel) rfl
theorem cl_L_11 : Cond.classLink RL 11 "TideMills" ∈ wsAll := wt1 13 (by decide +kernel) rfl
theorem it_X4 : Cond.instantiable RX4 8 ∈ wsAll := wt1 14 (by decide +kernel) rfl
theorem ml_L_115 : Cond.methodLink RL 115 yX4_init ∈ wsAll := wt1 15 (by decide +kernel) rfl
theorem mi_X4_init : Cond.instanceMethod yX4_init ∈ wsAll := wt1 16 (by decide +kernel) rfl
theorem mc_X4_init : Cond.code yX4_init cX4_init 1 (none) ∈ wsAll := wt1 17 (by decide +kernel) rfl
theorem cl_X4_7 : Cond.classLink RX4 7 "TideMills$Creek" ∈ wsAll := wt1 21 (by decide +kernel) rfl
theorem it_X0 : Cond.instantiable RX0 13 ∈ wsAll := wt1 22 (by decide +kernel) rfl
theorem ml_X4_9 : Cond.methodLink RX4 9 yX0_init ∈ wsAll := wt1 23 (by decide +kernel) rfl
theorem mi_X0_init : Cond.instanceMethod yX0_init ∈ wsAll := wt1 24 (by decide +kernel) rfl
theorem mc_X0_init : Cond.code yX0_init cX0_init 3 (none) ∈ wsAll := wt1 25 (by decide +kernel) rfl
theorem cl_X0_48 : Cond.classLink RX0 48 "TideMills$Mill" ∈ wsAll := wt1 27 (by decide +kernel) rfl
theorem it_X2 : Cond.instantiable RX2 16 ∈ wsAll := wt1 28 (by decide +kernel) rfl
theorem ml_X0_50 : Cond.methodLink RX0 50 yX2_init ∈ wsAll := wt1 29 (by decide +kernel) rfl
theorem mi_X2_init : Cond.instanceMethod yX2_init ∈ wsAll := wt1 30 (by decide +kernel) rfl
theorem mc_X2_init : Cond.code yX2_init cX2_init 3 (none) ∈ wsAll := wt1 31 (by decide +kernel) rfl
theorem fl_X2_55 : Cond.fieldLink RX2 55 (TX2 0).1 (TX2 0).2.1 (TX2 0).2.2.1 ∈ wsAll := wt1 33 (by decide +kernel) rfl
theorem fl_X0_64 : Cond.fieldLink RX0 64 (TX2 0).1 (TX2 0).2.1 (TX2 0).2.2.1 ∈ wsAll := wt1 34 (by decide +kernel) rfl
theorem fl_X4_269 : Cond.fieldLink RX4 269 (TX2 0).1 (TX2 0).2.1 (TX2 0).2.2.1 ∈ wsAll := wt1 35 (by decide +kernel) rfl
theorem fl_X2_58 : Cond.fieldLink RX2 58 (TX2 1).1 (TX2 1).2.1 (TX2 1).2.2.1 ∈ wsAll := wt1 36 (by decide +kernel) rfl
theorem fl_X0_61 : Cond.fieldLink RX0 61 (TX2 1).1 (TX2 1).2.1 (TX2 1).2.2.1 ∈ wsAll := wt1 37 (by decide +kernel) rfl
theorem fl_X2_9 : Cond.fieldLink RX2 9 (TX2 2).1 (TX2 2).2.1 (TX2 2).2.2.1 ∈ wsAll := wt1 38 (by decide +kernel) rfl
theorem fl_X4_69 : Cond.fieldLink RX4 69 (TX2 2).1 (TX2 2).2.1 (TX2 2).2.2.1 ∈ wsAll := wt1 39 (by decide +kernel) rfl
theorem fl_X2_15 : Cond.fieldLink RX2 15 (TX2 3).1 (TX2 3).2.1 (TX2 3).2.2.1 ∈ wsAll := wt1 40 (by decide +kernel) rfl
theorem fl_X4_56 : Cond.fieldLink RX4 56 (TX2 3).1 (TX2 3).2.1 (TX2 3).2.2.1 ∈ wsAll := wt1 41 (by decide +kernel) rfl
theorem fl_X0_78 : Cond.fieldLink RX0 78 (TX2 3).1 (TX2 3).2.1 (TX2 3).2.2.1 ∈ wsAll := wt1 42 (by decide +kernel) rfl
theorem fl_X2_18 : Cond.fieldLink RX2 18 (TX2 4).1 (TX2 4).2.1 (TX2 4).2.2.1 ∈ wsAll := wt1 43 (by decide +kernel) rfl
theorem fl_X4_72 : Cond.fieldLink RX4 72 (TX2 4).1 (TX2 4).2.1 (TX2 4).2.2.1 ∈ wsAll := wt1 44 (by decide +kernel) rfl
theorem fl_X2_21 : Cond.fieldLink RX2 21 (TX2 5).1 (TX2 5).2.1 (TX2 5).2.2.1 ∈ wsAll := wt1 45 (by decide +kernel) rfl
theorem fl_X4_78 : Cond.fieldLink RX4 78 (TX2 5).1 (TX2 5).2.1 (TX2 5).2.2.1 ∈ wsAll := wt1 46 (by decide +kernel) rfl
theorem fl_X2_24 : Cond.fieldLink RX2 24 (TX2 6).1 (TX2 6).2.1 (TX2 6).2.2.1 ∈ wsAll := wt1 47 (by decide +kernel) rfl
theorem fl_X4_75 : Cond.fieldLink RX4 75 (TX2 6).1 (TX2 6).2.1 (TX2 6).2.2.1 ∈ wsAll := wt1 48 (by decide +kernel) rfl
theorem fl_X2_27 : Cond.fieldLink RX2 27 (TX2 7).1 (TX2 7).2.1 (TX2 7).2.2.1 ∈ wsAll := wt1 49 (by decide +kernel) rfl
theorem fl_X4_81 : Cond.fieldLink RX4 81 (TX2 7).1 (TX2 7).2.1 (TX2 7).2.2.1 ∈ wsAll := wt1 50 (by decide +kernel) rfl
theorem fl_X2_30 : Cond.fieldLink RX2 30 (TX2 8).1 (TX2 8).2.1 (TX2 8).2.2.1 ∈ wsAll := wt1 51 (by decide +kernel) rfl
theorem fl_X4_84 : Cond.fieldLink RX4 84 (TX2 8).1 (TX2 8).2.1 (TX2 8).2.2.1 ∈ wsAll := wt1 52 (by decide +kernel) rfl
theorem fl_X0_75 : Cond.fieldLink RX0 75 (TX2 8).1 (TX2 8).2.1 (TX2 8).2.2.1 ∈ wsAll := wt1 53 (by decide +kernel) rfl
theorem fl_X2_33 : Cond.fieldLink RX2 33 (TX2 9).1 (TX2 9).2.1 (TX2 9).2.2.1 ∈ wsAll := wt1 54 (by decide +kernel) rfl
theorem fl_X0_140 : Cond.fieldLink RX0 140 (TX2 9).1 (TX2 9).2.1 (TX2 9).2.2.1 ∈ wsAll := wt1 55 (by decide +kernel) rfl
theorem fl_X4_289 : Cond.fieldLink RX4 289 (TX2 9).1 (TX2 9).2.1 (TX2 9).2.2.1 ∈ wsAll := wt1 56 (by decide +kernel) rfl
theorem fl_X2_36 : Cond.fieldLink RX2 36 (TX2 10).1 (TX2 10).2.1 (TX2 10).2.2.1 ∈ wsAll := wt1 57 (by decide +kernel) rfl
theorem fl_X0_143 : Cond.fieldLink RX0 143 (TX2 10).1 (TX2 10).2.1 (TX2 10).2.2.1 ∈ wsAll := wt1 58 (by decide +kernel) rfl
theorem fl_X4_292 : Cond.fieldLink RX4 292 (TX2 10).1 (TX2 10).2.1 (TX2 10).2.2.1 ∈ wsAll := wt1 59 (by decide +kernel) rfl
theorem fl_X2_39 : Cond.fieldLink RX2 39 (TX2 11).1 (TX2 11).2.1 (TX2 11).2.2.1 ∈ wsAll := wt1 60 (by decide +kernel) rfl
theorem fl_X4_129 : Cond.fieldLink RX4 129 (TX2 11).1 (TX2 11).2.1 (TX2 11).2.2.1 ∈ wsAll := wt1 61 (by decide +kernel) rfl
theorem fl_X0_81 : Cond.fieldLink RX0 81 (TX2 11).1 (TX2 11).2.1 (TX2 11).2.2.1 ∈ wsAll := wt1 62 (by decide +kernel) rfl
theorem fl_X2_42 : Cond.fieldLink RX2 42 (TX2 12).1 (TX2 12).2.1 (TX2 12).2.2.1 ∈ wsAll := wt1 63 (by decide +kernel) rfl
theorem fl_X2_46 : Cond.fieldLink RX2 46 (TX2 13).1 (TX2 13).2.1 (TX2 13).2.2.1 ∈ wsAll := wt1 64 (by decide +kernel) rfl
theorem fl_X2_49 : Cond.fieldLink RX2 49 (TX2 14).1 (TX2 14).2.1 (TX2 14).2.2.1 ∈ wsAll := wt1 65 (by decide +kernel) rfl
theorem fl_X2_52 : Cond.fieldLink RX2 52 (TX2 15).1 (TX2 15).2.1 (TX2 15).2.2.1 ∈ wsAll := wt1 66 (by decide +kernel) rfl
theorem fl_X0_53 : Cond.fieldLink RX0 53 (TX0 0).1 (TX0 0).2.1 (TX0 0).2.2.1 ∈ wsAll := wt1 101 (by decide +kernel) rfl
theorem fl_X0_9 : Cond.fieldLink RX0 9 (TX0 1).1 (TX0 1).2.1 (TX0 1).2.2.1 ∈ wsAll := wt1 102 (by decide +kernel) rfl
theorem fl_X0_15 : Cond.fieldLink RX0 15 (TX0 2).1 (TX0 2).2.1 (TX0 2).2.2.1 ∈ wsAll := wt1 103 (by decide +kernel) rfl
theorem fl_X0_18 : Cond.fieldLink RX0 18 (TX0 3).1 (TX0 3).2.1 (TX0 3).2.2.1 ∈ wsAll := wt1 104 (by decide +kernel) rfl
theorem fl_X0_21 : Cond.fieldLink RX0 21 (TX0 4).1 (TX0 4).2.1 (TX0 4).2.2.1 ∈ wsAll := wt1 105 (by decide +kernel) rfl
theorem fl_X4_184 : Cond.fieldLink RX4 184 (TX0 4).1 (TX0 4).2.1 (TX0 4).2.2.1 ∈ wsAll := wt1 106 (by decide +kernel) rfl
theorem fl_X0_24 : Cond.fieldLink RX0 24 (TX0 5).1 (TX0 5).2.1 (TX0 5).2.2.1 ∈ wsAll := wt1 107 (by decide +kernel) rfl
theorem fl_X4_293 : Cond.fieldLink RX4 293 (TX0 5).1 (TX0 5).2.1 (TX0 5).2.2.1 ∈ wsAll := wt1 108 (by decide +kernel) rfl
theorem fl_X0_27 : Cond.fieldLink RX0 27 (TX0 6).1 (TX0 6).2.1 (TX0 6).2.2.1 ∈ wsAll := wt1 109 (by decide +kernel) rfl
theorem fl_X4_296 : Cond.fieldLink RX4 296 (TX0 6).1 (TX0 6).2.1 (TX0 6).2.2.1 ∈ wsAll := wt1 110 (by decide +kernel) rfl
theorem fl_X0_30 : Cond.fieldLink RX0 30 (TX0 7).1 (TX0 7).2.1 (TX0 7).2.2.1 ∈ wsAll := wt1 111 (by decide +kernel) rfl
theorem fl_X4_299 : Cond.fieldLink RX4 299 (TX0 7).1 (TX0 7).2.1 (TX0 7).2.2.1 ∈ wsAll := wt1 112 (by decide +kernel) rfl
theorem fl_X0_33 : Cond.fieldLink RX0 33 (TX0 8).1 (TX0 8).2.1 (TX0 8).2.2.1 ∈ wsAll := wt1 113 (by decide +kernel) rfl
theorem fl_X4_302 : Cond.fieldLink RX4 302 (TX0 8).1 (TX0 8).2.1 (TX0 8).2.2.1 ∈ wsAll := wt1 114 (by decide +kernel) rfl
theorem fl_X0_36 : Cond.fieldLink RX0 36 (TX0 9).1 (TX0 9).2.1 (TX0 9).2.2.1 ∈ wsAll := wt1 115 (by decide +kernel) rfl
theorem fl_X4_308 : Cond.fieldLink RX4 308 (TX0 9).1 (TX0 9).2.1 (TX0 9).2.2.1 ∈ wsAll := wt1 116 (by decide +kernel) rfl
theorem fl_X0_39 : Cond.fieldLink RX0 39 (TX0 10).1 (TX0 10).2.1 (TX0 10).2.2.1 ∈ wsAll := wt1 117 (by decide +kernel) rfl
theorem fl_X4_111 : Cond.fieldLink RX4 111 (TX0 10).1 (TX0 10).2.1 (TX0 10).2.2.1 ∈ wsAll := wt1 118 (by decide +kernel) rfl
theorem fl_X0_42 : Cond.fieldLink RX0 42 (TX0 11).1 (TX0 11).2.1 (TX0 11).2.2.1 ∈ wsAll := wt1 119 (by decide +kernel) rfl
theorem fl_X4_314 : Cond.fieldLink RX4 314 (TX0 11).1 (TX0 11).2.1 (TX0 11).2.2.1 ∈ wsAll := wt1 120 (by decide +kernel) rfl
theorem fl_X0_45 : Cond.fieldLink RX0 45 (TX0 12).1 (TX0 12).2.1 (TX0 12).2.2.1 ∈ wsAll := wt1 121 (by decide +kernel) rfl
theorem fl_X4_151 : Cond.fieldLink RX4 151 (TX0 12).1 (TX0 12).2.1 (TX0 12).2.2.1 ∈ wsAll := wt1 122 (by decide +kernel) rfl
theorem cl_X4_26 : Cond.classLink RX4 26 "TideMills$History" ∈ wsAll := wt1 150 (by decide +kernel) rfl
theorem it_X1 : Cond.instantiable RX1 2 ∈ wsAll := wt1 151 (by decide +kernel) rfl
theorem ml_X4_28 : Cond.methodLink RX4 28 yX1_init ∈ wsAll := wt1 152 (by decide +kernel) rfl
theorem mi_X1_init : Cond.instanceMethod yX1_init ∈ wsAll := wt1 153 (by decide +kernel) rfl
theorem mc_X1_init : Cond.code yX1_init cX1_init 2 (none) ∈ wsAll := wt1 154 (by decide +kernel) rfl
theorem cl_X1_9 : Cond.classLink RX1 9 "TideMills$Creek" ∈ wsAll := wt1 156 (by decide +kernel) rfl
theorem ml_X1_21 : Cond.methodLink RX1 21 yX0_init ∈ wsAll := wt1 158 (by decide +kernel) rfl
theorem fl_X1_11 : Cond.fieldLink RX1 11 (TX1 0).1 (TX1 0).2.1 (TX1 0).2.2.1 ∈ wsAll := wt1 159 (by decide +kernel) rfl
theorem fl_X1_17 : Cond.fieldLink RX1 17 (TX1 1).1 (TX1 1).2.1 (TX1 1).2.2.1 ∈ wsAll := wt1 160 (by decide +kernel) rfl
theorem fl_X4_175 : Cond.fieldLink RX4 175 (TX1 1).1 (TX1 1).2.1 (TX1 1).2.2.1 ∈ wsAll := wt1 161 (by decide +kernel) rfl
theorem cl_X4_41 : Cond.classLink RX4 41 "TideMills$PartReader" ∈ wsAll := wt1 167 (by decide +kernel) rfl
theorem it_X3 : Cond.instantiable RX3 4 ∈ wsAll := wt1 168 (by decide +kernel) rfl
theorem mi_X3_init : Cond.instanceMethod yX3_init ∈ wsAll := wt1 170 (by decide +kernel) rfl
theorem mc_X3_init : Cond.code yX3_init cX3_init 1 (none) ∈ wsAll := wt1 171 (by decide +kernel) rfl
theorem fl_X3_9 : Cond.fieldLink RX3 9 (TX3 0).1 (TX3 0).2.1 (TX3 0).2.2.1 ∈ wsAll := wt1 173 (by decide +kernel) rfl
theorem fl_X3_15 : Cond.fieldLink RX3 15 (TX3 1).1 (TX3 1).2.1 (TX3 1).2.2.1 ∈ wsAll := wt1 174 (by decide +kernel) rfl
theorem fl_X3_19 : Cond.fieldLink RX3 19 (TX3 2).1 (TX3 2).2.1 (TX3 2).2.2.1 ∈ wsAll := wt1 175 (by decide +kernel) rfl
theorem fl_X3_22 : Cond.fieldLink RX3 22 (TX3 3).1 (TX3 3).2.1 (TX3 3).2.2.1 ∈ wsAll := wt1 176 (by decide +kernel) rfl
theorem fl_X4_10 : Cond.fieldLink RX4 10 (TX4 0).1 (TX4 0).2.1 (TX4 0).2.2.1 ∈ wsAll := wt1 186 (by decide +kernel) rfl
theorem fl_X4_16 : Cond.fieldLink RX4 16 (TX4 1).1 (TX4 1).2.1 (TX4 1).2.2.1 ∈ wsAll := wt1 187 (by decide +kernel) rfl
theorem fl_X4_19 : Cond.fieldLink RX4 19 (TX4 2).1 (TX4 2).2.1 (TX4 2).2.2.1 ∈ wsAll := wt1 188 (by decide +kernel) rfl
theorem fl_X4_22 : Cond.fieldLink RX4 22 (TX4 3).1 (TX4 3).2.1 (TX4 3).2.2.1 ∈ wsAll := wt1 189 (by decide +kernel) rfl
theorem fl_X4_29 : Cond.fieldLink RX4 29 (TX4 4).1 (TX4 4).2.1 (TX4 4).2.2.1 ∈ wsAll := wt1 190 (by decide +kernel) rfl
theorem fl_X4_33 : Cond.fieldLink RX4 33 (TX4 5).1 (TX4 5).2.1 (TX4 5).2.2.1 ∈ wsAll := wt1 191 (by decide +kernel) rfl
theorem fl_X4_37 : Cond.fieldLink RX4 37 (TX4 6).1 (TX4 6).2.1 (TX4 6).2.2.1 ∈ wsAll := wt1 192 (by decide +kernel) rfl
theorem fl_X4_44 : Cond.fieldLink RX4 44 (TX4 7).1 (TX4 7).2.1 (TX4 7).2.2.1 ∈ wsAll := wt1 193 (by decide +kernel) rfl
theorem ml_L_19 : Cond.methodLink RL 19 yX4_count ∈ wsAll := wt1 211 (by decide +kernel) rfl
theorem mi_X4_count : Cond.instanceMethod yX4_count ∈ wsAll := wt1 212 (by decide +kernel) rfl
theorem mc_X4_count : Cond.code yX4_count cX4_count 2 ((some .int)) ∈ wsAll := wt1 214 (by decide +kernel) rfl
theorem ml_X4_52 : Cond.methodLink RX4 52 yX4_requireRange ∈ wsAll := wt1 215 (by decide +kernel) rfl
theorem mi_X4_requireRange : Cond.static yX4_requireRange ∈ wsAll := wt1 216 (by decide +kernel) rfl
theorem mc_X4_requireRange : Cond.code yX4_requireRange cX4_requireRange 3 (none) ∈ wsAll := wt1 217 (by decide +kernel) rfl
theorem cl_X4_167 : Cond.classLink RX4 167 "java/lang/IllegalArgumentException" ∈ wsAll := wt1 218 (by decide +kernel) rfl
theorem ml_X4_210 : Cond.methodLink RX4 210 yX4_numberOfAll ∈ wsAll := wt2 46 (by decide +kernel) rfl
theorem mi_X4_numberOfAll : Cond.instanceMethod yX4_numberOfAll ∈ wsAll := wt2 48 (by decide +kernel) rfl
theorem mc_X4_numberOfAll : Cond.code yX4_numberOfAll cX4_numberOfAll 2 ((some .int)) ∈ wsAll := wt2 49 (by decide +kernel) rfl
theorem ml_X4_305 : Cond.methodLink RX4 305 yX0_waterInPonds ∈ wsAll := wt2 50 (by decide +kernel) rfl
theorem mi_X0_waterInPonds : Cond.instanceMethod yX0_waterInPonds ∈ wsAll := wt2 51 (by decide +kernel) rfl
theorem mc_X0_waterInPonds : Cond.code yX0_waterInPonds cX0_waterInPonds 3 ((some .int)) ∈ wsAll := wt2 53 (by decide +kernel) rfl
theorem ml_X4_311 : Cond.methodLink RX4 311 yX0_sacksAtMills ∈ wsAll := wt2 54 (by decide +kernel) rfl
theorem mi_X0_sacksAtMills : Cond.instanceMethod yX0_sacksAtMills ∈ wsAll := wt2 55 (by decide +kernel) rfl
theorem mc_X0_sacksAtMills : Cond.code yX0_sacksAtMills cX0_sacksAtMills 3 ((some .int)) ∈ wsAll := wt2 57 (by decide +kernel) rfl
theorem ml_X4_104 : Cond.methodLink RX4 104 yX0_settingAt ∈ wsAll := wt2 58 (by decide +kernel) rfl
theorem mi_X0_settingAt : Cond.instanceMethod yX0_settingAt ∈ wsAll := wt2 59 (by decide +kernel) rfl
theorem mc_X0_settingAt : Cond.code yX0_settingAt cX0_settingAt 2 ((some .int)) ∈ wsAll := wt2 61 (by decide +kernel) rfl
theorem ml_L_41 : Cond.methodLink RL 41 yX4_chosen ∈ wsAll := wt2 62 (by decide +kernel) rfl
theorem mi_X4_chosen : Cond.instanceMethod yX4_chosen ∈ wsAll := wt2 63 (by decide +kernel) rfl
theorem mc_X4_chosen : Cond.code yX4_chosen cX4_chosen 1 ((some .int)) ∈ wsAll := wt2 65 (by decide +kernel) rfl
theorem ml_X4_216 : Cond.methodLink RX4 216 yX0_millAheadOfAll ∈ wsAll := wt2 66 (by decide +kernel) rfl
theorem mi_X0_millAheadOfAll : Cond.instanceMethod yX0_millAheadOfAll ∈ wsAll := wt2 67 (by decide +kernel) rfl
theorem mc_X0_millAheadOfAll : Cond.code yX0_millAheadOfAll cX0_millAheadOfAll 2 ((some (.object "TideMills$Mill"))) ∈ wsAll := wt2 69 (by decide +kernel) rfl
theorem ml_X0_105 : Cond.methodLink RX0 105 yX0_reasonToRest ∈ wsAll := wt2 70 (by decide +kernel) rfl
theorem mi_X0_reasonToRest : Cond.instanceMethod yX0_reasonToRest ∈ wsAll := wt2 71 (by decide +kernel) rfl
theorem mc_X0_reasonToRest : Cond.code yX0_reasonToRest cX0_reasonToRest 2 ((some .int)) ∈ wsAll := wt2 73 (by decide +kernel) rfl
theorem ml_X0_95 : Cond.methodLink RX0 95 yX0_tideIn ∈ wsAll := wt2 74 (by decide +kernel) rfl
theorem mi_X0_tideIn : Cond.instanceMethod yX0_tideIn ∈ wsAll := wt2 75 (by decide +kernel) rfl
theorem mc_X0_tideIn : Cond.code yX0_tideIn cX0_tideIn 3 ((some .int)) ∈ wsAll := wt2 77 (by decide +kernel) rfl
theorem ml_X0_98 : Cond.methodLink RX0 98 yX2_headAt ∈ wsAll := wt2 78 (by decide +kernel) rfl
theorem mi_X2_headAt : Cond.instanceMethod yX2_headAt ∈ wsAll := wt2 79 (by decide +kernel) rfl
theorem mc_X2_headAt : Cond.code yX2_headAt cX2_headAt 3 ((some .int)) ∈ wsAll := wt2 81 (by decide +kernel) rfl
theorem ml_X0_113 : Cond.methodLink RX0 113 yX0_isAheadOfAllOthers ∈ wsAll := wt2 82 (by decide +kernel) rfl
theorem mi_X0_isAheadOfAllOthers : Cond.instanceMethod yX0_isAheadOfAllOthers ∈ wsAll := wt2 84 (by decide +kernel) rfl
theorem mc_X0_isAheadOfAllOthers : Cond.code yX0_isAheadOfAllOthers cX0_isAheadOfAllOthers 3 ((some .boolean)) ∈ wsAll := wt2 85 (by decide +kernel) rfl
theorem ml_X0_109 : Cond.methodLink RX0 109 yX0_turnsAheadOf ∈ wsAll := wt2 86 (by decide +kernel) rfl
theorem mi_X0_turnsAheadOf : Cond.instanceMethod yX0_turnsAheadOf ∈ wsAll := wt2 88 (by decide +kernel) rfl
theorem mc_X0_turnsAheadOf : Cond.code yX0_turnsAheadOf cX0_turnsAheadOf 8 ((some .boolean)) ∈ wsAll := wt2 89 (by decide +kernel) rfl
theorem ml_X0_101 : Cond.methodLink RX0 101 yX2_firstDue ∈ wsAll := wt2 90 (by decide +kernel) rfl
theorem mi_X2_firstDue : Cond.instanceMethod yX2_firstDue ∈ wsAll := wt2 91 (by decide +kernel) rfl
theorem mc_X2_firstDue : Cond.code yX2_firstDue cX2_firstDue 1 ((some .int)) ∈ wsAll := wt2 93 (by decide +kernel) rfl
theorem ml_X4_220 : Cond.methodLink RX4 220 yX4_numberOrNone ∈ wsAll := wt2 94 (by decide +kernel) rfl
theorem mi_X4_numberOrNone : Cond.static yX4_numberOrNone ∈ wsAll := wt2 95 (by decide +kernel) rfl
theorem mc_X4_numberOrNone : Cond.code yX4_numberOrNone cX4_numberOrNone 1 ((some .int)) ∈ wsAll := wt2 96 (by decide +kernel) rfl
theorem ml_L_76 : Cond.methodLink RL 76 yX4_groundIn ∈ wsAll := wt2 97 (by decide +kernel) rfl
theorem mi_X4_groundIn : Cond.instanceMethod yX4_groundIn ∈ wsAll := wt2 98 (by decide +kernel) rfl
theorem mc_X4_groundIn : Cond.code yX4_groundIn cX4_groundIn 2 ((some .int)) ∈ wsAll := wt2 100 (by decide +kernel) rfl
theorem ml_X4_227 : Cond.methodLink RX4 227 yX4_hoursToGround ∈ wsAll := wt2 101 (by decide +kernel) rfl
theorem mi_X4_hoursToGround : Cond.instanceMethod yX4_hoursToGround ∈ wsAll := wt2 103 (by decide +kernel) rfl
theorem mc_X4_hoursToGround : Cond.code yX4_hoursToGround cX4_hoursToGround 4 ((some .int)) ∈ wsAll := wt2 104 (by decide +kernel) rfl
theorem ml_X4_181 : Cond.methodLink RX4 181 yX0_copyFrom ∈ wsAll := wt2 105 (by decide +kernel) rfl
theorem mi_X0_copyFrom : Cond.instanceMethod yX0_copyFrom ∈ wsAll := wt2 106 (by decide +kernel) rfl
theorem mc_X0_copyFrom : Cond.code yX0_copyFrom cX0_copyFrom 4 (none) ∈ wsAll := wt2 108 (by decide +kernel) rfl
theorem ml_X0_57 : Cond.methodLink RX0 57 yX2_copyFrom ∈ wsAll := wt2 109 (by decide +kernel) rfl
theorem mi_X2_copyFrom : Cond.instanceMethod yX2_copyFrom ∈ wsAll := wt2 110 (by decide +kernel) rfl
theorem mc_X2_copyFrom : Cond.code yX2_copyFrom cX2_copyFrom 3 (none) ∈ wsAll := wt2 112 (by decide +kernel) rfl
theorem ml_X4_197 : Cond.methodLink RX4 197 yX0_millOfSack ∈ wsAll := wt2 113 (by decide +kernel) rfl
theorem mi_X0_millOfSack : Cond.instanceMethod yX0_millOfSack ∈ wsAll := wt2 114 (by decide +kernel) rfl
theorem mc_X0_millOfSack : Cond.code yX0_millOfSack cX0_millOfSack 3 ((some (.object "TideMills$Mill"))) ∈ wsAll := wt2 116 (by decide +kernel) rfl
theorem ml_X0_67 : Cond.methodLink RX0 67 yX2_placeOf ∈ wsAll := wt2 117 (by decide +kernel) rfl
theorem mi_X2_placeOf : Cond.instanceMethod yX2_placeOf ∈ wsAll := wt2 118 (by decide +kernel) rfl
theorem mc_X2_placeOf : Cond.code yX2_placeOf cX2_placeOf 3 ((some .int)) ∈ wsAll := wt2 120 (by decide +kernel) rfl
theorem ml_X4_114 : Cond.methodLink RX4 114 yX0_passHours ∈ wsAll := wt2 121 (by decide +kernel) rfl
theorem mi_X0_passHours : Cond.instanceMethod yX0_passHours ∈ wsAll := wt2 122 (by decide +kernel) rfl
theorem mc_X0_passHours : Cond.code yX0_passHours cX0_passHours 4 (none) ∈ wsAll := wt2 124 (by decide +kernel) rfl
theorem ml_X0_116 : Cond.methodLink RX0 116 yX0_letWaterIn ∈ wsAll := wt2 125 (by decide +kernel) rfl
theorem mi_X0_letWaterIn : Cond.instanceMethod yX0_letWaterIn ∈ wsAll := wt2 127 (by decide +kernel) rfl
theorem mc_X0_letWaterIn : Cond.code yX0_letWaterIn cX0_letWaterIn 3 (none) ∈ wsAll := wt2 128 (by decide +kernel) rfl
theorem ml_X0_133 : Cond.methodLink RX0 133 yX2_letIn ∈ wsAll := wt2 129 (by decide +kernel) rfl
theorem mi_X2_letIn : Cond.instanceMethod yX2_letIn ∈ wsAll := wt2 130 (by decide +kernel) rfl
theorem mc_X2_letIn : Cond.code yX2_letIn cX2_letIn 5 ((some .int)) ∈ wsAll := wt2 132 (by decide +kernel) rfl
theorem ml_X0_119 : Cond.methodLink RX0 119 yX0_millBehind ∈ wsAll := wt2 136 (by decide +kernel) rfl
theorem mi_X0_millBehind : Cond.instanceMethod yX0_millBehind ∈ wsAll := wt2 137 (by decide +kernel) rfl
theorem mc_X0_millBehind : Cond.code yX0_millBehind cX0_millBehind 5 ((some (.object "TideMills$Mill"))) ∈ wsAll := wt2 139 (by decide +kernel) rfl
theorem ml_X0_126 : Cond.methodLink RX0 126 yX0_turn ∈ wsAll := wt2 141 (by decide +kernel) rfl
theorem mi_X0_turn : Cond.instanceMethod yX0_turn ∈ wsAll := wt2 143 (by decide +kernel) rfl
theorem mc_X0_turn : Cond.code yX0_turn cX0_turn 3 ((some .int)) ∈ wsAll := wt2 144 (by decide +kernel) rfl
theorem ml_X0_137 : Cond.methodLink RX0 137 yX2_turnsOfStone ∈ wsAll := wt2 145 (by decide +kernel) rfl
theorem mi_X2_turnsOfStone : Cond.instanceMethod yX2_turnsOfStone ∈ wsAll := wt2 146 (by decide +kernel) rfl
theorem mc_X2_turnsOfStone : Cond.code yX2_turnsOfStone cX2_turnsOfStone 2 ((some .int)) ∈ wsAll := wt2 148 (by decide +kernel) rfl
theorem ml_X0_129 : Cond.methodLink RX0 129 yX0_grind ∈ wsAll := wt2 149 (by decide +kernel) rfl
theorem mi_X0_grind : Cond.instanceMethod yX0_grind ∈ wsAll := wt2 151 (by decide +kernel) rfl
theorem mc_X0_grind : Cond.code yX0_grind cX0_grind 5 (none) ∈ wsAll := wt2 152 (by decide +kernel) rfl
theorem ml_X0_84 : Cond.methodLink RX0 84 yX2_restAt ∈ wsAll := wt2 153 (by decide +kernel) rfl
theorem mi_X2_restAt : Cond.instanceMethod yX2_restAt ∈ wsAll := wt2 154 (by decide +kernel) rfl
theorem mc_X2_restAt : Cond.code yX2_restAt cX2_restAt 2 ((some .int)) ∈ wsAll := wt2 156 (by decide +kernel) rfl
theorem ml_X2_68 : Cond.methodLink RX2 68 yX2_isPlace ∈ wsAll := wt2 157 (by decide +kernel) rfl
theorem mi_X2_isPlace : Cond.instanceMethod yX2_isPlace ∈ wsAll := wt2 159 (by decide +kernel) rfl
theorem mc_X2_isPlace : Cond.code yX2_isPlace cX2_isPlace 2 ((some .boolean)) ∈ wsAll := wt2 160 (by decide +kernel) rfl
theorem ml_X0_144 : Cond.methodLink RX0 144 yX2_dropSack ∈ wsAll := wt2 161 (by decide +kernel) rfl
theorem mi_X2_dropSack : Cond.instanceMethod yX2_dropSack ∈ wsAll := wt2 162 (by decide +kernel) rfl
theorem mc_X2_dropSack : Cond.code yX2_dropSack cX2_dropSack 3 (none) ∈ wsAll := wt2 164 (by decide +kernel) rfl
theorem ml_X2_75 : Cond.methodLink RX2 75 yX2_moveSack ∈ wsAll := wt2 165 (by decide +kernel) rfl
theorem mi_X2_moveSack : Cond.instanceMethod yX2_moveSack ∈ wsAll := wt2 167 (by decide +kernel) rfl
theorem mc_X2_moveSack : Cond.code yX2_moveSack cX2_moveSack 3 (none) ∈ wsAll := wt2 168 (by decide +kernel) rfl
theorem ml_X0_148 : Cond.methodLink RX0 148 yX2_grindFirst ∈ wsAll := wt2 169 (by decide +kernel) rfl
theorem mi_X2_grindFirst : Cond.instanceMethod yX2_grindFirst ∈ wsAll := wt2 170 (by decide +kernel) rfl
theorem mc_X2_grindFirst : Cond.code yX2_grindFirst cX2_grindFirst 2 (none) ∈ wsAll := wt2 172 (by decide +kernel) rfl
theorem ml_X4_132 : Cond.methodLink RX4 132 yX2_placeOf ∈ wsAll := wt2 173 (by decide +kernel) rfl
theorem ml_L_62 : Cond.methodLink RL 62 yX4_bestStone ∈ wsAll := wt2 174 (by decide +kernel) rfl
theorem mi_X4_bestStone : Cond.instanceMethod yX4_bestStone ∈ wsAll := wt2 175 (by decide +kernel) rfl
theorem mc_X4_bestStone : Cond.code yX4_bestStone cX4_bestStone 2 ((some .int)) ∈ wsAll := wt2 177 (by decide +kernel) rfl
theorem ml_X4_48 : Cond.methodLink RX4 48 yX4_millOrThrow ∈ wsAll := wt2 178 (by decide +kernel) rfl
theorem mi_X4_millOrThrow : Cond.instanceMethod yX4_millOrThrow ∈ wsAll := wt2 180 (by decide +kernel) rfl
theorem mc_X4_millOrThrow : Cond.code yX4_millOrThrow cX4_millOrThrow 3 ((some (.object "TideMills$Mill"))) ∈ wsAll := wt2 181 (by decide +kernel) rfl
theorem ml_X4_256 : Cond.methodLink RX4 256 yX0_millAt ∈ wsAll := wt2 182 (by decide +kernel) rfl
theorem mi_X0_millAt : Cond.instanceMethod yX0_millAt ∈ wsAll := wt2 183 (by decide +kernel) rfl
theorem mc_X0_millAt : Cond.code yX0_millAt cX0_millAt 3 ((some (.object "TideMills$Mill"))) ∈ wsAll := wt2 185 (by decide +kernel) rfl
theorem cl_X4_91 : Cond.classLink RX4 91 "java/lang/IndexOutOfBoundsException" ∈ wsAll := wt2 186 (by decide +kernel) rfl
theorem ml_X4_230 : Cond.methodLink RX4 230 yX4_stoneThatGrindsMost ∈ wsAll := wt2 202 (by decide +kernel) rfl
theorem mi_X4_stoneThatGrindsMost : Cond.instanceMethod yX4_stoneThatGrindsMost ∈ wsAll := wt2 204 (by decide +kernel) rfl
theorem mc_X4_stoneThatGrindsMost : Cond.code yX4_stoneThatGrindsMost cX4_stoneThatGrindsMost 7 ((some .int)) ∈ wsAll := wt2 205 (by decide +kernel) rfl
theorem ml_X4_321 : Cond.methodLink RX4 321 yX0_restsOfAll ∈ wsAll := wt2 206 (by decide +kernel) rfl
theorem mi_X0_restsOfAll : Cond.instanceMethod yX0_restsOfAll ∈ wsAll := wt2 207 (by decide +kernel) rfl
theorem mc_X0_restsOfAll : Cond.code yX0_restsOfAll cX0_restsOfAll 4 ((some .int)) ∈ wsAll := wt2 209 (by decide +kernel) rfl
theorem ml_X4_324 : Cond.methodLink RX4 324 yX0_changeStone ∈ wsAll := wt2 210 (by decide +kernel) rfl
theorem mi_X0_changeStone : Cond.instanceMethod yX0_changeStone ∈ wsAll := wt2 211 (by decide +kernel) rfl
theorem mc_X0_changeStone : Cond.code yX0_changeStone cX0_changeStone 4 (none) ∈ wsAll := wt2 213 (by decide +kernel) rfl
theorem ml_X0_71 : Cond.methodLink RX0 71 yX0_millAt ∈ wsAll := wt2 214 (by decide +kernel) rfl
theorem ml_L_119 : Cond.methodLink RL 119 yL_cell ∈ wsAll := wt2 215 (by decide +kernel) rfl
theorem mi_L_cell : Cond.static yL_cell ∈ wsAll := wt2 216 (by decide +kernel) rfl
theorem mc_L_cell : Cond.code yL_cell cL_cell 2 ((some .int)) ∈ wsAll := wt2 217 (by decide +kernel) rfl
theorem k_L_7 : Cond.constant RL 7 (970437061) ∈ wsAll := wt2 218 (by decide +kernel) rfl
theorem k_L_8 : Cond.constant RL 8 (780465003) ∈ wsAll := wt2 219 (by decide +kernel) rfl
theorem ml_L_116 : Cond.methodLink RL 116 yL_holds ∈ wsAll := wt2 220 (by decide +kernel) rfl
theorem mi_L_holds : Cond.static yL_holds ∈ wsAll := wt2 221 (by decide +kernel) rfl
theorem mc_L_holds : Cond.code yL_holds cL_holds 7 ((some .boolean)) ∈ wsAll := wt2 222 (by decide +kernel) rfl
theorem ml_L_10 : Cond.methodLink RL 10 yX4_mill ∈ wsAll := wt2 223 (by decide +kernel) rfl
theorem mi_X4_mill : Cond.instanceMethod yX4_mill ∈ wsAll := wt2 224 (by decide +kernel) rfl
theorem mc_X4_mill : Cond.code yX4_mill cX4_mill 4 ((some .int)) ∈ wsAll := wt2 226 (by decide +kernel) rfl
theorem ml_X4_187 : Cond.methodLink RX4 187 yX4_numberOfMill ∈ wsAll := wt2 227 (by decide +kernel) rfl
theorem mi_X4_numberOfMill : Cond.instanceMethod yX4_numberOfMill ∈ wsAll := wt2 229 (by decide +kernel) rfl
theorem mc_X4_numberOfMill : Cond.code yX4_numberOfMill cX4_numberOfMill 3 ((some .int)) ∈ wsAll := wt2 230 (by decide +kernel) rfl
theorem ml_X4_207 : Cond.methodLink RX4 207 yX0_tideIn ∈ wsAll := wt2 231 (by decide +kernel) rfl
theorem ml_X4_286 : Cond.methodLink RX4 286 yX2_headAt ∈ wsAll := wt2 232 (by decide +kernel) rfl
theorem ml_L_45 : Cond.methodLink RL 45 yL_isMill ∈ wsAll := wt2 233 (by decide +kernel) rfl
theorem mi_L_isMill : Cond.static yL_isMill ∈ wsAll := wt2 234 (by decide +kernel) rfl
theorem mc_L_isMill : Cond.code yL_isMill cL_isMill 4 ((some .boolean)) ∈ wsAll := wt2 235 (by decide +kernel) rfl
theorem ml_L_26 : Cond.methodLink RL 26 yX4_tide ∈ wsAll := wt2 236 (by decide +kernel) rfl
theorem mi_X4_tide : Cond.instanceMethod yX4_tide ∈ wsAll := wt2 237 (by decide +kernel) rfl
theorem mc_X4_tide : Cond.code yX4_tide cX4_tide 2 ((some .int)) ∈ wsAll := wt2 239 (by decide +kernel) rfl
theorem ml_X4_191 : Cond.methodLink RX4 191 yX4_requireNotBelowZero ∈ wsAll := wt3 0 (by decide +kernel) rfl
theorem mi_X4_requireNotBelowZero : Cond.static yX4_requireNotBelowZero ∈ wsAll := wt3 1 (by decide +kernel) rfl
theorem mc_X4_requireNotBelowZero : Cond.code yX4_requireNotBelowZero cX4_requireNotBelowZero 1 (none) ∈ wsAll := wt3 2 (by decide +kernel) rfl
theorem ml_L_29 : Cond.methodLink RL 29 yX4_whyNot ∈ wsAll := wt3 4 (by decide +kernel) rfl
theorem mi_X4_whyNot : Cond.instanceMethod yX4_whyNot ∈ wsAll := wt3 5 (by decide +kernel) rfl
theorem mc_X4_whyNot : Cond.code yX4_whyNot cX4_whyNot 2 ((some .int)) ∈ wsAll := wt3 7 (by decide +kernel) rfl
theorem ml_X4_203 : Cond.methodLink RX4 203 yX0_reasonToRest ∈ wsAll := wt3 8 (by decide +kernel) rfl
theorem ml_L_32 : Cond.methodLink RL 32 yL_areSacks ∈ wsAll := wt3 9 (by decide +kernel) rfl
theorem mi_L_areSacks : Cond.static yL_areSacks ∈ wsAll := wt3 10 (by decide +kernel) rfl
theorem mc_L_areSacks : Cond.code yL_areSacks cL_areSacks 7 ((some .boolean)) ∈ wsAll := wt3 11 (by decide +kernel) rfl
theorem ml_L_16 : Cond.methodLink RL 16 yX4_sackAt ∈ wsAll := wt3 12 (by decide +kernel) rfl
theorem mi_X4_sackAt : Cond.instanceMethod yX4_sackAt ∈ wsAll := wt3 13 (by decide +kernel) rfl
theorem mc_X4_sackAt : Cond.code yX4_sackAt cX4_sackAt 4 ((some .int)) ∈ wsAll := wt3 15 (by decide +kernel) rfl
theorem ml_X4_194 : Cond.methodLink RX4 194 yX2_numberAt ∈ wsAll := wt3 16 (by decide +kernel) rfl
theorem mi_X2_numberAt : Cond.instanceMethod yX2_numberAt ∈ wsAll := wt3 17 (by decide +kernel) rfl
theorem mc_X2_numberAt : Cond.code yX2_numberAt cX2_numberAt 2 ((some .int)) ∈ wsAll := wt3 19 (by decide +kernel) rfl
theorem ml_L_23 : Cond.methodLink RL 23 yX4_sackOf ∈ wsAll := wt3 20 (by decide +kernel) rfl
theorem mi_X4_sackOf : Cond.instanceMethod yX4_sackOf ∈ wsAll := wt3 21 (by decide +kernel) rfl
theorem mc_X4_sackOf : Cond.code yX4_sackOf cX4_sackOf 4 ((some .int)) ∈ wsAll := wt3 23 (by decide +kernel) rfl
theorem ml_X4_200 : Cond.methodLink RX4 200 yX4_numberOfSack ∈ wsAll := wt3 24 (by decide +kernel) rfl
theorem mi_X4_numberOfSack : Cond.static yX4_numberOfSack ∈ wsAll := wt3 25 (by decide +kernel) rfl
theorem mc_X4_numberOfSack : Cond.code yX4_numberOfSack cX4_numberOfSack 3 ((some .int)) ∈ wsAll := wt3 26 (by decide +kernel) rfl
theorem ml_X4_135 : Cond.methodLink RX4 135 yX2_hardnessAt ∈ wsAll := wt3 27 (by decide +kernel) rfl
theorem mi_X2_hardnessAt : Cond.instanceMethod yX2_hardnessAt ∈ wsAll := wt3 28 (by decide +kernel) rfl
theorem mc_X2_hardnessAt : Cond.code yX2_hardnessAt cX2_hardnessAt 2 ((some .int)) ∈ wsAll := wt3 30 (by decide +kernel) rfl
theorem ml_X4_138 : Cond.methodLink RX4 138 yX2_restAt ∈ wsAll := wt3 31 (by decide +kernel) rfl
theorem ml_X4_141 : Cond.methodLink RX4 141 yX2_dueAt ∈ wsAll := wt3 32 (by decide +kernel) rfl
theorem mi_X2_dueAt : Cond.instanceMethod yX2_dueAt ∈ wsAll := wt3 33 (by decide +kernel) rfl
theorem mc_X2_dueAt : Cond.code yX2_dueAt cX2_dueAt 2 ((some .int)) ∈ wsAll := wt3 35 (by decide +kernel) rfl
theorem ml_L_48 : Cond.methodLink RL 48 yX4_inTime ∈ wsAll := wt3 36 (by decide +kernel) rfl
theorem mi_X4_inTime : Cond.instanceMethod yX4_inTime ∈ wsAll := wt3 37 (by decide +kernel) rfl
theorem mc_X4_inTime : Cond.code yX4_inTime cX4_inTime 1 ((some .double)) ∈ wsAll := wt3 39 (by decide +kernel) rfl
theorem ml_X4_233 : Cond.methodLink RX4 233 yX4_shareInTime ∈ wsAll := wt3 40 (by decide +kernel) rfl
theorem mi_X4_shareInTime : Cond.instanceMethod yX4_shareInTime ∈ wsAll := wt3 42 (by decide +kernel) rfl
theorem mc_X4_shareInTime : Cond.code yX4_shareInTime cX4_shareInTime 2 ((some .double)) ∈ wsAll := wt3 43 (by decide +kernel) rfl
theorem ml_L_52 : Cond.methodLink RL 52 yL_areNext ∈ wsAll := wt3 44 (by decide +kernel) rfl
theorem mi_L_areNext : Cond.static yL_areNext ∈ wsAll := wt3 45 (by decide +kernel) rfl
theorem mc_L_areNext : Cond.code yL_areNext cL_areNext 9 ((some .boolean)) ∈ wsAll := wt3 46 (by decide +kernel) rfl
theorem ml_L_38 : Cond.methodLink RL 38 yX4_next ∈ wsAll := wt3 47 (by decide +kernel) rfl
theorem mi_X4_next : Cond.instanceMethod yX4_next ∈ wsAll := wt3 48 (by decide +kernel) rfl
theorem mc_X4_next : Cond.code yX4_next cX4_next 2 ((some .int)) ∈ wsAll := wt3 50 (by decide +kernel) rfl
theorem ml_X4_213 : Cond.methodLink RX4 213 yX4_millOfRank ∈ wsAll := wt3 51 (by decide +kernel) rfl
theorem mi_X4_millOfRank : Cond.instanceMethod yX4_millOfRank ∈ wsAll := wt3 53 (by decide +kernel) rfl
theorem mc_X4_millOfRank : Cond.code yX4_millOfRank cX4_millOfRank 4 ((some .int)) ∈ wsAll := wt3 54 (by decide +kernel) rfl
theorem ml_X4_317 : Cond.methodLink RX4 317 yX0_millBehind ∈ wsAll := wt3 55 (by decide +kernel) rfl
theorem ml_L_123 : Cond.methodLink RL 123 yL_act ∈ wsAll := wt3 56 (by decide +kernel) rfl
theorem mi_L_act : Cond.static yL_act ∈ wsAll := wt3 57 (by decide +kernel) rfl
theorem mc_L_act : Cond.code yL_act cL_act 7 ((some .boolean)) ∈ wsAll := wt3 58 rfl rfl
theorem ml_L_79 : Cond.methodLink RL 79 yL_low ∈ wsAll := wt3 59 (by decide +kernel) rfl
theorem mi_L_low : Cond.static yL_low ∈ wsAll := wt3 60 (by decide +kernel) rfl
theorem mc_L_low : Cond.code yL_low cL_low 2 ((some .int)) ∈ wsAll := wt3 61 (by decide +kernel) rfl
theorem k_L_9 : Cond.constant RL 9 (2147483647) ∈ wsAll := wt3 62 (by decide +kernel) rfl
theorem ml_L_82 : Cond.methodLink RL 82 yX4_pond ∈ wsAll := wt3 63 (by decide +kernel) rfl
theorem mi_X4_pond : Cond.instanceMethod yX4_pond ∈ wsAll := wt3 64 (by decide +kernel) rfl
theorem mc_X4_pond : Cond.code yX4_pond cX4_pond 6 ((some .int)) ∈ wsAll := wt3 66 (by decide +kernel) rfl
theorem ml_X4_61 : Cond.methodLink RX4 61 yX4_requireState ∈ wsAll := wt3 67 (by decide +kernel) rfl
theorem mi_X4_requireState : Cond.static yX4_requireState ∈ wsAll := wt3 68 (by decide +kernel) rfl
theorem mc_X4_requireState : Cond.code yX4_requireState cX4_requireState 1 (none) ∈ wsAll := wt3 69 (by decide +kernel) rfl
theorem cl_X4_154 : Cond.classLink RX4 154 "java/lang/IllegalStateException" ∈ wsAll := wt3 70 (by decide +kernel) rfl
theorem ml_X4_65 : Cond.methodLink RX4 65 yX1_save ∈ wsAll := wt3 86 (by decide +kernel) rfl
theorem mi_X1_save : Cond.instanceMethod yX1_save ∈ wsAll := wt3 87 (by decide +kernel) rfl
theorem mc_X1_save : Cond.code yX1_save cX1_save 3 (none) ∈ wsAll := wt3 89 (by decide +kernel) rfl
theorem ml_X1_22 : Cond.methodLink RX1 22 yX1_dropOldest ∈ wsAll := wt3 90 (by decide +kernel) rfl
theorem mi_X1_dropOldest : Cond.instanceMethod yX1_dropOldest ∈ wsAll := wt3 92 (by decide +kernel) rfl
theorem mc_X1_dropOldest : Cond.code yX1_dropOldest cX1_dropOldest 3 (none) ∈ wsAll := wt3 93 (by decide +kernel) rfl
theorem ml_X1_25 : Cond.methodLink RX1 25 yX1_stateAt ∈ wsAll := wt3 94 (by decide +kernel) rfl
theorem mi_X1_stateAt : Cond.instanceMethod yX1_stateAt ∈ wsAll := wt3 96 (by decide +kernel) rfl
theorem mc_X1_stateAt : Cond.code yX1_stateAt cX1_stateAt 2 ((some (.object "TideMills$Creek"))) ∈ wsAll := wt3 97 (by decide +kernel) rfl
theorem ml_X1_29 : Cond.methodLink RX1 29 yX0_copyFrom ∈ wsAll := wt3 98 (by decide +kernel) rfl
theorem ml_L_85 : Cond.methodLink RL 85 yX4_gate ∈ wsAll := wt3 99 (by decide +kernel) rfl
theorem mi_X4_gate : Cond.instanceMethod yX4_gate ∈ wsAll := wt3 100 (by decide +kernel) rfl
theorem mc_X4_gate : Cond.code yX4_gate cX4_gate 6 ((some .int)) ∈ wsAll := wt3 102 (by decide +kernel) rfl
theorem ml_L_65 : Cond.methodLink RL 65 yX4_gear ∈ wsAll := wt3 103 (by decide +kernel) rfl
theorem mi_X4_gear : Cond.instanceMethod yX4_gear ∈ wsAll := wt3 104 (by decide +kernel) rfl
theorem mc_X4_gear : Cond.code yX4_gear cX4_gear 5 ((some .int)) ∈ wsAll := wt3 106 (by decide +kernel) rfl
theorem ml_X4_87 : Cond.methodLink RX4 87 yX2_turnsOfStone ∈ wsAll := wt3 107 (by decide +kernel) rfl
theorem ml_L_88 : Cond.methodLink RL 88 yX4_set ∈ wsAll := wt3 108 (by decide +kernel) rfl
theorem mi_X4_set : Cond.instanceMethod yX4_set ∈ wsAll := wt3 109 (by decide +kernel) rfl
theorem mc_X4_set : Cond.code yX4_set cX4_set 4 ((some .int)) ∈ wsAll := wt3 111 (by decide +kernel) rfl
theorem ml_X4_98 : Cond.methodLink RX4 98 yX4_leastOfSetting ∈ wsAll := wt3 113 (by decide +kernel) rfl
theorem mi_X4_leastOfSetting : Cond.static yX4_leastOfSetting ∈ wsAll := wt3 114 (by decide +kernel) rfl
theorem mc_X4_leastOfSetting : Cond.code yX4_leastOfSetting cX4_leastOfSetting 1 ((some .int)) ∈ wsAll := wt3 115 (by decide +kernel) rfl
theorem ml_X4_101 : Cond.methodLink RX4 101 yX4_mostOfSetting ∈ wsAll := wt3 116 (by decide +kernel) rfl
theorem mi_X4_mostOfSetting : Cond.static yX4_mostOfSetting ∈ wsAll := wt3 117 (by decide +kernel) rfl
theorem mc_X4_mostOfSetting : Cond.code yX4_mostOfSetting cX4_mostOfSetting 1 ((some .int)) ∈ wsAll := wt3 118 (by decide +kernel) rfl
theorem ml_X4_107 : Cond.methodLink RX4 107 yX0_changeSetting ∈ wsAll := wt3 119 (by decide +kernel) rfl
theorem mi_X0_changeSetting : Cond.instanceMethod yX0_changeSetting ∈ wsAll := wt3 120 (by decide +kernel) rfl
theorem mc_X0_changeSetting : Cond.code yX0_changeSetting cX0_changeSetting 3 (none) ∈ wsAll := wt3 122 (by decide +kernel) rfl
theorem ml_L_91 : Cond.methodLink RL 91 yX4_sack ∈ wsAll := wt3 123 (by decide +kernel) rfl
theorem mi_X4_sack : Cond.instanceMethod yX4_sack ∈ wsAll := wt3 124 (by decide +kernel) rfl
theorem mc_X4_sack : Cond.code yX4_sack cX4_sack 5 ((some .int)) ∈ wsAll := wt3 126 (by decide +kernel) rfl
theorem ml_X4_118 : Cond.methodLink RX4 118 yX0_hasRoomForSack ∈ wsAll := wt3 127 (by decide +kernel) rfl
theorem mi_X0_hasRoomForSack : Cond.instanceMethod yX0_hasRoomForSack ∈ wsAll := wt3 128 (by decide +kernel) rfl
theorem mc_X0_hasRoomForSack : Cond.code yX0_hasRoomForSack cX0_hasRoomForSack 2 ((some .boolean)) ∈ wsAll := wt3 130 (by decide +kernel) rfl
theorem ml_X4_122 : Cond.methodLink RX4 122 yX0_bringSack ∈ wsAll := wt3 131 (by decide +kernel) rfl
theorem mi_X0_bringSack : Cond.instanceMethod yX0_bringSack ∈ wsAll := wt3 132 (by decide +kernel) rfl
theorem mc_X0_bringSack : Cond.code yX0_bringSack cX0_bringSack 5 ((some .int)) ∈ wsAll := wt3 134 (by decide +kernel) rfl
theorem ml_X0_87 : Cond.methodLink RX0 87 yX0_hasRoomForSack ∈ wsAll := wt3 135 (by decide +kernel) rfl
theorem ml_X0_91 : Cond.methodLink RX0 91 yX2_putSack ∈ wsAll := wt3 136 (by decide +kernel) rfl
theorem mi_X2_putSack : Cond.instanceMethod yX2_putSack ∈ wsAll := wt3 137 (by decide +kernel) rfl
theorem mc_X2_putSack : Cond.code yX2_putSack cX2_putSack 7 ((some .int)) ∈ wsAll := wt3 139 (by decide +kernel) rfl
theorem ml_X2_72 : Cond.methodLink RX2 72 yX2_placeFor ∈ wsAll := wt3 140 (by decide +kernel) rfl
theorem mi_X2_placeFor : Cond.instanceMethod yX2_placeFor ∈ wsAll := wt3 142 (by decide +kernel) rfl
theorem mc_X2_placeFor : Cond.code yX2_placeFor cX2_placeFor 4 ((some .int)) ∈ wsAll := wt3 143 (by decide +kernel) rfl
theorem ml_L_94 : Cond.methodLink RL 94 yX4_carry ∈ wsAll := wt3 144 (by decide +kernel) rfl
theorem mi_X4_carry : Cond.instanceMethod yX4_carry ∈ wsAll := wt3 145 (by decide +kernel) rfl
theorem mc_X4_carry : Cond.code yX4_carry cX4_carry 7 ((some .int)) ∈ wsAll := wt3 147 (by decide +kernel) rfl
theorem ml_X4_126 : Cond.methodLink RX4 126 yX4_millOfSackOrThrow ∈ wsAll := wt3 148 (by decide +kernel) rfl
theorem mi_X4_millOfSackOrThrow : Cond.instanceMethod yX4_millOfSackOrThrow ∈ wsAll := wt3 150 (by decide +kernel) rfl
theorem mc_X4_millOfSackOrThrow : Cond.code yX4_millOfSackOrThrow cX4_millOfSackOrThrow 3 ((some (.object "TideMills$Mill"))) ∈ wsAll := wt3 151 (by decide +kernel) rfl
theorem ml_X4_144 : Cond.methodLink RX4 144 yX2_putSack ∈ wsAll := wt3 153 (by decide +kernel) rfl
theorem ml_X4_148 : Cond.methodLink RX4 148 yX2_dropSack ∈ wsAll := wt3 154 (by decide +kernel) rfl
theorem ml_L_97 : Cond.methodLink RL 97 yX4_back ∈ wsAll := wt3 155 (by decide +kernel) rfl
theorem mi_X4_back : Cond.instanceMethod yX4_back ∈ wsAll := wt3 156 (by decide +kernel) rfl
theorem mc_X4_back : Cond.code yX4_back cX4_back 5 ((some .int)) ∈ wsAll := wt3 158 (by decide +kernel) rfl
theorem ml_L_100 : Cond.methodLink RL 100 yL_isGround ∈ wsAll := wt3 159 (by decide +kernel) rfl
theorem mi_L_isGround : Cond.static yL_isGround ∈ wsAll := wt3 160 (by decide +kernel) rfl
theorem mc_L_isGround : Cond.code yL_isGround cL_isGround 5 ((some .boolean)) ∈ wsAll := wt3 161 (by decide +kernel) rfl
theorem ml_L_59 : Cond.methodLink RL 59 yX4_pass ∈ wsAll := wt3 162 (by decide +kernel) rfl
theorem mi_X4_pass : Cond.instanceMethod yX4_pass ∈ wsAll := wt3 163 (by decide +kernel) rfl
theorem mc_X4_pass : Cond.code yX4_pass cX4_pass 3 ((some .int)) ∈ wsAll := wt3 165 (by decide +kernel) rfl
theorem ml_L_73 : Cond.methodLink RL 73 yX4_undo ∈ wsAll := wt3 166 (by decide +kernel) rfl
theorem mi_X4_undo : Cond.instanceMethod yX4_undo ∈ wsAll := wt3 167 (by decide +kernel) rfl
theorem mc_X4_undo : Cond.code yX4_undo cX4_undo 1 ((some .int)) ∈ wsAll := wt3 169 (by decide +kernel) rfl
theorem ml_X4_178 : Cond.methodLink RX4 178 yX1_restoreLatest ∈ wsAll := wt3 170 (by decide +kernel) rfl
theorem mi_X1_restoreLatest : Cond.instanceMethod yX1_restoreLatest ∈ wsAll := wt3 171 (by decide +kernel) rfl
theorem mc_X1_restoreLatest : Cond.code yX1_restoreLatest cX1_restoreLatest 3 (none) ∈ wsAll := wt3 173 (by decide +kernel) rfl
theorem ml_L_103 : Cond.methodLink RL 103 yL_isBest ∈ wsAll := wt3 174 (by decide +kernel) rfl
theorem mi_L_isBest : Cond.static yL_isBest ∈ wsAll := wt3 175 (by decide +kernel) rfl
theorem mc_L_isBest : Cond.code yL_isBest cL_isBest 10 ((some .boolean)) ∈ wsAll := wt3 176 (by decide +kernel) rfl
theorem ml_L_69 : Cond.methodLink RL 69 yL_rests ∈ wsAll := wt3 177 (by decide +kernel) rfl
theorem mi_L_rests : Cond.static yL_rests ∈ wsAll := wt3 178 (by decide +kernel) rfl
theorem mc_L_rests : Cond.code yL_rests cL_rests 4 ((some .int)) ∈ wsAll := wt3 179 (by decide +kernel) rfl
theorem ml_L_106 : Cond.methodLink RL 106 yX4_keep ∈ wsAll := wt3 180 (by decide +kernel) rfl
theorem mi_X4_keep : Cond.instanceMethod yX4_keep ∈ wsAll := wt3 181 (by decide +kernel) rfl
theorem mc_X4_keep : Cond.code yX4_keep cX4_keep 1 ((some .int)) ∈ wsAll := wt3 183 (by decide +kernel) rfl
theorem ml_L_109 : Cond.methodLink RL 109 yL_passes ∈ wsAll := wt3 184 (by decide +kernel) rfl
theorem mi_L_passes : Cond.static yL_passes ∈ wsAll := wt3 185 (by decide +kernel) rfl
theorem mc_L_passes : Cond.code yL_passes cL_passes 8 ((some .boolean)) ∈ wsAll := wt3 186 (by decide +kernel) rfl
theorem ml_L_56 : Cond.methodLink RL 56 yX4_ifPassed ∈ wsAll := wt3 187 (by decide +kernel) rfl
theorem mi_X4_ifPassed : Cond.instanceMethod yX4_ifPassed ∈ wsAll := wt3 188 (by decide +kernel) rfl
theorem mc_X4_ifPassed : Cond.code yX4_ifPassed cX4_ifPassed 3 ((some .int)) ∈ wsAll := wt3 190 (by decide +kernel) rfl
theorem ml_X4_223 : Cond.methodLink RX4 223 yX4_foreseen ∈ wsAll := wt3 191 (by decide +kernel) rfl
theorem mi_X4_foreseen : Cond.instanceMethod yX4_foreseen ∈ wsAll := wt3 193 (by decide +kernel) rfl
theorem mc_X4_foreseen : Cond.code yX4_foreseen cX4_foreseen 3 ((some .int)) ∈ wsAll := wt3 194 (by decide +kernel) rfl
theorem ml_L_112 : Cond.methodLink RL 112 yX4_restore ∈ wsAll := wt3 195 (by decide +kernel) rfl
theorem mi_X4_restore : Cond.instanceMethod yX4_restore ∈ wsAll := wt3 196 (by decide +kernel) rfl
theorem mc_X4_restore : Cond.code yX4_restore cX4_restore 1 ((some .int)) ∈ wsAll := wt3 198 (by decide +kernel) rfl
theorem ms_X4_numberOfAll : Cond.selects yX4_numberOfAll.cls yX4_numberOfAll yX4_numberOfAll ∈ wsAll := wt0 1 (by decide +kernel) rfl
theorem ms_X0_isAheadOfAllOthers : Cond.selects yX0_isAheadOfAllOthers.cls yX0_isAheadOfAllOthers yX0_isAheadOfAllOthers ∈ wsAll := wt0 2 (by decide +kernel) rfl
theorem ms_X0_turnsAheadOf : Cond.selects yX0_turnsAheadOf.cls yX0_turnsAheadOf yX0_turnsAheadOf ∈ wsAll := wt0 3 (by decide +kernel) rfl
theorem ms_X4_hoursToGround : Cond.selects yX4_hoursToGround.cls yX4_hoursToGround yX4_hoursToGround ∈ wsAll := wt0 4 (by decide +kernel) rfl
theorem ms_X0_letWaterIn : Cond.selects yX0_letWaterIn.cls yX0_letWaterIn yX0_letWaterIn ∈ wsAll := wt0 5 (by decide +kernel) rfl
theorem ms_X0_turn : Cond.selects yX0_turn.cls yX0_turn yX0_turn ∈ wsAll := wt0 6 (by decide +kernel) rfl
theorem ms_X0_grind : Cond.selects yX0_grind.cls yX0_grind yX0_grind ∈ wsAll := wt0 7 (by decide +kernel) rfl
theorem ms_X2_isPlace : Cond.selects yX2_isPlace.cls yX2_isPlace yX2_isPlace ∈ wsAll := wt0 8 (by decide +kernel) rfl
theorem ms_X2_moveSack : Cond.selects yX2_moveSack.cls yX2_moveSack yX2_moveSack ∈ wsAll := wt0 9 (by decide +kernel) rfl
theorem ms_X4_millOrThrow : Cond.selects yX4_millOrThrow.cls yX4_millOrThrow yX4_millOrThrow ∈ wsAll := wt0 10 (by decide +kernel) rfl
theorem ms_X4_stoneThatGrindsMost : Cond.selects yX4_stoneThatGrindsMost.cls yX4_stoneThatGrindsMost yX4_stoneThatGrindsMost ∈ wsAll := wt0 11 (by decide +kernel) rfl
theorem ms_X4_numberOfMill : Cond.selects yX4_numberOfMill.cls yX4_numberOfMill yX4_numberOfMill ∈ wsAll := wt0 12 (by decide +kernel) rfl
theorem ms_X4_shareInTime : Cond.selects yX4_shareInTime.cls yX4_shareInTime yX4_shareInTime ∈ wsAll := wt0 13 (by decide +kernel) rfl
theorem ms_X4_millOfRank : Cond.selects yX4_millOfRank.cls yX4_millOfRank yX4_millOfRank ∈ wsAll := wt0 14 (by decide +kernel) rfl
theorem ms_X1_dropOldest : Cond.selects yX1_dropOldest.cls yX1_dropOldest yX1_dropOldest ∈ wsAll := wt0 15 (by decide +kernel) rfl
theorem ms_X1_stateAt : Cond.selects yX1_stateAt.cls yX1_stateAt yX1_stateAt ∈ wsAll := wt0 16 (by decide +kernel) rfl
theorem ms_X2_placeFor : Cond.selects yX2_placeFor.cls yX2_placeFor yX2_placeFor ∈ wsAll := wt0 17 (by decide +kernel) rfl
theorem ms_X4_millOfSackOrThrow : Cond.selects yX4_millOfSackOrThrow.cls yX4_millOfSackOrThrow yX4_millOfSackOrThrow ∈ wsAll := wt0 18 (by decide +kernel) rfl
theorem ms_X4_foreseen : Cond.selects yX4_foreseen.cls yX4_foreseen yX4_foreseen ∈ wsAll := wt0 19 (by decide +kernel) rfl
theorem ms_X4_count : Cond.selects yX4_count.cls yX4_count yX4_count ∈ wsAll := wt1 213 (by decide +kernel) rfl
theorem ms_X0_waterInPonds : Cond.selects yX0_waterInPonds.cls yX0_waterInPonds yX0_waterInPonds ∈ wsAll := wt2 52 (by decide +kernel) rfl
theorem ms_X0_sacksAtMills : Cond.selects yX0_sacksAtMills.cls yX0_sacksAtMills yX0_sacksAtMills ∈ wsAll := wt2 56 (by decide +kernel) rfl
theorem ms_X0_settingAt : Cond.selects yX0_settingAt.cls yX0_settingAt yX0_settingAt ∈ wsAll := wt2 60 (by decide +kernel) rfl
theorem ms_X4_chosen : Cond.selects yX4_chosen.cls yX4_chosen yX4_chosen ∈ wsAll := wt2 64 (by decide +kernel) rfl
theorem ms_X0_millAheadOfAll : Cond.selects yX0_millAheadOfAll.cls yX0_millAheadOfAll yX0_millAheadOfAll ∈ wsAll := wt2 68 (by decide +kernel) rfl
theorem ms_X0_reasonToRest : Cond.selects yX0_reasonToRest.cls yX0_reasonToRest yX0_reasonToRest ∈ wsAll := wt2 72 (by decide +kernel) rfl
theorem ms_X0_tideIn : Cond.selects yX0_tideIn.cls yX0_tideIn yX0_tideIn ∈ wsAll := wt2 76 (by decide +kernel) rfl
theorem ms_X2_headAt : Cond.selects yX2_headAt.cls yX2_headAt yX2_headAt ∈ wsAll := wt2 80 (by decide +kernel) rfl
theorem ms_X2_firstDue : Cond.selects yX2_firstDue.cls yX2_firstDue yX2_firstDue ∈ wsAll := wt2 92 (by decide +kernel) rfl
theorem ms_X4_groundIn : Cond.selects yX4_groundIn.cls yX4_groundIn yX4_groundIn ∈ wsAll := wt2 99 (by decide +kernel) rfl
theorem ms_X0_copyFrom : Cond.selects yX0_copyFrom.cls yX0_copyFrom yX0_copyFrom ∈ wsAll := wt2 107 (by decide +kernel) rfl
theorem ms_X2_copyFrom : Cond.selects yX2_copyFrom.cls yX2_copyFrom yX2_copyFrom ∈ wsAll := wt2 111 (by decide +kernel) rfl
theorem ms_X0_millOfSack : Cond.selects yX0_millOfSack.cls yX0_millOfSack yX0_millOfSack ∈ wsAll := wt2 115 (by decide +kernel) rfl
theorem ms_X2_placeOf : Cond.selects yX2_placeOf.cls yX2_placeOf yX2_placeOf ∈ wsAll := wt2 119 (by decide +kernel) rfl
theorem ms_X0_passHours : Cond.selects yX0_passHours.cls yX0_passHours yX0_passHours ∈ wsAll := wt2 123 (by decide +kernel) rfl
theorem ms_X2_letIn : Cond.selects yX2_letIn.cls yX2_letIn yX2_letIn ∈ wsAll := wt2 131 (by decide +kernel) rfl
theorem ms_X0_millBehind : Cond.selects yX0_millBehind.cls yX0_millBehind yX0_millBehind ∈ wsAll := wt2 138 (by decide +kernel) rfl
theorem ms_X2_turnsOfStone : Cond.selects yX2_turnsOfStone.cls yX2_turnsOfStone yX2_turnsOfStone ∈ wsAll := wt2 147 (by decide +kernel) rfl
theorem ms_X2_restAt : Cond.selects yX2_restAt.cls yX2_restAt yX2_restAt ∈ wsAll := wt2 155 (by decide +kernel) rfl
theorem ms_X2_dropSack : Cond.selects yX2_dropSack.cls yX2_dropSack yX2_dropSack ∈ wsAll := wt2 163 (by decide +kernel) rfl
theorem ms_X2_grindFirst : Cond.selects yX2_grindFirst.cls yX2_grindFirst yX2_grindFirst ∈ wsAll := wt2 171 (by decide +kernel) rfl
theorem ms_X4_bestStone : Cond.selects yX4_bestStone.cls yX4_bestStone yX4_bestStone ∈ wsAll := wt2 176 (by decide +kernel) rfl
theorem ms_X0_millAt : Cond.selects yX0_millAt.cls yX0_millAt yX0_millAt ∈ wsAll := wt2 184 (by decide +kernel) rfl
theorem ms_X0_restsOfAll : Cond.selects yX0_restsOfAll.cls yX0_restsOfAll yX0_restsOfAll ∈ wsAll := wt2 208 (by decide +kernel) rfl
theorem ms_X0_changeStone : Cond.selects yX0_changeStone.cls yX0_changeStone yX0_changeStone ∈ wsAll := wt2 212 (by decide +kernel) rfl
theorem ms_X4_mill : Cond.selects yX4_mill.cls yX4_mill yX4_mill ∈ wsAll := wt2 225 (by decide +kernel) rfl
theorem ms_X4_tide : Cond.selects yX4_tide.cls yX4_tide yX4_tide ∈ wsAll := wt2 238 (by decide +kernel) rfl
theorem ms_X4_whyNot : Cond.selects yX4_whyNot.cls yX4_whyNot yX4_whyNot ∈ wsAll := wt3 6 (by decide +kernel) rfl
theorem ms_X4_sackAt : Cond.selects yX4_sackAt.cls yX4_sackAt yX4_sackAt ∈ wsAll := wt3 14 (by decide +kernel) rfl
theorem ms_X2_numberAt : Cond.selects yX2_numberAt.cls yX2_numberAt yX2_numberAt ∈ wsAll := wt3 18 (by decide +kernel) rfl
theorem ms_X4_sackOf : Cond.selects yX4_sackOf.cls yX4_sackOf yX4_sackOf ∈ wsAll := wt3 22 (by decide +kernel) rfl
theorem ms_X2_hardnessAt : Cond.selects yX2_hardnessAt.cls yX2_hardnessAt yX2_hardnessAt ∈ wsAll := wt3 29 (by decide +kernel) rfl
theorem ms_X2_dueAt : Cond.selects yX2_dueAt.cls yX2_dueAt yX2_dueAt ∈ wsAll := wt3 34 (by decide +kernel) rfl
theorem ms_X4_inTime : Cond.selects yX4_inTime.cls yX4_inTime yX4_inTime ∈ wsAll := wt3 38 (by decide +kernel) rfl
theorem ms_X4_next : Cond.selects yX4_next.cls yX4_next yX4_next ∈ wsAll := wt3 49 (by decide +kernel) rfl
theorem ms_X4_pond : Cond.selects yX4_pond.cls yX4_pond yX4_pond ∈ wsAll := wt3 65 (by decide +kernel) rfl
theorem ms_X1_save : Cond.selects yX1_save.cls yX1_save yX1_save ∈ wsAll := wt3 88 (by decide +kernel) rfl
theorem ms_X4_gate : Cond.selects yX4_gate.cls yX4_gate yX4_gate ∈ wsAll := wt3 101 (by decide +kernel) rfl
theorem ms_X4_gear : Cond.selects yX4_gear.cls yX4_gear yX4_gear ∈ wsAll := wt3 105 (by decide +kernel) rfl
theorem ms_X4_set : Cond.selects yX4_set.cls yX4_set yX4_set ∈ wsAll := wt3 110 (by decide +kernel) rfl
theorem ms_X0_changeSetting : Cond.selects yX0_changeSetting.cls yX0_changeSetting yX0_changeSetting ∈ wsAll := wt3 121 (by decide +kernel) rfl
theorem ms_X4_sack : Cond.selects yX4_sack.cls yX4_sack yX4_sack ∈ wsAll := wt3 125 (by decide +kernel) rfl
theorem ms_X0_hasRoomForSack : Cond.selects yX0_hasRoomForSack.cls yX0_hasRoomForSack yX0_hasRoomForSack ∈ wsAll := wt3 129 (by decide +kernel) rfl
theorem ms_X0_bringSack : Cond.selects yX0_bringSack.cls yX0_bringSack yX0_bringSack ∈ wsAll := wt3 133 (by decide +kernel) rfl
theorem ms_X2_putSack : Cond.selects yX2_putSack.cls yX2_putSack yX2_putSack ∈ wsAll := wt3 138 (by decide +kernel) rfl
theorem ms_X4_carry : Cond.selects yX4_carry.cls yX4_carry yX4_carry ∈ wsAll := wt3 146 (by decide +kernel) rfl
theorem ms_X4_back : Cond.selects yX4_back.cls yX4_back yX4_back ∈ wsAll := wt3 157 (by decide +kernel) rfl
theorem ms_X4_pass : Cond.selects yX4_pass.cls yX4_pass yX4_pass ∈ wsAll := wt3 164 (by decide +kernel) rfl
theorem ms_X4_undo : Cond.selects yX4_undo.cls yX4_undo yX4_undo ∈ wsAll := wt3 168 (by decide +kernel) rfl
theorem ms_X1_restoreLatest : Cond.selects yX1_restoreLatest.cls yX1_restoreLatest yX1_restoreLatest ∈ wsAll := wt3 172 (by decide +kernel) rfl
theorem ms_X4_keep : Cond.selects yX4_keep.cls yX4_keep yX4_keep ∈ wsAll := wt3 182 (by decide +kernel) rfl
theorem ms_X4_ifPassed : Cond.selects yX4_ifPassed.cls yX4_ifPassed yX4_ifPassed ∈ wsAll := wt3 189 (by decide +kernel) rfl
theorem ms_X4_restore : Cond.selects yX4_restore.cls yX4_restore yX4_restore ∈ wsAll := wt3 197 (by decide +kernel) rfl
theorem ac_int : Cond.arrayClass .int ∈ wsAll := wt1 100 (by decide +kernel) rfl
theorem oi_X0 : Cond.methodLink RX0 3 Lib.objectInit ∈ wsAll := wt1 26 (by decide +kernel) rfl
theorem oi_X1 : Cond.methodLink RX1 3 Lib.objectInit ∈ wsAll := wt1 155 (by decide +kernel) rfl
theorem oi_X2 : Cond.methodLink RX2 3 Lib.objectInit ∈ wsAll := wt1 32 (by decide +kernel) rfl
theorem oi_X3 : Cond.methodLink RX3 3 Lib.objectInit ∈ wsAll := wt1 172 (by decide +kernel) rfl
theorem oi_X4 : Cond.methodLink RX4 1 Lib.objectInit ∈ wsAll := wt1 18 (by decide +kernel) rfl
theorem oi_inst : Cond.instanceMethod Lib.objectInit ∈ wsAll := wt1 19 (by decide +kernel) rfl
theorem oi_code : Cond.code Lib.objectInit ⟨#[0xb1]⟩ 1 none ∈ wsAll := wt1 20 (by decide +kernel) rfl
theorem ma_min : Cond.methodLink RX2 62 Lib.Math.min.name ∈ wsAll := wt2 133 (by decide +kernel) rfl
theorem mas_min : Cond.static Lib.Math.min.name ∈ wsAll := wt2 134 (by decide +kernel) rfl
theorem mac_min : Cond.code Lib.Math.min.name Lib.Math.min.code 2 (some .int) ∈ wsAll := wt2 135 (by decide +kernel) rfl
theorem in_Math : Cond.initialized "java/lang/Math" ∈ wsAll := wt1 11 (by decide +kernel) rfl
theorem in_IndexOutOfBounds : Cond.initialized "java/lang/IndexOutOfBoundsException" ∈ wsAll := wt1 9 (by decide +kernel) rfl
theorem in_IllegalArgument : Cond.initialized "java/lang/IllegalArgumentException" ∈ wsAll := wt1 10 (by decide +kernel) rfl
theorem in_IllegalState : Cond.initialized "java/lang/IllegalStateException" ∈ wsAll := wt1 12 (by decide +kernel) rfl
