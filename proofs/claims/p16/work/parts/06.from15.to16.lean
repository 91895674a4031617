section
theorem zWi (i : Nat) {w : Cond} (h : lw_tbl[i]? = some w) (g : goodWord w = true) : w ∈ zW := List.mem_filter.mpr ⟨List.mem_of_getElem? h, g⟩
theorem zNi (i : Nat) {w : Cond} (h : lw_tbl[i]? = some w) (g : zNest w = true) : w ∈ zN := List.mem_filter.mpr ⟨List.mem_of_getElem? h, g⟩
theorem zT0 (i : Nat) {w : Cond} (h : (k2_sels lw_privs)[i]? = some w) (g : goodWord w = true) : w ∈ zW := List.mem_filter.mpr ⟨List.mem_append_left _ (List.mem_of_getElem? h), g⟩
theorem zT1 (i : Nat) {w : Cond} (h : (tables_1_1)[i]? = some w) (g : goodWord w = true) : w ∈ zW := List.mem_filter.mpr ⟨List.mem_append_right _ (List.mem_append_left _ (List.mem_of_getElem? h)), g⟩
theorem zU1 (i : Nat) {w : Cond} (h : (tables_1_1)[i]? = some w) (g : zNest w = true) : w ∈ zN := List.mem_filter.mpr ⟨List.mem_append_right _ (List.mem_append_left _ (List.mem_of_getElem? h)), g⟩
theorem zT2 (i : Nat) {w : Cond} (h : (tables_1_2)[i]? = some w) (g : goodWord w = true) : w ∈ zW := List.mem_filter.mpr ⟨List.mem_append_right _ (List.mem_append_right _ (List.mem_append_left _ (List.mem_of_getElem? h))), g⟩
theorem zU2 (i : Nat) {w : Cond} (h : (tables_1_2)[i]? = some w) (g : zNest w = true) : w ∈ zN := List.mem_filter.mpr ⟨List.mem_append_right _ (List.mem_append_right _ (List.mem_append_left _ (List.mem_of_getElem? h))), g⟩
theorem zT3 (i : Nat) {w : Cond} (h : (tables_1_3)[i]? = some w) (g : goodWord w = true) : w ∈ zW := List.mem_filter.mpr ⟨List.mem_append_right _ (List.mem_append_right _ (List.mem_append_right _ (List.mem_append_left _ (List.mem_of_getElem? h)))), g⟩
theorem zT4 (i : Nat) {w : Cond} (h : (tables_1_4)[i]? = some w) (g : goodWord w = true) : w ∈ zW := List.mem_filter.mpr ⟨List.mem_append_right _ (List.mem_append_right _ (List.mem_append_right _ (List.mem_append_right _ (List.mem_append_left _ (List.mem_of_getElem? h))))), g⟩
theorem zT5 (i : Nat) {w : Cond} (h : (tables_1_5)[i]? = some w) (g : goodWord w = true) : w ∈ zW := List.mem_filter.mpr ⟨List.mem_append_right _ (List.mem_append_right _ (List.mem_append_right _ (List.mem_append_right _ (List.mem_append_right _ (List.mem_of_getElem? h))))), g⟩
theorem ly_X0_0 : u_lay RX0 TX0 0 ∈ zW := (zT1 177 (by decide +kernel) rfl)
theorem ly_X0_1 : u_lay RX0 TX0 1 ∈ zW := (zT1 179 (by decide +kernel) rfl)
theorem ly_X0_2 : u_lay RX0 TX0 2 ∈ zW := (zT1 181 (by decide +kernel) rfl)
theorem ly_X0_3 : u_lay RX0 TX0 3 ∈ zW := (zT1 183 (by decide +kernel) rfl)
theorem inz_X0 : ∀ w ∈ u_ws RX0 TX0 4, w ∈ zW := by
  intro w hw
  obtain ⟨k, hk, rfl⟩ := List.mem_map.mp hw
  have hk := List.mem_range.mp hk
  match k, hk with
  | 0, _ => exact ly_X0_0
  | 1, _ => exact ly_X0_1
  | 2, _ => exact ly_X0_2
  | 3, _ => exact ly_X0_3
  | k + 4, hk => exact absurd hk (by omega)
theorem ly_X1_0 : u_lay RX1 TX1 0 ∈ zW := (zT1 137 (by decide +kernel) rfl)
theorem ly_X1_1 : u_lay RX1 TX1 1 ∈ zW := (zT1 139 (by decide +kernel) rfl)
theorem inz_X1 : ∀ w ∈ u_ws RX1 TX1 2, w ∈ zW := by
  intro w hw
  obtain ⟨k, hk, rfl⟩ := List.mem_map.mp hw
  have hk := List.mem_range.mp hk
  match k, hk with
  | 0, _ => exact ly_X1_0
  | 1, _ => exact ly_X1_1
  | k + 2, hk => exact absurd hk (by omega)
theorem ly_X2_0 : u_lay RX2 TX2 0 ∈ zW := (zT1 63 (by decide +kernel) rfl)
theorem ly_X2_1 : u_lay RX2 TX2 1 ∈ zW := (zT1 65 (by decide +kernel) rfl)
theorem ly_X2_2 : u_lay RX2 TX2 2 ∈ zW := (zT1 67 (by decide +kernel) rfl)
theorem inz_X2 : ∀ w ∈ u_ws RX2 TX2 3, w ∈ zW := by
  intro w hw
  obtain ⟨k, hk, rfl⟩ := List.mem_map.mp hw
  have hk := List.mem_range.mp hk
  match k, hk with
  | 0, _ => exact ly_X2_0
  | 1, _ => exact ly_X2_1
  | 2, _ => exact ly_X2_2
  | k + 3, hk => exact absurd hk (by omega)
theorem ly_X3_0 : u_lay RX3 TX3 0 ∈ zW := (zT1 124 (by decide +kernel) rfl)
theorem ly_X3_1 : u_lay RX3 TX3 1 ∈ zW := (zT1 126 (by decide +kernel) rfl)
theorem ly_X3_2 : u_lay RX3 TX3 2 ∈ zW := (zT1 128 (by decide +kernel) rfl)
theorem inz_X3 : ∀ w ∈ u_ws RX3 TX3 3, w ∈ zW := by
  intro w hw
  obtain ⟨k, hk, rfl⟩ := List.mem_map.mp hw
  have hk := List.mem_range.mp hk
  match k, hk with
  | 0, _ => exact ly_X3_0
  | 1, _ => exact ly_X3_1
  | 2, _ => exact ly_X3_2
  | k + 3, hk => exact absurd hk (by omega)
theorem ly_X4_0 : u_lay RX4 TX4 0 ∈ zW := (zT1 98 (by decide +kernel) rfl)
theorem ly_X4_1 : u_lay RX4 TX4 1 ∈ zW := (zT1 100 (by decide +kernel) rfl)
theorem ly_X4_2 : u_lay RX4 TX4 2 ∈ zW := (zT1 102 (by decide +kernel) rfl)
theorem ly_X4_3 : u_lay RX4 TX4 3 ∈ zW := (zT1 104 (by decide +kernel) rfl)
theorem inz_X4 : ∀ w ∈ u_ws RX4 TX4 4, w ∈ zW := by
  intro w hw
  obtain ⟨k, hk, rfl⟩ := List.mem_map.mp hw
  have hk := List.mem_range.mp hk
  match k, hk with
  | 0, _ => exact ly_X4_0
  | 1, _ => exact ly_X4_1
  | 2, _ => exact ly_X4_2
  | 3, _ => exact ly_X4_3
  | k + 4, hk => exact absurd hk (by omega)
theorem ly_X5_0 : u_lay RX5 TX5 0 ∈ zW := (zT1 213 (by decide +kernel) rfl)
theorem ly_X5_1 : u_lay RX5 TX5 1 ∈ zW := (zT1 215 (by decide +kernel) rfl)
theorem ly_X5_2 : u_lay RX5 TX5 2 ∈ zW := (zT1 217 (by decide +kernel) rfl)
theorem ly_X5_3 : u_lay RX5 TX5 3 ∈ zW := (zT1 219 (by decide +kernel) rfl)
theorem ly_X5_4 : u_lay RX5 TX5 4 ∈ zW := (zT1 221 (by decide +kernel) rfl)
theorem ly_X5_5 : u_lay RX5 TX5 5 ∈ zW := (zT1 223 (by decide +kernel) rfl)
theorem ly_X5_6 : u_lay RX5 TX5 6 ∈ zW := (zT1 225 (by decide +kernel) rfl)
theorem ly_X5_7 : u_lay RX5 TX5 7 ∈ zW := (zT1 227 (by decide +kernel) rfl)
theorem inz_X5 : ∀ w ∈ u_ws RX5 TX5 8, w ∈ zW := by
  intro w hw
  obtain ⟨k, hk, rfl⟩ := List.mem_map.mp hw
  have hk := List.mem_range.mp hk
  match k, hk with
  | 0, _ => exact ly_X5_0
  | 1, _ => exact ly_X5_1
  | 2, _ => exact ly_X5_2
  | 3, _ => exact ly_X5_3
  | 4, _ => exact ly_X5_4
  | 5, _ => exact ly_X5_5
  | 6, _ => exact ly_X5_6
  | 7, _ => exact ly_X5_7
  | k + 8, hk => exact absurd hk (by omega)
theorem ly_X6_0 : u_lay RX6 TX6 0 ∈ zW := (zT1 77 (by decide +kernel) rfl)
theorem ly_X6_1 : u_lay RX6 TX6 1 ∈ zW := (zT1 79 (by decide +kernel) rfl)
theorem inz_X6 : ∀ w ∈ u_ws RX6 TX6 2, w ∈ zW := by
  intro w hw
  obtain ⟨k, hk, rfl⟩ := List.mem_map.mp hw
  have hk := List.mem_range.mp hk
  match k, hk with
  | 0, _ => exact ly_X6_0
  | 1, _ => exact ly_X6_1
  | k + 2, hk => exact absurd hk (by omega)
theorem ly_X7_0 : u_lay RX7 TX7 0 ∈ zW := (zT1 150 (by decide +kernel) rfl)
theorem ly_X7_1 : u_lay RX7 TX7 1 ∈ zW := (zT1 152 (by decide +kernel) rfl)
theorem ly_X7_2 : u_lay RX7 TX7 2 ∈ zW := (zT1 154 (by decide +kernel) rfl)
theorem ly_X7_3 : u_lay RX7 TX7 3 ∈ zW := (zT1 156 (by decide +kernel) rfl)
theorem ly_X7_4 : u_lay RX7 TX7 4 ∈ zW := (zT1 158 (by decide +kernel) rfl)
theorem inz_X7 : ∀ w ∈ u_ws RX7 TX7 5, w ∈ zW := by
  intro w hw
  obtain ⟨k, hk, rfl⟩ := List.mem_map.mp hw
  have hk := List.mem_range.mp hk
  match k, hk with
  | 0, _ => exact ly_X7_0
  | 1, _ => exact ly_X7_1
  | 2, _ => exact ly_X7_2
  | 3, _ => exact ly_X7_3
  | 4, _ => exact ly_X7_4
  | k + 5, hk => exact absurd hk (by omega)
theorem ly_X8_0 : u_lay RX8 TX8 0 ∈ zW := (zT1 239 (by decide +kernel) rfl)
theorem ly_X8_1 : u_lay RX8 TX8 1 ∈ zW := (zT2 1 (by decide +kernel) rfl)
theorem ly_X8_2 : u_lay RX8 TX8 2 ∈ zW := (zT2 3 (by decide +kernel) rfl)
theorem ly_X8_3 : u_lay RX8 TX8 3 ∈ zW := (zT2 5 (by decide +kernel) rfl)
theorem ly_X8_4 : u_lay RX8 TX8 4 ∈ zW := (zT2 7 (by decide +kernel) rfl)
theorem ly_X8_5 : u_lay RX8 TX8 5 ∈ zW := (zT2 9 (by decide +kernel) rfl)
theorem ly_X8_6 : u_lay RX8 TX8 6 ∈ zW := (zT2 11 (by decide +kernel) rfl)
theorem ly_X8_7 : u_lay RX8 TX8 7 ∈ zW := (zT2 13 (by decide +kernel) rfl)
theorem inz_X8 : ∀ w ∈ u_ws RX8 TX8 8, w ∈ zW := by
  intro w hw
  obtain ⟨k, hk, rfl⟩ := List.mem_map.mp hw
  have hk := List.mem_range.mp hk
  match k, hk with
  | 0, _ => exact ly_X8_0
  | 1, _ => exact ly_X8_1
  | 2, _ => exact ly_X8_2
  | 3, _ => exact ly_X8_3
  | 4, _ => exact ly_X8_4
  | 5, _ => exact ly_X8_5
  | 6, _ => exact ly_X8_6
  | 7, _ => exact ly_X8_7
  | k + 8, hk => exact absurd hk (by omega)
theorem ly_X9_0 : u_lay RX9 TX9 0 ∈ zW := (zT4 37 (by decide +kernel) rfl)
theorem ly_X9_1 : u_lay RX9 TX9 1 ∈ zW := (zT4 39 (by decide +kernel) rfl)
theorem ly_X9_2 : u_lay RX9 TX9 2 ∈ zW := (zT4 41 (by decide +kernel) rfl)
theorem ly_X9_3 : u_lay RX9 TX9 3 ∈ zW := (zT4 43 (by decide +kernel) rfl)
theorem ly_X9_4 : u_lay RX9 TX9 4 ∈ zW := (zT4 45 (by decide +kernel) rfl)
theorem ly_X9_5 : u_lay RX9 TX9 5 ∈ zW := (zT4 47 (by decide +kernel) rfl)
theorem ly_X9_6 : u_lay RX9 TX9 6 ∈ zW := (zT4 49 (by decide +kernel) rfl)
theorem ly_X9_7 : u_lay RX9 TX9 7 ∈ zW := (zT4 51 (by decide +kernel) rfl)
theorem ly_X9_8 : u_lay RX9 TX9 8 ∈ zW := (zT4 53 (by decide +kernel) rfl)
theorem ly_X9_9 : u_lay RX9 TX9 9 ∈ zW := (zT4 55 (by decide +kernel) rfl)
theorem ly_X9_10 : u_lay RX9 TX9 10 ∈ zW := (zT4 57 (by decide +kernel) rfl)
theorem ly_X9_11 : u_lay RX9 TX9 11 ∈ zW := (zT4 59 (by decide +kernel) rfl)
theorem ly_X9_12 : u_lay RX9 TX9 12 ∈ zW := (zT4 61 (by decide +kernel) rfl)
theorem ly_X9_13 : u_lay RX9 TX9 13 ∈ zW := (zT4 63 (by decide +kernel) rfl)
theorem ly_X9_14 : u_lay RX9 TX9 14 ∈ zW := (zT4 65 (by decide +kernel) rfl)
theorem ly_X9_15 : u_lay RX9 TX9 15 ∈ zW := (zT4 67 (by decide +kernel) rfl)
theorem ly_X9_16 : u_lay RX9 TX9 16 ∈ zW := (zT4 69 (by decide +kernel) rfl)
theorem ly_X9_17 : u_lay RX9 TX9 17 ∈ zW := (zT4 71 (by decide +kernel) rfl)
theorem ly_X9_18 : u_lay RX9 TX9 18 ∈ zW := (zT4 73 (by decide +kernel) rfl)
theorem ly_X9_19 : u_lay RX9 TX9 19 ∈ zW := (zT4 75 (by decide +kernel) rfl)
theorem ly_X9_20 : u_lay RX9 TX9 20 ∈ zW := (zT4 77 (by decide +kernel) rfl)
theorem ly_X9_21 : u_lay RX9 TX9 21 ∈ zW := (zT4 79 (by decide +kernel) rfl)
theorem ly_X9_22 : u_lay RX9 TX9 22 ∈ zW := (zT4 81 (by decide +kernel) rfl)
theorem ly_X9_23 : u_lay RX9 TX9 23 ∈ zW := (zT4 83 (by decide +kernel) rfl)
theorem ly_X9_24 : u_lay RX9 TX9 24 ∈ zW := (zT4 85 (by decide +kernel) rfl)
theorem ly_X9_25 : u_lay RX9 TX9 25 ∈ zW := (zT4 87 (by decide +kernel) rfl)
theorem ly_X9_26 : u_lay RX9 TX9 26 ∈ zW := (zT4 89 (by decide +kernel) rfl)
theorem ly_X9_27 : u_lay RX9 TX9 27 ∈ zW := (zT4 91 (by decide +kernel) rfl)
theorem ly_X9_28 : u_lay RX9 TX9 28 ∈ zW := (zT4 93 (by decide +kernel) rfl)
theorem ly_X9_29 : u_lay RX9 TX9 29 ∈ zW := (zT4 95 (by decide +kernel) rfl)
theorem ly_X9_30 : u_lay RX9 TX9 30 ∈ zW := (zT4 97 (by decide +kernel) rfl)
theorem ly_X9_31 : u_lay RX9 TX9 31 ∈ zW := (zT4 99 (by decide +kernel) rfl)
theorem ly_X9_32 : u_lay RX9 TX9 32 ∈ zW := (zT4 101 (by decide +kernel) rfl)
theorem ly_X9_33 : u_lay RX9 TX9 33 ∈ zW := (zT4 103 (by decide +kernel) rfl)
theorem ly_X9_34 : u_lay RX9 TX9 34 ∈ zW := (zT4 105 (by decide +kernel) rfl)
theorem ly_X9_35 : u_lay RX9 TX9 35 ∈ zW := (zT4 107 (by decide +kernel) rfl)
theorem ly_X9_36 : u_lay RX9 TX9 36 ∈ zW := (zT4 109 (by decide +kernel) rfl)
theorem ly_X9_37 : u_lay RX9 TX9 37 ∈ zW := (zT4 111 (by decide +kernel) rfl)
theorem ly_X9_38 : u_lay RX9 TX9 38 ∈ zW := (zT4 113 (by decide +kernel) rfl)
theorem ly_X9_39 : u_lay RX9 TX9 39 ∈ zW := (zT4 115 (by decide +kernel) rfl)
theorem ly_X9_40 : u_lay RX9 TX9 40 ∈ zW := (zT4 117 (by decide +kernel) rfl)
theorem ly_X9_41 : u_lay RX9 TX9 41 ∈ zW := (zT4 119 (by decide +kernel) rfl)
theorem ly_X9_42 : u_lay RX9 TX9 42 ∈ zW := (zT4 121 (by decide +kernel) rfl)
theorem ly_X9_43 : u_lay RX9 TX9 43 ∈ zW := (zT4 123 (by decide +kernel) rfl)
theorem ly_X9_44 : u_lay RX9 TX9 44 ∈ zW := (zT4 125 (by decide +kernel) rfl)
theorem ly_X9_45 : u_lay RX9 TX9 45 ∈ zW := (zT4 127 (by decide +kernel) rfl)
theorem ly_X9_46 : u_lay RX9 TX9 46 ∈ zW := (zT4 129 (by decide +kernel) rfl)
theorem ly_X9_47 : u_lay RX9 TX9 47 ∈ zW := (zT4 131 (by decide +kernel) rfl)
theorem ly_X9_48 : u_lay RX9 TX9 48 ∈ zW := (zT4 133 (by decide +kernel) rfl)
theorem ly_X9_49 : u_lay RX9 TX9 49 ∈ zW := (zT4 135 (by decide +kernel) rfl)
theorem inz_X9 : ∀ w ∈ u_ws RX9 TX9 50, w ∈ zW := by
  intro w hw
  obtain ⟨k, hk, rfl⟩ := List.mem_map.mp hw
  have hk := List.mem_range.mp hk
  match k, hk with
  | 0, _ => exact ly_X9_0
  | 1, _ => exact ly_X9_1
  | 2, _ => exact ly_X9_2
  | 3, _ => exact ly_X9_3
  | 4, _ => exact ly_X9_4
  | 5, _ => exact ly_X9_5
  | 6, _ => exact ly_X9_6
  | 7, _ => exact ly_X9_7
  | 8, _ => exact ly_X9_8
  | 9, _ => exact ly_X9_9
  | 10, _ => exact ly_X9_10
  | 11, _ => exact ly_X9_11
  | 12, _ => exact ly_X9_12
  | 13, _ => exact ly_X9_13
  | 14, _ => exact ly_X9_14
  | 15, _ => exact ly_X9_15
  | 16, _ => exact ly_X9_16
  | 17, _ => exact ly_X9_17
  | 18, _ => exact ly_X9_18
  | 19, _ => exact ly_X9_19
  | 20, _ => exact ly_X9_20
  | 21, _ => exact ly_X9_21
  | 22, _ => exact ly_X9_22
  | 23, _ => exact ly_X9_23
  | 24, _ => exact ly_X9_24
  | 25, _ => exact ly_X9_25
  | 26, _ => exact ly_X9_26
  | 27, _ => exact ly_X9_27
  | 28, _ => exact ly_X9_28
  | 29, _ => exact ly_X9_29
  | 30, _ => exact ly_X9_30
  | 31, _ => exact ly_X9_31
  | 32, _ => exact ly_X9_32
  | 33, _ => exact ly_X9_33
  | 34, _ => exact ly_X9_34
  | 35, _ => exact ly_X9_35
  | 36, _ => exact ly_X9_36
  | 37, _ => exact ly_X9_37
  | 38, _ => exact ly_X9_38
  | 39, _ => exact ly_X9_39
  | 40, _ => exact ly_X9_40
  | 41, _ => exact ly_X9_41
  | 42, _ => exact ly_X9_42
  | 43, _ => exact ly_X9_43
  | 44, _ => exact ly_X9_44
  | 45, _ => exact ly_X9_45
  | 46, _ => exact ly_X9_46
  | 47, _ => exact ly_X9_47
  | 48, _ => exact ly_X9_48
  | 49, _ => exact ly_X9_49
  | k + 50, hk => exact absurd hk (by omega)
theorem ob_X8_1 : Cond.methodLink RX8 1 objectInit ∈ zW := (zT1 24 (by decide +kernel) rfl)
theorem an_X8_9 : Cond.classLink RX8 9 RX5 ∈ zW := (zT1 27 (by decide +kernel) rfl)
theorem fl_X8_11 : Cond.fieldLink RX8 11 (TX8 0).1 (TX8 0).2.1 (TX8 0).2.2.1 ∈ zW := (zT1 231 (by decide +kernel) rfl)
theorem fd_X8_11 : zFd RX8 11 8 0 := ⟨RX8, TX8, 8, rfl, by decide, inz_X8, Or.inl fl_X8_11⟩
theorem fp_X8_11 : zFp RX8 11 8 0 (.array (.object "UpdateSteps$Step")) true := ⟨RX8, TX8, 8, tyX8, rfl, by decide, inz_X8, tyX8_ok, nmX8, rfl, rfl, Or.inl ⟨rfl, rfl, fl_X8_11⟩⟩
theorem nw_X8_15 : zNw RX8 15 7 5 [.null, .null, .null, .null, .int 0] := ⟨RX7, TX7, tyX7, rfl, inz_X7, tyX7_ok, (zT1 29 (by decide +kernel) rfl), (zT1 30 (by decide +kernel) rfl), (zT1 2 (by decide +kernel) rfl), by decide +kernel⟩
theorem ml_X8_17 : Cond.methodLink RX8 17 yX7_init ∈ zW := (zT1 31 (by decide +kernel) rfl)
theorem ini_X7 : Cond.initialized "UpdateSteps$Worker" ∈ zW := (zT1 2 (by decide +kernel) rfl)
theorem lb_X7_init : (yX7_init.cls ≠ "java/lang/invoke/MethodHandle" ∧ yX7_init.cls ≠ "java/lang/invoke/VarHandle" ∧ (parseMethodDescriptor yX7_init.desc).map (fun d => d.parameters.length) = some 0) ∧ Cond.code yX7_init cX7_init 2 none ∈ zW := ⟨⟨by decide +kernel, by decide +kernel, by decide +kernel⟩, (zT1 33 rfl rfl)⟩
theorem im_X7_init : Cond.instanceMethod yX7_init ∈ zW := (zT1 32 (by decide +kernel) rfl)
theorem lk_X8_17 : zLkI RX8 17 yX7_init cX7_init 2 0 := ⟨⟨lb_X7_init.1, lb_X7_init.2, ini_X7, Or.inl ml_X8_17⟩, rfl, im_X7_init⟩
theorem fl_X8_18 : Cond.fieldLink RX8 18 (TX8 1).1 (TX8 1).2.1 (TX8 1).2.2.1 ∈ zW := (zT1 232 (by decide +kernel) rfl)
theorem fd_X8_18 : zFd RX8 18 8 1 := ⟨RX8, TX8, 8, rfl, by decide, inz_X8, Or.inl fl_X8_18⟩
theorem fp_X8_18 : zFp RX8 18 8 1 (.object "UpdateSteps$Worker") true := ⟨RX8, TX8, 8, tyX8, rfl, by decide, inz_X8, tyX8_ok, nmX8, rfl, rfl, Or.inl ⟨rfl, rfl, fl_X8_18⟩⟩
theorem fl_X8_22 : Cond.fieldLinkNest RX8 22 (TX7 0).1 (TX7 0).2.1 (TX7 0).2.2.1 "UpdateSteps" ∈ zN := (zU1 143 (by decide +kernel) rfl)
theorem fd_X8_22 : zFd RX8 22 7 0 := ⟨RX7, TX7, 5, rfl, by decide, inz_X7, Or.inr ⟨"UpdateSteps", fl_X8_22⟩⟩
theorem fl_X8_26 : Cond.fieldLink RX8 26 (TX8 2).1 (TX8 2).2.1 (TX8 2).2.2.1 ∈ zW := (zT1 233 (by decide +kernel) rfl)
theorem fd_X8_26 : zFd RX8 26 8 2 := ⟨RX8, TX8, 8, rfl, by decide, inz_X8, Or.inl fl_X8_26⟩
theorem fp_X8_26 : zFp RX8 26 8 2 (.object "UpdateSteps$Store") true := ⟨RX8, TX8, 8, tyX8, rfl, by decide, inz_X8, tyX8_ok, nmX8, rfl, rfl, Or.inl ⟨rfl, rfl, fl_X8_26⟩⟩
theorem nw_X8_27 : zNw RX8 27 6 2 [.null, .int 0] := ⟨RX6, TX6, tyX6, rfl, inz_X6, tyX6_ok, (zT1 161 (by decide +kernel) rfl), (zT1 36 (by decide +kernel) rfl), (zT1 3 (by decide +kernel) rfl), by decide +kernel⟩
theorem ml_X8_29 : Cond.methodLink RX8 29 yX6_init ∈ zW := (zT1 162 (by decide +kernel) rfl)
theorem ini_X6 : Cond.initialized "UpdateSteps$Store" ∈ zW := (zT1 3 (by decide +kernel) rfl)
theorem lb_X6_init : (yX6_init.cls ≠ "java/lang/invoke/MethodHandle" ∧ yX6_init.cls ≠ "java/lang/invoke/VarHandle" ∧ (parseMethodDescriptor yX6_init.desc).map (fun d => d.parameters.length) = some 0) ∧ Cond.code yX6_init cX6_init 2 none ∈ zW := ⟨⟨by decide +kernel, by decide +kernel, by decide +kernel⟩, (zT1 39 rfl rfl)⟩
theorem im_X6_init : Cond.instanceMethod yX6_init ∈ zW := (zT1 38 (by decide +kernel) rfl)
theorem lk_X8_29 : zLkI RX8 29 yX6_init cX6_init 2 0 := ⟨⟨lb_X6_init.1, lb_X6_init.2, ini_X6, Or.inl ml_X8_29⟩, rfl, im_X6_init⟩
theorem fl_X8_30 : Cond.fieldLink RX8 30 (TX8 3).1 (TX8 3).2.1 (TX8 3).2.2.1 ∈ zW := (zT1 234 (by decide +kernel) rfl)
theorem fd_X8_30 : zFd RX8 30 8 3 := ⟨RX8, TX8, 8, rfl, by decide, inz_X8, Or.inl fl_X8_30⟩
theorem fp_X8_30 : zFp RX8 30 8 3 (.object "UpdateSteps$Store") true := ⟨RX8, TX8, 8, tyX8, rfl, by decide, inz_X8, tyX8_ok, nmX8, rfl, rfl, Or.inl ⟨rfl, rfl, fl_X8_30⟩⟩
theorem nw_X8_33 : zNw RX8 33 0 4 [.null, .null, .null, .int 0] := ⟨RX0, TX0, tyX0, rfl, inz_X0, tyX0_ok, (zT1 163 (by decide +kernel) rfl), (zT1 164 (by decide +kernel) rfl), (zT1 8 (by decide +kernel) rfl), by decide +kernel⟩
theorem ini_X0 : Cond.initialized "UpdateSteps$Changes" ∈ zW := (zT1 8 (by decide +kernel) rfl)
theorem lb_X0_init : (yX0_init.cls ≠ "java/lang/invoke/MethodHandle" ∧ yX0_init.cls ≠ "java/lang/invoke/VarHandle" ∧ (parseMethodDescriptor yX0_init.desc).map (fun d => d.parameters.length) = some 0) ∧ Cond.code yX0_init cX0_init 1 none ∈ zW := ⟨⟨by decide +kernel, by decide +kernel, by decide +kernel⟩, (zT1 167 rfl rfl)⟩
theorem im_X0_init : Cond.instanceMethod yX0_init ∈ zW := (zT1 166 (by decide +kernel) rfl)
theorem lk_X8_35 : zLkI RX8 35 yX0_init cX0_init 1 0 := ⟨⟨lb_X0_init.1, lb_X0_init.2, ini_X0, Or.inr ⟨"UpdateSteps", (zU1 165 (by decide +kernel) rfl)⟩⟩, rfl, im_X0_init⟩
theorem fl_X8_36 : Cond.fieldLink RX8 36 (TX8 4).1 (TX8 4).2.1 (TX8 4).2.2.1 ∈ zW := (zT1 235 (by decide +kernel) rfl)
theorem fd_X8_36 : zFd RX8 36 8 4 := ⟨RX8, TX8, 8, rfl, by decide, inz_X8, Or.inl fl_X8_36⟩
theorem fp_X8_36 : zFp RX8 36 8 4 (.object "UpdateSteps$Changes") true := ⟨RX8, TX8, 8, tyX8, rfl, by decide, inz_X8, tyX8_ok, nmX8, rfl, rfl, Or.inl ⟨rfl, rfl, fl_X8_36⟩⟩
theorem fl_X8_40 : Cond.fieldLink RX8 40 (TX8 5).1 (TX8 5).2.1 (TX8 5).2.2.1 ∈ zW := (zT1 236 (by decide +kernel) rfl)
theorem fd_X8_40 : zFd RX8 40 8 5 := ⟨RX8, TX8, 8, rfl, by decide, inz_X8, Or.inl fl_X8_40⟩
theorem fp_X8_40 : zFp RX8 40 8 5 .int false := ⟨RX8, TX8, 8, tyX8, rfl, by decide, inz_X8, tyX8_ok, nmX8, rfl, rfl, Or.inr ⟨rfl, Or.inl fl_X8_40⟩⟩
theorem fl_X8_44 : Cond.fieldLink RX8 44 (TX8 6).1 (TX8 6).2.1 (TX8 6).2.2.1 ∈ zW := (zT1 237 (by decide +kernel) rfl)
theorem fd_X8_44 : zFd RX8 44 8 6 := ⟨RX8, TX8, 8, rfl, by decide, inz_X8, Or.inl fl_X8_44⟩
theorem fp_X8_44 : zFp RX8 44 8 6 .int false := ⟨RX8, TX8, 8, tyX8, rfl, by decide, inz_X8, tyX8_ok, nmX8, rfl, rfl, Or.inr ⟨rfl, Or.inl fl_X8_44⟩⟩
theorem fl_X8_47 : Cond.fieldLink RX8 47 (TX8 7).1 (TX8 7).2.1 (TX8 7).2.2.1 ∈ zW := (zT1 238 (by decide +kernel) rfl)
theorem fd_X8_47 : zFd RX8 47 8 7 := ⟨RX8, TX8, 8, rfl, by decide, inz_X8, Or.inl fl_X8_47⟩
theorem fp_X8_47 : zFp RX8 47 8 7 .int false := ⟨RX8, TX8, 8, tyX8, rfl, by decide, inz_X8, tyX8_ok, nmX8, rfl, rfl, Or.inr ⟨rfl, Or.inl fl_X8_47⟩⟩
theorem nw_X8_9 : zNw RX8 9 5 8 [.null, .null, .null, .int 0, .int 0, .int 0, .int 0, .int 0] := ⟨RX5, TX5, tyX5, rfl, inz_X5, tyX5_ok, (zT1 27 (by decide +kernel) rfl), (zT1 186 (by decide +kernel) rfl), (zT1 9 (by decide +kernel) rfl), by decide +kernel⟩
theorem ini_X5 : Cond.initialized "UpdateSteps$Step" ∈ zW := (zT1 9 (by decide +kernel) rfl)
theorem lb_X5_init : (yX5_init.cls ≠ "java/lang/invoke/MethodHandle" ∧ yX5_init.cls ≠ "java/lang/invoke/VarHandle" ∧ (parseMethodDescriptor yX5_init.desc).map (fun d => d.parameters.length) = some 0) ∧ Cond.code yX5_init cX5_init 1 none ∈ zW := ⟨⟨by decide +kernel, by decide +kernel, by decide +kernel⟩, (zT1 189 rfl rfl)⟩
theorem im_X5_init : Cond.instanceMethod yX5_init ∈ zW := (zT1 188 (by decide +kernel) rfl)
theorem lk_X8_50 : zLkI RX8 50 yX5_init cX5_init 1 0 := ⟨⟨lb_X5_init.1, lb_X5_init.2, ini_X5, Or.inr ⟨"UpdateSteps", (zU1 187 (by decide +kernel) rfl)⟩⟩, rfl, im_X5_init⟩
theorem ml_X8_51 : Cond.methodLink RX8 51 yX8_fromMayBe ∈ zW := (zT2 210 (by decide +kernel) rfl)
theorem ini_X8 : Cond.initialized "UpdateSteps" ∈ zW := (zT1 1 (by decide +kernel) rfl)
theorem lb_X8_fromMayBe : (yX8_fromMayBe.cls ≠ "java/lang/invoke/MethodHandle" ∧ yX8_fromMayBe.cls ≠ "java/lang/invoke/VarHandle" ∧ (parseMethodDescriptor yX8_fromMayBe.desc).map (fun d => d.parameters.length) = some 2) ∧ Cond.code yX8_fromMayBe cX8_fromMayBe 2 (some .boolean) ∈ zW := ⟨⟨by decide +kernel, by decide +kernel, by decide +kernel⟩, (zT2 212 rfl rfl)⟩
theorem sm_X8_fromMayBe : Cond.static yX8_fromMayBe ∈ zW := (zT2 211 (by decide +kernel) rfl)
theorem lk_X8_51 : zLkS RX8 51 yX8_fromMayBe cX8_fromMayBe 2 (some .boolean) 2 := ⟨⟨lb_X8_fromMayBe.1, lb_X8_fromMayBe.2, ini_X8, Or.inl ml_X8_51⟩, sm_X8_fromMayBe⟩
theorem ml_X8_55 : Cond.methodLink RX8 55 yX8_toMayBe ∈ zW := (zT2 217 (by decide +kernel) rfl)
theorem lb_X8_toMayBe : (yX8_toMayBe.cls ≠ "java/lang/invoke/MethodHandle" ∧ yX8_toMayBe.cls ≠ "java/lang/invoke/VarHandle" ∧ (parseMethodDescriptor yX8_toMayBe.desc).map (fun d => d.parameters.length) = some 2) ∧ Cond.code yX8_toMayBe cX8_toMayBe 2 (some .boolean) ∈ zW := ⟨⟨by decide +kernel, by decide +kernel, by decide +kernel⟩, (zT2 219 rfl rfl)⟩
theorem sm_X8_toMayBe : Cond.static yX8_toMayBe ∈ zW := (zT2 218 (by decide +kernel) rfl)
theorem lk_X8_55 : zLkS RX8 55 yX8_toMayBe cX8_toMayBe 2 (some .boolean) 2 := ⟨⟨lb_X8_toMayBe.1, lb_X8_toMayBe.2, ini_X8, Or.inl ml_X8_55⟩, sm_X8_toMayBe⟩
theorem ml_X8_70 : Cond.methodLink RX8 70 yX8_fromCounts ∈ zW := (zT2 213 (by decide +kernel) rfl)
theorem lb_X8_fromCounts : (yX8_fromCounts.cls ≠ "java/lang/invoke/MethodHandle" ∧ yX8_fromCounts.cls ≠ "java/lang/invoke/VarHandle" ∧ (parseMethodDescriptor yX8_fromCounts.desc).map (fun d => d.parameters.length) = some 1) ∧ Cond.code yX8_fromCounts cX8_fromCounts 1 (some .boolean) ∈ zW := ⟨⟨by decide +kernel, by decide +kernel, by decide +kernel⟩, (zT2 215 rfl rfl)⟩
theorem sm_X8_fromCounts : Cond.static yX8_fromCounts ∈ zW := (zT2 214 (by decide +kernel) rfl)
theorem lk_X8_70 : zLkS RX8 70 yX8_fromCounts cX8_fromCounts 1 (some .boolean) 1 := ⟨⟨lb_X8_fromCounts.1, lb_X8_fromCounts.2, ini_X8, Or.inl ml_X8_70⟩, sm_X8_fromCounts⟩
theorem ml_X8_74 : Cond.methodLink RX8 74 yX5_begin ∈ zW := (zT3 64 (by decide +kernel) rfl)
theorem lb_X5_begin : (yX5_begin.cls ≠ "java/lang/invoke/MethodHandle" ∧ yX5_begin.cls ≠ "java/lang/invoke/VarHandle" ∧ (parseMethodDescriptor yX5_begin.desc).map (fun d => d.parameters.length) = some 3) ∧ Cond.code yX5_begin cX5_begin 4 none ∈ zW := ⟨⟨by decide +kernel, by decide +kernel, by decide +kernel⟩, (zT3 67 rfl rfl)⟩
theorem im_X5_begin : Cond.instanceMethod yX5_begin ∈ zW := (zT3 65 (by decide +kernel) rfl)
theorem se_X5_begin : Cond.selects yX5_begin.cls yX5_begin yX5_begin ∈ zW := (zT3 66 (by decide +kernel) rfl)
theorem lk_X8_74 : zLkV RX8 74 yX5_begin cX5_begin 4 none 3 := ⟨⟨lb_X5_begin.1, lb_X5_begin.2, ini_X5, Or.inl ml_X8_74⟩, im_X5_begin, se_X5_begin⟩
theorem ml_X8_78 : Cond.methodLink RX8 78 yX8_stepNumbered ∈ zW := (zT3 76 (by decide +kernel) rfl)
theorem lb_X8_stepNumbered : (yX8_stepNumbered.cls ≠ "java/lang/invoke/MethodHandle" ∧ yX8_stepNumbered.cls ≠ "java/lang/invoke/VarHandle" ∧ (parseMethodDescriptor yX8_stepNumbered.desc).map (fun d => d.parameters.length) = some 1) ∧ Cond.code yX8_stepNumbered cX8_stepNumbered 2 (some (.object "UpdateSteps$Step")) ∈ zW := ⟨⟨by decide +kernel, by decide +kernel, by decide +kernel⟩, (zT3 79 rfl rfl)⟩
theorem im_X8_stepNumbered : Cond.instanceMethod yX8_stepNumbered ∈ zW := (zT3 78 (by decide +kernel) rfl)
theorem se_X8_stepNumbered : Cond.selects yX8_stepNumbered.cls yX8_stepNumbered yX8_stepNumbered ∈ zW := (zT0 18 (by decide +kernel) rfl)
theorem lk_X8_78 : zLkV RX8 78 yX8_stepNumbered cX8_stepNumbered 2 (some (.object "UpdateSteps$Step")) 1 := ⟨⟨lb_X8_stepNumbered.1, lb_X8_stepNumbered.2, ini_X8, Or.inl ml_X8_78⟩, im_X8_stepNumbered, se_X8_stepNumbered⟩
theorem fl_X8_82 : Cond.fieldLinkNest RX8 82 (TX5 6).1 (TX5 6).2.1 (TX5 6).2.2.1 "UpdateSteps" ∈ zN := (zU1 209 (by decide +kernel) rfl)
theorem fd_X8_82 : zFd RX8 82 5 6 := ⟨RX5, TX5, 8, rfl, by decide, inz_X5, Or.inr ⟨"UpdateSteps", fl_X8_82⟩⟩
theorem fp_X8_82 : zFp RX8 82 5 6 .boolean false := ⟨RX5, TX5, 8, tyX5, rfl, by decide, inz_X5, tyX5_ok, nmX5, rfl, rfl, Or.inr ⟨rfl, Or.inr ⟨"UpdateSteps", fl_X8_82⟩⟩⟩
theorem fl_X8_86 : Cond.fieldLinkNest RX8 86 (TX5 3).1 (TX5 3).2.1 (TX5 3).2.2.1 "UpdateSteps" ∈ zN := (zU1 203 (by decide +kernel) rfl)
theorem fd_X8_86 : zFd RX8 86 5 3 := ⟨RX5, TX5, 8, rfl, by decide, inz_X5, Or.inr ⟨"UpdateSteps", fl_X8_86⟩⟩
theorem ml_X8_89 : Cond.methodLink RX8 89 yX8_templateMayBe ∈ zW := (zT3 103 (by decide +kernel) rfl)
theorem lb_X8_templateMayBe : (yX8_templateMayBe.cls ≠ "java/lang/invoke/MethodHandle" ∧ yX8_templateMayBe.cls ≠ "java/lang/invoke/VarHandle" ∧ (parseMethodDescriptor yX8_templateMayBe.desc).map (fun d => d.parameters.length) = some 2) ∧ Cond.code yX8_templateMayBe cX8_templateMayBe 2 (some .boolean) ∈ zW := ⟨⟨by decide +kernel, by decide +kernel, by decide +kernel⟩, (zT3 105 rfl rfl)⟩
theorem sm_X8_templateMayBe : Cond.static yX8_templateMayBe ∈ zW := (zT3 104 (by decide +kernel) rfl)
theorem lk_X8_89 : zLkS RX8 89 yX8_templateMayBe cX8_templateMayBe 2 (some .boolean) 2 := ⟨⟨lb_X8_templateMayBe.1, lb_X8_templateMayBe.2, ini_X8, Or.inl ml_X8_89⟩, sm_X8_templateMayBe⟩
theorem ml_X8_93 : Cond.methodLink RX8 93 yX8_templateTermMayBe ∈ zW := (zT3 106 (by decide +kernel) rfl)
theorem lb_X8_templateTermMayBe : (yX8_templateTermMayBe.cls ≠ "java/lang/invoke/MethodHandle" ∧ yX8_templateTermMayBe.cls ≠ "java/lang/invoke/VarHandle" ∧ (parseMethodDescriptor yX8_templateTermMayBe.desc).map (fun d => d.parameters.length) = some 3) ∧ Cond.code yX8_templateTermMayBe cX8_templateTermMayBe 3 (some .boolean) ∈ zW := ⟨⟨by decide +kernel, by decide +kernel, by decide +kernel⟩, (zT3 108 rfl rfl)⟩
theorem sm_X8_templateTermMayBe : Cond.static yX8_templateTermMayBe ∈ zW := (zT3 107 (by decide +kernel) rfl)
theorem lk_X8_93 : zLkS RX8 93 yX8_templateTermMayBe cX8_templateTermMayBe 3 (some .boolean) 3 := ⟨⟨lb_X8_templateTermMayBe.1, lb_X8_templateTermMayBe.2, ini_X8, Or.inl ml_X8_93⟩, sm_X8_templateTermMayBe⟩
theorem ml_X8_97 : Cond.methodLink RX8 97 yX8_isNewBlank ∈ zW := (zT3 111 (by decide +kernel) rfl)
theorem lb_X8_isNewBlank : (yX8_isNewBlank.cls ≠ "java/lang/invoke/MethodHandle" ∧ yX8_isNewBlank.cls ≠ "java/lang/invoke/VarHandle" ∧ (parseMethodDescriptor yX8_isNewBlank.desc).map (fun d => d.parameters.length) = some 1) ∧ Cond.code yX8_isNewBlank cX8_isNewBlank 1 (some .boolean) ∈ zW := ⟨⟨by decide +kernel, by decide +kernel, by decide +kernel⟩, (zT2 168 rfl rfl)⟩
theorem sm_X8_isNewBlank : Cond.static yX8_isNewBlank ∈ zW := (zT2 167 (by decide +kernel) rfl)
theorem lk_X8_97 : zLkS RX8 97 yX8_isNewBlank cX8_isNewBlank 1 (some .boolean) 1 := ⟨⟨lb_X8_isNewBlank.1, lb_X8_isNewBlank.2, ini_X8, Or.inl ml_X8_97⟩, sm_X8_isNewBlank⟩
theorem fl_X8_102 : Cond.fieldLinkNest RX8 102 (TX5 0).1 (TX5 0).2.1 (TX5 0).2.2.1 "UpdateSteps" ∈ zN := (zU1 194 (by decide +kernel) rfl)
theorem fd_X8_102 : zFd RX8 102 5 0 := ⟨RX5, TX5, 8, rfl, by decide, inz_X5, Or.inr ⟨"UpdateSteps", fl_X8_102⟩⟩
theorem ml_X8_106 : Cond.methodLink RX8 106 yX3_isFull ∈ zW := (zT3 113 (by decide +kernel) rfl)
theorem ini_X3 : Cond.initialized "UpdateSteps$Rows" ∈ zW := (zT1 7 (by decide +kernel) rfl)
theorem lb_X3_isFull : (yX3_isFull.cls ≠ "java/lang/invoke/MethodHandle" ∧ yX3_isFull.cls ≠ "java/lang/invoke/VarHandle" ∧ (parseMethodDescriptor yX3_isFull.desc).map (fun d => d.parameters.length) = some 0) ∧ Cond.code yX3_isFull cX3_isFull 1 (some .boolean) ∈ zW := ⟨⟨by decide +kernel, by decide +kernel, by decide +kernel⟩, (zT3 116 rfl rfl)⟩
theorem im_X3_isFull : Cond.instanceMethod yX3_isFull ∈ zW := (zT3 114 (by decide +kernel) rfl)
theorem se_X3_isFull : Cond.selects yX3_isFull.cls yX3_isFull yX3_isFull ∈ zW := (zT3 115 (by decide +kernel) rfl)
theorem lk_X8_106 : zLkV RX8 106 yX3_isFull cX3_isFull 1 (some .boolean) 0 := ⟨⟨lb_X3_isFull.1, lb_X3_isFull.2, ini_X3, Or.inl ml_X8_106⟩, im_X3_isFull, se_X3_isFull⟩
theorem ml_X8_114 : Cond.methodLink RX8 114 yX5_addTemplate ∈ zW := (zT3 118 (by decide +kernel) rfl)
theorem lb_X5_addTemplate : (yX5_addTemplate.cls ≠ "java/lang/invoke/MethodHandle" ∧ yX5_addTemplate.cls ≠ "java/lang/invoke/VarHandle" ∧ (parseMethodDescriptor yX5_addTemplate.desc).map (fun d => d.parameters.length) = some 4) ∧ Cond.code yX5_addTemplate cX5_addTemplate 5 (some .int) ∈ zW := ⟨⟨by decide +kernel, by decide +kernel, by decide +kernel⟩, (zT3 121 rfl rfl)⟩
theorem im_X5_addTemplate : Cond.instanceMethod yX5_addTemplate ∈ zW := (zT3 119 (by decide +kernel) rfl)
theorem se_X5_addTemplate : Cond.selects yX5_addTemplate.cls yX5_addTemplate yX5_addTemplate ∈ zW := (zT3 120 (by decide +kernel) rfl)
theorem lk_X8_114 : zLkV RX8 114 yX5_addTemplate cX5_addTemplate 5 (some .int) 4 := ⟨⟨lb_X5_addTemplate.1, lb_X5_addTemplate.2, ini_X5, Or.inl ml_X8_114⟩, im_X5_addTemplate, se_X5_addTemplate⟩
theorem ml_X8_118 : Cond.methodLink RX8 118 yX8_patternTermMayBe ∈ zW := (zT3 135 (by decide +kernel) rfl)
theorem lb_X8_patternTermMayBe : (yX8_patternTermMayBe.cls ≠ "java/lang/invoke/MethodHandle" ∧ yX8_patternTermMayBe.cls ≠ "java/lang/invoke/VarHandle" ∧ (parseMethodDescriptor yX8_patternTermMayBe.desc).map (fun d => d.parameters.length) = some 1) ∧ Cond.code yX8_patternTermMayBe cX8_patternTermMayBe 1 (some .boolean) ∈ zW := ⟨⟨by decide +kernel, by decide +kernel, by decide +kernel⟩, (zT3 137 rfl rfl)⟩
theorem sm_X8_patternTermMayBe : Cond.static yX8_patternTermMayBe ∈ zW := (zT3 136 (by decide +kernel) rfl)
theorem lk_X8_118 : zLkS RX8 118 yX8_patternTermMayBe cX8_patternTermMayBe 1 (some .boolean) 1 := ⟨⟨lb_X8_patternTermMayBe.1, lb_X8_patternTermMayBe.2, ini_X8, Or.inl ml_X8_118⟩, sm_X8_patternTermMayBe⟩
theorem fl_X8_123 : Cond.fieldLinkNest RX8 123 (TX5 2).1 (TX5 2).2.1 (TX5 2).2.2.1 "UpdateSteps" ∈ zN := (zU1 199 (by decide +kernel) rfl)
theorem fd_X8_123 : zFd RX8 123 5 2 := ⟨RX5, TX5, 8, rfl, by decide, inz_X5, Or.inr ⟨"UpdateSteps", fl_X8_123⟩⟩
theorem ml_X8_128 : Cond.methodLink RX8 128 yX3_append ∈ zW := (zT3 140 (by decide +kernel) rfl)
theorem lb_X3_append : (yX3_append.cls ≠ "java/lang/invoke/MethodHandle" ∧ yX3_append.cls ≠ "java/lang/invoke/VarHandle" ∧ (parseMethodDescriptor yX3_append.desc).map (fun d => d.parameters.length) = some 3) ∧ Cond.code yX3_append cX3_append 4 (some .int) ∈ zW := ⟨⟨by decide +kernel, by decide +kernel, by decide +kernel⟩, (zT3 126 rfl rfl)⟩
theorem im_X3_append : Cond.instanceMethod yX3_append ∈ zW := (zT3 124 (by decide +kernel) rfl)
theorem se_X3_append : Cond.selects yX3_append.cls yX3_append yX3_append ∈ zW := (zT3 125 (by decide +kernel) rfl)
theorem lk_X8_128 : zLkV RX8 128 yX3_append cX3_append 4 (some .int) 3 := ⟨⟨lb_X3_append.1, lb_X3_append.2, ini_X3, Or.inl ml_X8_128⟩, im_X3_append, se_X3_append⟩
theorem ml_X8_132 : Cond.methodLink RX8 132 yX8_fileNumbered ∈ zW := (zT3 148 (by decide +kernel) rfl)
theorem lb_X8_fileNumbered : (yX8_fileNumbered.cls ≠ "java/lang/invoke/MethodHandle" ∧ yX8_fileNumbered.cls ≠ "java/lang/invoke/VarHandle" ∧ (parseMethodDescriptor yX8_fileNumbered.desc).map (fun d => d.parameters.length) = some 1) ∧ Cond.code yX8_fileNumbered cX8_fileNumbered 2 (some (.object "UpdateSteps$FileRows")) ∈ zW := ⟨⟨by decide +kernel, by decide +kernel, by decide +kernel⟩, (zT3 151 rfl rfl)⟩
theorem im_X8_fileNumbered : Cond.instanceMethod yX8_fileNumbered ∈ zW := (zT3 150 (by decide +kernel) rfl)
theorem se_X8_fileNumbered : Cond.selects yX8_fileNumbered.cls yX8_fileNumbered yX8_fileNumbered ∈ zW := (zT0 19 (by decide +kernel) rfl)
theorem lk_X8_132 : zLkV RX8 132 yX8_fileNumbered cX8_fileNumbered 2 (some (.object "UpdateSteps$FileRows")) 1 := ⟨⟨lb_X8_fileNumbered.1, lb_X8_fileNumbered.2, ini_X8, Or.inl ml_X8_132⟩, im_X8_fileNumbered, se_X8_fileNumbered⟩
theorem ml_X8_136 : Cond.methodLink RX8 136 yX8_isName ∈ zW := (zT3 109 (by decide +kernel) rfl)
theorem lb_X8_isName : (yX8_isName.cls ≠ "java/lang/invoke/MethodHandle" ∧ yX8_isName.cls ≠ "java/lang/invoke/VarHandle" ∧ (parseMethodDescriptor yX8_isName.desc).map (fun d => d.parameters.length) = some 1) ∧ Cond.code yX8_isName cX8_isName 1 (some .boolean) ∈ zW := ⟨⟨by decide +kernel, by decide +kernel, by decide +kernel⟩, (zT2 157 rfl rfl)⟩
theorem sm_X8_isName : Cond.static yX8_isName ∈ zW := (zT2 156 (by decide +kernel) rfl)
theorem lk_X8_136 : zLkS RX8 136 yX8_isName cX8_isName 1 (some .boolean) 1 := ⟨⟨lb_X8_isName.1, lb_X8_isName.2, ini_X8, Or.inl ml_X8_136⟩, sm_X8_isName⟩
theorem fl_X8_141 : Cond.fieldLinkNest RX8 141 (TX1 0).1 (TX1 0).2.1 (TX1 0).2.2.1 "UpdateSteps" ∈ zN := (zU1 132 (by decide +kernel) rfl)
theorem fd_X8_141 : zFd RX8 141 1 0 := ⟨RX1, TX1, 2, rfl, by decide, inz_X1, Or.inr ⟨"UpdateSteps", fl_X8_141⟩⟩
theorem fl_X8_148 : Cond.fieldLinkNest RX8 148 (TX1 1).1 (TX1 1).2.1 (TX1 1).2.2.1 "UpdateSteps" ∈ zN := (zU1 135 (by decide +kernel) rfl)
theorem fd_X8_148 : zFd RX8 148 1 1 := ⟨RX1, TX1, 2, rfl, by decide, inz_X1, Or.inr ⟨"UpdateSteps", fl_X8_148⟩⟩
theorem fp_X8_148 : zFp RX8 148 1 1 .boolean false := ⟨RX1, TX1, 2, tyX1, rfl, by decide, inz_X1, tyX1_ok, nmX1, rfl, rfl, Or.inr ⟨rfl, Or.inr ⟨"UpdateSteps", fl_X8_148⟩⟩⟩
theorem ml_X8_151 : Cond.methodLink RX8 151 yX6_become ∈ zW := (zT2 20 (by decide +kernel) rfl)
theorem lb_X6_become : (yX6_become.cls ≠ "java/lang/invoke/MethodHandle" ∧ yX6_become.cls ≠ "java/lang/invoke/VarHandle" ∧ (parseMethodDescriptor yX6_become.desc).map (fun d => d.parameters.length) = some 1) ∧ Cond.code yX6_become cX6_become 3 none ∈ zW := ⟨⟨by decide +kernel, by decide +kernel, by decide +kernel⟩, (zT2 23 rfl rfl)⟩
theorem im_X6_become : Cond.instanceMethod yX6_become ∈ zW := (zT2 21 (by decide +kernel) rfl)
theorem se_X6_become : Cond.selects yX6_become.cls yX6_become yX6_become ∈ zW := (zT2 22 (by decide +kernel) rfl)
theorem lk_X8_151 : zLkV RX8 151 yX6_become cX6_become 3 none 1 := ⟨⟨lb_X6_become.1, lb_X6_become.2, ini_X6, Or.inl ml_X8_151⟩, im_X6_become, se_X6_become⟩
theorem fl_X8_155 : Cond.fieldLinkNest RX8 155 (TX7 4).1 (TX7 4).2.1 (TX7 4).2.2.1 "UpdateSteps" ∈ zN := (zU1 149 (by decide +kernel) rfl)
theorem fd_X8_155 : zFd RX8 155 7 4 := ⟨RX7, TX7, 5, rfl, by decide, inz_X7, Or.inr ⟨"UpdateSteps", fl_X8_155⟩⟩
theorem fp_X8_155 : zFp RX8 155 7 4 .int false := ⟨RX7, TX7, 5, tyX7, rfl, by decide, inz_X7, tyX7_ok, nmX7, rfl, rfl, Or.inr ⟨rfl, Or.inr ⟨"UpdateSteps", fl_X8_155⟩⟩⟩
theorem fl_X8_158 : Cond.fieldLinkNest RX8 158 (TX5 7).1 (TX5 7).2.1 (TX5 7).2.2.1 "UpdateSteps" ∈ zN := (zU1 211 (by decide +kernel) rfl)
theorem fd_X8_158 : zFd RX8 158 5 7 := ⟨RX5, TX5, 8, rfl, by decide, inz_X5, Or.inr ⟨"UpdateSteps", fl_X8_158⟩⟩
theorem fp_X8_158 : zFp RX8 158 5 7 .int false := ⟨RX5, TX5, 8, tyX5, rfl, by decide, inz_X5, tyX5_ok, nmX5, rfl, rfl, Or.inr ⟨rfl, Or.inr ⟨"UpdateSteps", fl_X8_158⟩⟩⟩
theorem ml_X8_161 : Cond.methodLink RX8 161 yX7_perform ∈ zW := (zT2 31 (by decide +kernel) rfl)
theorem lb_X7_perform : (yX7_perform.cls ≠ "java/lang/invoke/MethodHandle" ∧ yX7_perform.cls ≠ "java/lang/invoke/VarHandle" ∧ (parseMethodDescriptor yX7_perform.desc).map (fun d => d.parameters.length) = some 1) ∧ Cond.code yX7_perform cX7_perform 2 (some .int) ∈ zW := ⟨⟨by decide +kernel, by decide +kernel, by decide +kernel⟩, (zT2 34 rfl rfl)⟩
theorem im_X7_perform : Cond.instanceMethod yX7_perform ∈ zW := (zT2 32 (by decide +kernel) rfl)
theorem se_X7_perform : Cond.selects yX7_perform.cls yX7_perform yX7_perform ∈ zW := (zT2 33 (by decide +kernel) rfl)
theorem lk_X8_161 : zLkV RX8 161 yX7_perform cX7_perform 2 (some .int) 1 := ⟨⟨lb_X7_perform.1, lb_X7_perform.2, ini_X7, Or.inl ml_X8_161⟩, im_X7_perform, se_X7_perform⟩
theorem ml_X8_165 : Cond.methodLink RX8 165 yX8_isPassedOver ∈ zW := (zT2 178 (by decide +kernel) rfl)
theorem lb_X8_isPassedOver : (yX8_isPassedOver.cls ≠ "java/lang/invoke/MethodHandle" ∧ yX8_isPassedOver.cls ≠ "java/lang/invoke/VarHandle" ∧ (parseMethodDescriptor yX8_isPassedOver.desc).map (fun d => d.parameters.length) = some 2) ∧ Cond.code yX8_isPassedOver cX8_isPassedOver 2 (some .boolean) ∈ zW := ⟨⟨by decide +kernel, by decide +kernel, by decide +kernel⟩, (zT2 180 rfl rfl)⟩
theorem sm_X8_isPassedOver : Cond.static yX8_isPassedOver ∈ zW := (zT2 179 (by decide +kernel) rfl)
theorem lk_X8_165 : zLkS RX8 165 yX8_isPassedOver cX8_isPassedOver 2 (some .boolean) 2 := ⟨⟨lb_X8_isPassedOver.1, lb_X8_isPassedOver.2, ini_X8, Or.inl ml_X8_165⟩, sm_X8_isPassedOver⟩
theorem ml_X8_169 : Cond.methodLink RX8 169 yX0_compare ∈ zW := (zT2 181 (by decide +kernel) rfl)
theorem lb_X0_compare : (yX0_compare.cls ≠ "java/lang/invoke/MethodHandle" ∧ yX0_compare.cls ≠ "java/lang/invoke/VarHandle" ∧ (parseMethodDescriptor yX0_compare.desc).map (fun d => d.parameters.length) = some 2) ∧ Cond.code yX0_compare cX0_compare 4 none ∈ zW := ⟨⟨by decide +kernel, by decide +kernel, by decide +kernel⟩, (zT2 184 rfl rfl)⟩
theorem im_X0_compare : Cond.instanceMethod yX0_compare ∈ zW := (zT2 182 (by decide +kernel) rfl)
theorem se_X0_compare : Cond.selects yX0_compare.cls yX0_compare yX0_compare ∈ zW := (zT2 183 (by decide +kernel) rfl)
theorem lk_X8_169 : zLkV RX8 169 yX0_compare cX0_compare 4 none 2 := ⟨⟨lb_X0_compare.1, lb_X0_compare.2, ini_X0, Or.inl ml_X8_169⟩, im_X0_compare, se_X0_compare⟩
theorem fl_X8_173 : Cond.fieldLinkNest RX8 173 (TX0 3).1 (TX0 3).2.1 (TX0 3).2.2.1 "UpdateSteps" ∈ zN := (zU1 176 (by decide +kernel) rfl)
theorem fd_X8_173 : zFd RX8 173 0 3 := ⟨RX0, TX0, 4, rfl, by decide, inz_X0, Or.inr ⟨"UpdateSteps", fl_X8_173⟩⟩
theorem ml_X8_176 : Cond.methodLink RX8 176 yX8_graphNumbered ∈ zW := (zT3 169 (by decide +kernel) rfl)
theorem lb_X8_graphNumbered : (yX8_graphNumbered.cls ≠ "java/lang/invoke/MethodHandle" ∧ yX8_graphNumbered.cls ≠ "java/lang/invoke/VarHandle" ∧ (parseMethodDescriptor yX8_graphNumbered.desc).map (fun d => d.parameters.length) = some 1) ∧ Cond.code yX8_graphNumbered cX8_graphNumbered 2 (some (.object "UpdateSteps$Graph")) ∈ zW := ⟨⟨by decide +kernel, by decide +kernel, by decide +kernel⟩, (zT3 172 rfl rfl)⟩
theorem im_X8_graphNumbered : Cond.instanceMethod yX8_graphNumbered ∈ zW := (zT3 171 (by decide +kernel) rfl)
theorem se_X8_graphNumbered : Cond.selects yX8_graphNumbered.cls yX8_graphNumbered yX8_graphNumbered ∈ zW := (zT0 20 (by decide +kernel) rfl)
theorem lk_X8_176 : zLkV RX8 176 yX8_graphNumbered cX8_graphNumbered 2 (some (.object "UpdateSteps$Graph")) 1 := ⟨⟨lb_X8_graphNumbered.1, lb_X8_graphNumbered.2, ini_X8, Or.inl ml_X8_176⟩, im_X8_graphNumbered, se_X8_graphNumbered⟩
theorem fl_X8_180 : Cond.fieldLinkNest RX8 180 (TX2 2).1 (TX2 2).2.1 (TX2 2).2.2.1 "UpdateSteps" ∈ zN := (zU1 62 (by decide +kernel) rfl)
theorem fd_X8_180 : zFd RX8 180 2 2 := ⟨RX2, TX2, 3, rfl, by decide, inz_X2, Or.inr ⟨"UpdateSteps", fl_X8_180⟩⟩
theorem fl_X8_185 : Cond.fieldLinkNest RX8 185 (TX2 1).1 (TX2 1).2.1 (TX2 1).2.2.1 "UpdateSteps" ∈ zN := (zU1 58 (by decide +kernel) rfl)
theorem fd_X8_185 : zFd RX8 185 2 1 := ⟨RX2, TX2, 3, rfl, by decide, inz_X2, Or.inr ⟨"UpdateSteps", fl_X8_185⟩⟩
theorem fl_X8_195 : Cond.fieldLinkNest RX8 195 (TX2 0).1 (TX2 0).2.1 (TX2 0).2.2.1 "UpdateSteps" ∈ zN := (zU1 52 (by decide +kernel) rfl)
theorem fd_X8_195 : zFd RX8 195 2 0 := ⟨RX2, TX2, 3, rfl, by decide, inz_X2, Or.inr ⟨"UpdateSteps", fl_X8_195⟩⟩
theorem ml_X8_199 : Cond.methodLink RX8 199 yX8_partOf ∈ zW := (zT3 183 (by decide +kernel) rfl)
theorem lb_X8_partOf : (yX8_partOf.cls ≠ "java/lang/invoke/MethodHandle" ∧ yX8_partOf.cls ≠ "java/lang/invoke/VarHandle" ∧ (parseMethodDescriptor yX8_partOf.desc).map (fun d => d.parameters.length) = some 2) ∧ Cond.code yX8_partOf cX8_partOf 2 (some .int) ∈ zW := ⟨⟨by decide +kernel, by decide +kernel, by decide +kernel⟩, (zT2 130 rfl rfl)⟩
theorem sm_X8_partOf : Cond.static yX8_partOf ∈ zW := (zT2 129 (by decide +kernel) rfl)
theorem lk_X8_199 : zLkS RX8 199 yX8_partOf cX8_partOf 2 (some .int) 2 := ⟨⟨lb_X8_partOf.1, lb_X8_partOf.2, ini_X8, Or.inl ml_X8_199⟩, sm_X8_partOf⟩
theorem ml_X8_203 : Cond.methodLink RX8 203 yX8_isPart ∈ zW := (zT3 191 (by decide +kernel) rfl)
theorem lb_X8_isPart : (yX8_isPart.cls ≠ "java/lang/invoke/MethodHandle" ∧ yX8_isPart.cls ≠ "java/lang/invoke/VarHandle" ∧ (parseMethodDescriptor yX8_isPart.desc).map (fun d => d.parameters.length) = some 1) ∧ Cond.code yX8_isPart cX8_isPart 1 (some .boolean) ∈ zW := ⟨⟨by decide +kernel, by decide +kernel, by decide +kernel⟩, (zT3 193 rfl rfl)⟩
theorem sm_X8_isPart : Cond.static yX8_isPart ∈ zW := (zT3 192 (by decide +kernel) rfl)
theorem lk_X8_203 : zLkS RX8 203 yX8_isPart cX8_isPart 1 (some .boolean) 1 := ⟨⟨lb_X8_isPart.1, lb_X8_isPart.2, ini_X8, Or.inl ml_X8_203⟩, sm_X8_isPart⟩
theorem ml_X8_206 : Cond.methodLink RX8 206 yX8_factOf ∈ zW := (zT3 194 (by decide +kernel) rfl)
theorem lb_X8_factOf : (yX8_factOf.cls ≠ "java/lang/invoke/MethodHandle" ∧ yX8_factOf.cls ≠ "java/lang/invoke/VarHandle" ∧ (parseMethodDescriptor yX8_factOf.desc).map (fun d => d.parameters.length) = some 3) ∧ Cond.code yX8_factOf cX8_factOf 3 (some .int) ∈ zW := ⟨⟨by decide +kernel, by decide +kernel, by decide +kernel⟩, (zT2 98 rfl rfl)⟩
theorem sm_X8_factOf : Cond.static yX8_factOf ∈ zW := (zT2 97 (by decide +kernel) rfl)
theorem lk_X8_206 : zLkS RX8 206 yX8_factOf cX8_factOf 3 (some .int) 3 := ⟨⟨lb_X8_factOf.1, lb_X8_factOf.2, ini_X8, Or.inl ml_X8_206⟩, sm_X8_factOf⟩
theorem ml_X8_209 : Cond.methodLink RX8 209 yX2_holds ∈ zW := (zT3 195 (by decide +kernel) rfl)
theorem ini_X2 : Cond.initialized "UpdateSteps$Graph" ∈ zW := (zT1 4 (by decide +kernel) rfl)
theorem lb_X2_holds : (yX2_holds.cls ≠ "java/lang/invoke/MethodHandle" ∧ yX2_holds.cls ≠ "java/lang/invoke/VarHandle" ∧ (parseMethodDescriptor yX2_holds.desc).map (fun d => d.parameters.length) = some 1) ∧ Cond.code yX2_holds cX2_holds 3 (some .boolean) ∈ zW := ⟨⟨by decide +kernel, by decide +kernel, by decide +kernel⟩, (zT2 65 rfl rfl)⟩
theorem im_X2_holds : Cond.instanceMethod yX2_holds ∈ zW := (zT2 63 (by decide +kernel) rfl)
theorem se_X2_holds : Cond.selects yX2_holds.cls yX2_holds yX2_holds ∈ zW := (zT2 64 (by decide +kernel) rfl)
theorem lk_X8_209 : zLkV RX8 209 yX2_holds cX2_holds 3 (some .boolean) 1 := ⟨⟨lb_X2_holds.1, lb_X2_holds.2, ini_X2, Or.inl ml_X8_209⟩, im_X2_holds, se_X2_holds⟩
theorem fl_X8_216 : Cond.fieldLinkNest RX8 216 (TX0 0).1 (TX0 0).2.1 (TX0 0).2.2.1 "UpdateSteps" ∈ zN := (zU1 170 (by decide +kernel) rfl)
theorem fd_X8_216 : zFd RX8 216 0 0 := ⟨RX0, TX0, 4, rfl, by decide, inz_X0, Or.inr ⟨"UpdateSteps", fl_X8_216⟩⟩
theorem fl_X8_219 : Cond.fieldLinkNest RX8 219 (TX0 2).1 (TX0 2).2.1 (TX0 2).2.2.1 "UpdateSteps" ∈ zN := (zU1 174 (by decide +kernel) rfl)
theorem fd_X8_219 : zFd RX8 219 0 2 := ⟨RX0, TX0, 4, rfl, by decide, inz_X0, Or.inr ⟨"UpdateSteps", fl_X8_219⟩⟩
theorem fl_X8_222 : Cond.fieldLinkNest RX8 222 (TX0 1).1 (TX0 1).2.1 (TX0 1).2.2.1 "UpdateSteps" ∈ zN := (zU1 172 (by decide +kernel) rfl)
theorem fd_X8_222 : zFd RX8 222 0 1 := ⟨RX0, TX0, 4, rfl, by decide, inz_X0, Or.inr ⟨"UpdateSteps", fl_X8_222⟩⟩
theorem ml_X8_225 : Cond.methodLink RX8 225 yX6_factCount ∈ zW := (zT3 219 (by decide +kernel) rfl)
theorem lb_X6_factCount : (yX6_factCount.cls ≠ "java/lang/invoke/MethodHandle" ∧ yX6_factCount.cls ≠ "java/lang/invoke/VarHandle" ∧ (parseMethodDescriptor yX6_factCount.desc).map (fun d => d.parameters.length) = some 0) ∧ Cond.code yX6_factCount cX6_factCount 3 (some .int) ∈ zW := ⟨⟨by decide +kernel, by decide +kernel, by decide +kernel⟩, (zT2 73 rfl rfl)⟩
theorem im_X6_factCount : Cond.instanceMethod yX6_factCount ∈ zW := (zT2 71 (by decide +kernel) rfl)
theorem se_X6_factCount : Cond.selects yX6_factCount.cls yX6_factCount yX6_factCount ∈ zW := (zT2 72 (by decide +kernel) rfl)
theorem lk_X8_225 : zLkV RX8 225 yX6_factCount cX6_factCount 3 (some .int) 0 := ⟨⟨lb_X6_factCount.1, lb_X6_factCount.2, ini_X6, Or.inl ml_X8_225⟩, im_X6_factCount, se_X6_factCount⟩
theorem fl_X8_229 : Cond.fieldLinkNest RX8 229 (TX6 1).1 (TX6 1).2.1 (TX6 1).2.2.1 "UpdateSteps" ∈ zN := (zU1 76 (by decide +kernel) rfl)
theorem fd_X8_229 : zFd RX8 229 6 1 := ⟨RX6, TX6, 2, rfl, by decide, inz_X6, Or.inr ⟨"UpdateSteps", fl_X8_229⟩⟩
theorem fl_X8_238 : Cond.fieldLinkNest RX8 238 (TX7 1).1 (TX7 1).2.1 (TX7 1).2.2.1 "UpdateSteps" ∈ zN := (zU1 145 (by decide +kernel) rfl)
theorem fd_X8_238 : zFd RX8 238 7 1 := ⟨RX7, TX7, 5, rfl, by decide, inz_X7, Or.inr ⟨"UpdateSteps", fl_X8_238⟩⟩
theorem ml_X8_242 : Cond.methodLink RX8 242 yX8_isGraph ∈ zW := (zT2 216 (by decide +kernel) rfl)
theorem lb_X8_isGraph : (yX8_isGraph.cls ≠ "java/lang/invoke/MethodHandle" ∧ yX8_isGraph.cls ≠ "java/lang/invoke/VarHandle" ∧ (parseMethodDescriptor yX8_isGraph.desc).map (fun d => d.parameters.length) = some 1) ∧ Cond.code yX8_isGraph cX8_isGraph 1 (some .boolean) ∈ zW := ⟨⟨by decide +kernel, by decide +kernel, by decide +kernel⟩, (zT2 41 rfl rfl)⟩
theorem sm_X8_isGraph : Cond.static yX8_isGraph ∈ zW := (zT2 40 (by decide +kernel) rfl)
theorem lk_X8_242 : zLkS RX8 242 yX8_isGraph cX8_isGraph 1 (some .boolean) 1 := ⟨⟨lb_X8_isGraph.1, lb_X8_isGraph.2, ini_X8, Or.inl ml_X8_242⟩, sm_X8_isGraph⟩
theorem fl_X8_247 : Cond.fieldLinkNest RX8 247 (TX6 0).1 (TX6 0).2.1 (TX6 0).2.2.1 "UpdateSteps" ∈ zN := (zU1 74 (by decide +kernel) rfl)
theorem fd_X8_247 : zFd RX8 247 6 0 := ⟨RX6, TX6, 2, rfl, by decide, inz_X6, Or.inr ⟨"UpdateSteps", fl_X8_247⟩⟩
theorem ml_X8_251 : Cond.methodLink RX8 251 yX8_isVariable ∈ zW := (zT3 110 (by decide +kernel) rfl)
theorem lb_X8_isVariable : (yX8_isVariable.cls ≠ "java/lang/invoke/MethodHandle" ∧ yX8_isVariable.cls ≠ "java/lang/invoke/VarHandle" ∧ (parseMethodDescriptor yX8_isVariable.desc).map (fun d => d.parameters.length) = some 1) ∧ Cond.code yX8_isVariable cX8_isVariable 1 (some .boolean) ∈ zW := ⟨⟨by decide +kernel, by decide +kernel, by decide +kernel⟩, (zT2 150 rfl rfl)⟩
theorem sm_X8_isVariable : Cond.static yX8_isVariable ∈ zW := (zT2 149 (by decide +kernel) rfl)
theorem lk_X8_251 : zLkS RX8 251 yX8_isVariable cX8_isVariable 1 (some .boolean) 1 := ⟨⟨lb_X8_isVariable.1, lb_X8_isVariable.2, ini_X8, Or.inl ml_X8_251⟩, sm_X8_isVariable⟩
theorem ob_X9_1 : Cond.methodLink RX9 1 objectInit ∈ zW := (zT3 226 (by decide +kernel) rfl)
theorem fl_X9_7 : Cond.fieldLink RX9 7 (TX9 2).1 (TX9 2).2.1 (TX9 2).2.2.1 ∈ zW := (zT3 229 (by decide +kernel) rfl)
theorem fd_X9_7 : zFd RX9 7 9 2 := ⟨RX9, TX9, 50, rfl, by decide, inz_X9, Or.inl fl_X9_7⟩
theorem fp_X9_7 : zFp RX9 7 9 2 (.array .int) true := ⟨RX9, TX9, 50, tyX9, rfl, by decide, inz_X9, tyX9_ok, nmX9, rfl, rfl, Or.inl ⟨rfl, rfl, fl_X9_7⟩⟩
theorem fl_X9_13 : Cond.fieldLink RX9 13 (TX9 3).1 (TX9 3).2.1 (TX9 3).2.2.1 ∈ zW := (zT3 230 (by decide +kernel) rfl)
theorem fd_X9_13 : zFd RX9 13 9 3 := ⟨RX9, TX9, 50, rfl, by decide, inz_X9, Or.inl fl_X9_13⟩
theorem fp_X9_13 : zFp RX9 13 9 3 (.array .int) true := ⟨RX9, TX9, 50, tyX9, rfl, by decide, inz_X9, tyX9_ok, nmX9, rfl, rfl, Or.inl ⟨rfl, rfl, fl_X9_13⟩⟩
theorem fl_X9_16 : Cond.fieldLink RX9 16 (TX9 4).1 (TX9 4).2.1 (TX9 4).2.2.1 ∈ zW := (zT3 231 (by decide +kernel) rfl)
theorem fd_X9_16 : zFd RX9 16 9 4 := ⟨RX9, TX9, 50, rfl, by decide, inz_X9, Or.inl fl_X9_16⟩
theorem fp_X9_16 : zFp RX9 16 9 4 (.array .int) true := ⟨RX9, TX9, 50, tyX9, rfl, by decide, inz_X9, tyX9_ok, nmX9, rfl, rfl, Or.inl ⟨rfl, rfl, fl_X9_16⟩⟩
theorem fl_X9_19 : Cond.fieldLink RX9 19 (TX9 5).1 (TX9 5).2.1 (TX9 5).2.2.1 ∈ zW := (zT3 232 (by decide +kernel) rfl)
theorem fd_X9_19 : zFd RX9 19 9 5 := ⟨RX9, TX9, 50, rfl, by decide, inz_X9, Or.inl fl_X9_19⟩
theorem fp_X9_19 : zFp RX9 19 9 5 (.array .boolean) true := ⟨RX9, TX9, 50, tyX9, rfl, by decide, inz_X9, tyX9_ok, nmX9, rfl, rfl, Or.inl ⟨rfl, rfl, fl_X9_19⟩⟩
theorem fl_X9_23 : Cond.fieldLink RX9 23 (TX9 6).1 (TX9 6).2.1 (TX9 6).2.2.1 ∈ zW := (zT3 233 (by decide +kernel) rfl)
theorem fd_X9_23 : zFd RX9 23 9 6 := ⟨RX9, TX9, 50, rfl, by decide, inz_X9, Or.inl fl_X9_23⟩
theorem fp_X9_23 : zFp RX9 23 9 6 (.array .int) true := ⟨RX9, TX9, 50, tyX9, rfl, by decide, inz_X9, tyX9_ok, nmX9, rfl, rfl, Or.inl ⟨rfl, rfl, fl_X9_23⟩⟩
theorem fl_X9_26 : Cond.fieldLink RX9 26 (TX9 7).1 (TX9 7).2.1 (TX9 7).2.2.1 ∈ zW := (zT3 234 (by decide +kernel) rfl)
theorem fd_X9_26 : zFd RX9 26 9 7 := ⟨RX9, TX9, 50, rfl, by decide, inz_X9, Or.inl fl_X9_26⟩
theorem fp_X9_26 : zFp RX9 26 9 7 (.array .int) true := ⟨RX9, TX9, 50, tyX9, rfl, by decide, inz_X9, tyX9_ok, nmX9, rfl, rfl, Or.inl ⟨rfl, rfl, fl_X9_26⟩⟩
theorem fl_X9_29 : Cond.fieldLink RX9 29 (TX9 8).1 (TX9 8).2.1 (TX9 8).2.2.1 ∈ zW := (zT3 235 (by decide +kernel) rfl)
theorem fd_X9_29 : zFd RX9 29 9 8 := ⟨RX9, TX9, 50, rfl, by decide, inz_X9, Or.inl fl_X9_29⟩
theorem fp_X9_29 : zFp RX9 29 9 8 (.array .int) true := ⟨RX9, TX9, 50, tyX9, rfl, by decide, inz_X9, tyX9_ok, nmX9, rfl, rfl, Or.inl ⟨rfl, rfl, fl_X9_29⟩⟩
theorem fl_X9_32 : Cond.fieldLink RX9 32 (TX9 9).1 (TX9 9).2.1 (TX9 9).2.2.1 ∈ zW := (zT3 236 (by decide +kernel) rfl)
theorem fd_X9_32 : zFd RX9 32 9 9 := ⟨RX9, TX9, 50, rfl, by decide, inz_X9, Or.inl fl_X9_32⟩
theorem fp_X9_32 : zFp RX9 32 9 9 (.array .int) true := ⟨RX9, TX9, 50, tyX9, rfl, by decide, inz_X9, tyX9_ok, nmX9, rfl, rfl, Or.inl ⟨rfl, rfl, fl_X9_32⟩⟩
theorem fl_X9_35 : Cond.fieldLink RX9 35 (TX9 10).1 (TX9 10).2.1 (TX9 10).2.2.1 ∈ zW := (zT3 237 (by decide +kernel) rfl)
theorem fd_X9_35 : zFd RX9 35 9 10 := ⟨RX9, TX9, 50, rfl, by decide, inz_X9, Or.inl fl_X9_35⟩
theorem fp_X9_35 : zFp RX9 35 9 10 (.array .boolean) true := ⟨RX9, TX9, 50, tyX9, rfl, by decide, inz_X9, tyX9_ok, nmX9, rfl, rfl, Or.inl ⟨rfl, rfl, fl_X9_35⟩⟩
theorem fl_X9_38 : Cond.fieldLink RX9 38 (TX9 11).1 (TX9 11).2.1 (TX9 11).2.2.1 ∈ zW := (zT3 238 (by decide +kernel) rfl)
theorem fd_X9_38 : zFd RX9 38 9 11 := ⟨RX9, TX9, 50, rfl, by decide, inz_X9, Or.inl fl_X9_38⟩
theorem fp_X9_38 : zFp RX9 38 9 11 (.array .int) true := ⟨RX9, TX9, 50, tyX9, rfl, by decide, inz_X9, tyX9_ok, nmX9, rfl, rfl, Or.inl ⟨rfl, rfl, fl_X9_38⟩⟩
theorem fl_X9_41 : Cond.fieldLink RX9 41 (TX9 12).1 (TX9 12).2.1 (TX9 12).2.2.1 ∈ zW := (zT3 239 (by decide +kernel) rfl)
theorem fd_X9_41 : zFd RX9 41 9 12 := ⟨RX9, TX9, 50, rfl, by decide, inz_X9, Or.inl fl_X9_41⟩
theorem fp_X9_41 : zFp RX9 41 9 12 (.array .int) true := ⟨RX9, TX9, 50, tyX9, rfl, by decide, inz_X9, tyX9_ok, nmX9, rfl, rfl, Or.inl ⟨rfl, rfl, fl_X9_41⟩⟩
theorem fl_X9_44 : Cond.fieldLink RX9 44 (TX9 13).1 (TX9 13).2.1 (TX9 13).2.2.1 ∈ zW := (zT4 0 (by decide +kernel) rfl)
theorem fd_X9_44 : zFd RX9 44 9 13 := ⟨RX9, TX9, 50, rfl, by decide, inz_X9, Or.inl fl_X9_44⟩
theorem fp_X9_44 : zFp RX9 44 9 13 (.array .int) true := ⟨RX9, TX9, 50, tyX9, rfl, by decide, inz_X9, tyX9_ok, nmX9, rfl, rfl, Or.inl ⟨rfl, rfl, fl_X9_44⟩⟩
theorem fl_X9_47 : Cond.fieldLink RX9 47 (TX9 14).1 (TX9 14).2.1 (TX9 14).2.2.1 ∈ zW := (zT4 1 (by decide +kernel) rfl)
theorem fd_X9_47 : zFd RX9 47 9 14 := ⟨RX9, TX9, 50, rfl, by decide, inz_X9, Or.inl fl_X9_47⟩
theorem fp_X9_47 : zFp RX9 47 9 14 (.array .int) true := ⟨RX9, TX9, 50, tyX9, rfl, by decide, inz_X9, tyX9_ok, nmX9, rfl, rfl, Or.inl ⟨rfl, rfl, fl_X9_47⟩⟩
theorem fl_X9_50 : Cond.fieldLink RX9 50 (TX9 15).1 (TX9 15).2.1 (TX9 15).2.2.1 ∈ zW := (zT4 2 (by decide +kernel) rfl)
theorem fd_X9_50 : zFd RX9 50 9 15 := ⟨RX9, TX9, 50, rfl, by decide, inz_X9, Or.inl fl_X9_50⟩
theorem fp_X9_50 : zFp RX9 50 9 15 (.array .int) true := ⟨RX9, TX9, 50, tyX9, rfl, by decide, inz_X9, tyX9_ok, nmX9, rfl, rfl, Or.inl ⟨rfl, rfl, fl_X9_50⟩⟩
theorem fl_X9_53 : Cond.fieldLink RX9 53 (TX9 16).1 (TX9 16).2.1 (TX9 16).2.2.1 ∈ zW := (zT4 3 (by decide +kernel) rfl)
theorem fd_X9_53 : zFd RX9 53 9 16 := ⟨RX9, TX9, 50, rfl, by decide, inz_X9, Or.inl fl_X9_53⟩
theorem fp_X9_53 : zFp RX9 53 9 16 (.array .int) true := ⟨RX9, TX9, 50, tyX9, rfl, by decide, inz_X9, tyX9_ok, nmX9, rfl, rfl, Or.inl ⟨rfl, rfl, fl_X9_53⟩⟩
theorem fl_X9_56 : Cond.fieldLink RX9 56 (TX9 17).1 (TX9 17).2.1 (TX9 17).2.2.1 ∈ zW := (zT4 4 (by decide +kernel) rfl)
theorem fd_X9_56 : zFd RX9 56 9 17 := ⟨RX9, TX9, 50, rfl, by decide, inz_X9, Or.inl fl_X9_56⟩
theorem fp_X9_56 : zFp RX9 56 9 17 (.array .int) true := ⟨RX9, TX9, 50, tyX9, rfl, by decide, inz_X9, tyX9_ok, nmX9, rfl, rfl, Or.inl ⟨rfl, rfl, fl_X9_56⟩⟩
theorem fl_X9_59 : Cond.fieldLink RX9 59 (TX9 18).1 (TX9 18).2.1 (TX9 18).2.2.1 ∈ zW := (zT4 5 (by decide +kernel) rfl)
theorem fd_X9_59 : zFd RX9 59 9 18 := ⟨RX9, TX9, 50, rfl, by decide, inz_X9, Or.inl fl_X9_59⟩
theorem fp_X9_59 : zFp RX9 59 9 18 (.array .int) true := ⟨RX9, TX9, 50, tyX9, rfl, by decide, inz_X9, tyX9_ok, nmX9, rfl, rfl, Or.inl ⟨rfl, rfl, fl_X9_59⟩⟩
theorem fl_X9_62 : Cond.fieldLink RX9 62 (TX9 19).1 (TX9 19).2.1 (TX9 19).2.2.1 ∈ zW := (zT4 6 (by decide +kernel) rfl)
theorem fd_X9_62 : zFd RX9 62 9 19 := ⟨RX9, TX9, 50, rfl, by decide, inz_X9, Or.inl fl_X9_62⟩
theorem fp_X9_62 : zFp RX9 62 9 19 (.array .boolean) true := ⟨RX9, TX9, 50, tyX9, rfl, by decide, inz_X9, tyX9_ok, nmX9, rfl, rfl, Or.inl ⟨rfl, rfl, fl_X9_62⟩⟩
theorem fl_X9_65 : Cond.fieldLink RX9 65 (TX9 21).1 (TX9 21).2.1 (TX9 21).2.2.1 ∈ zW := (zT4 8 (by decide +kernel) rfl)
theorem fd_X9_65 : zFd RX9 65 9 21 := ⟨RX9, TX9, 50, rfl, by decide, inz_X9, Or.inl fl_X9_65⟩
theorem fp_X9_65 : zFp RX9 65 9 21 (.array .int) true := ⟨RX9, TX9, 50, tyX9, rfl, by decide, inz_X9, tyX9_ok, nmX9, rfl, rfl, Or.inl ⟨rfl, rfl, fl_X9_65⟩⟩
theorem fl_X9_68 : Cond.fieldLink RX9 68 (TX9 22).1 (TX9 22).2.1 (TX9 22).2.2.1 ∈ zW := (zT4 9 (by decide +kernel) rfl)
theorem fd_X9_68 : zFd RX9 68 9 22 := ⟨RX9, TX9, 50, rfl, by decide, inz_X9, Or.inl fl_X9_68⟩
theorem fp_X9_68 : zFp RX9 68 9 22 (.array .int) true := ⟨RX9, TX9, 50, tyX9, rfl, by decide, inz_X9, tyX9_ok, nmX9, rfl, rfl, Or.inl ⟨rfl, rfl, fl_X9_68⟩⟩
theorem fl_X9_71 : Cond.fieldLink RX9 71 (TX9 23).1 (TX9 23).2.1 (TX9 23).2.2.1 ∈ zW := (zT4 10 (by decide +kernel) rfl)
theorem fd_X9_71 : zFd RX9 71 9 23 := ⟨RX9, TX9, 50, rfl, by decide, inz_X9, Or.inl fl_X9_71⟩
theorem fp_X9_71 : zFp RX9 71 9 23 (.array .int) true := ⟨RX9, TX9, 50, tyX9, rfl, by decide, inz_X9, tyX9_ok, nmX9, rfl, rfl, Or.inl ⟨rfl, rfl, fl_X9_71⟩⟩
theorem fl_X9_74 : Cond.fieldLink RX9 74 (TX9 24).1 (TX9 24).2.1 (TX9 24).2.2.1 ∈ zW := (zT4 11 (by decide +kernel) rfl)
theorem fd_X9_74 : zFd RX9 74 9 24 := ⟨RX9, TX9, 50, rfl, by decide, inz_X9, Or.inl fl_X9_74⟩
theorem fp_X9_74 : zFp RX9 74 9 24 (.array .int) true := ⟨RX9, TX9, 50, tyX9, rfl, by decide, inz_X9, tyX9_ok, nmX9, rfl, rfl, Or.inl ⟨rfl, rfl, fl_X9_74⟩⟩
theorem fl_X9_77 : Cond.fieldLink RX9 77 (TX9 25).1 (TX9 25).2.1 (TX9 25).2.2.1 ∈ zW := (zT4 12 (by decide +kernel) rfl)
theorem fd_X9_77 : zFd RX9 77 9 25 := ⟨RX9, TX9, 50, rfl, by decide, inz_X9, Or.inl fl_X9_77⟩
theorem fp_X9_77 : zFp RX9 77 9 25 (.array .boolean) true := ⟨RX9, TX9, 50, tyX9, rfl, by decide, inz_X9, tyX9_ok, nmX9, rfl, rfl, Or.inl ⟨rfl, rfl, fl_X9_77⟩⟩
theorem fl_X9_80 : Cond.fieldLink RX9 80 (TX9 28).1 (TX9 28).2.1 (TX9 28).2.2.1 ∈ zW := (zT4 15 (by decide +kernel) rfl)
theorem fd_X9_80 : zFd RX9 80 9 28 := ⟨RX9, TX9, 50, rfl, by decide, inz_X9, Or.inl fl_X9_80⟩
theorem fp_X9_80 : zFp RX9 80 9 28 (.array .int) true := ⟨RX9, TX9, 50, tyX9, rfl, by decide, inz_X9, tyX9_ok, nmX9, rfl, rfl, Or.inl ⟨rfl, rfl, fl_X9_80⟩⟩
theorem fl_X9_83 : Cond.fieldLink RX9 83 (TX9 29).1 (TX9 29).2.1 (TX9 29).2.2.1 ∈ zW := (zT4 16 (by decide +kernel) rfl)
theorem fd_X9_83 : zFd RX9 83 9 29 := ⟨RX9, TX9, 50, rfl, by decide, inz_X9, Or.inl fl_X9_83⟩
theorem fp_X9_83 : zFp RX9 83 9 29 (.array .int) true := ⟨RX9, TX9, 50, tyX9, rfl, by decide, inz_X9, tyX9_ok, nmX9, rfl, rfl, Or.inl ⟨rfl, rfl, fl_X9_83⟩⟩
theorem fl_X9_86 : Cond.fieldLink RX9 86 (TX9 30).1 (TX9 30).2.1 (TX9 30).2.2.1 ∈ zW := (zT4 17 (by decide +kernel) rfl)
theorem fd_X9_86 : zFd RX9 86 9 30 := ⟨RX9, TX9, 50, rfl, by decide, inz_X9, Or.inl fl_X9_86⟩
theorem fp_X9_86 : zFp RX9 86 9 30 (.array .int) true := ⟨RX9, TX9, 50, tyX9, rfl, by decide, inz_X9, tyX9_ok, nmX9, rfl, rfl, Or.inl ⟨rfl, rfl, fl_X9_86⟩⟩
theorem fl_X9_89 : Cond.fieldLink RX9 89 (TX9 31).1 (TX9 31).2.1 (TX9 31).2.2.1 ∈ zW := (zT4 18 (by decide +kernel) rfl)
theorem fd_X9_89 : zFd RX9 89 9 31 := ⟨RX9, TX9, 50, rfl, by decide, inz_X9, Or.inl fl_X9_89⟩
theorem fp_X9_89 : zFp RX9 89 9 31 (.array .int) true := ⟨RX9, TX9, 50, tyX9, rfl, by decide, inz_X9, tyX9_ok, nmX9, rfl, rfl, Or.inl ⟨rfl, rfl, fl_X9_89⟩⟩
theorem fl_X9_92 : Cond.fieldLink RX9 92 (TX9 32).1 (TX9 32).2.1 (TX9 32).2.2.1 ∈ zW := (zT4 19 (by decide +kernel) rfl)
theorem fd_X9_92 : zFd RX9 92 9 32 := ⟨RX9, TX9, 50, rfl, by decide, inz_X9, Or.inl fl_X9_92⟩
theorem fp_X9_92 : zFp RX9 92 9 32 (.array .boolean) true := ⟨RX9, TX9, 50, tyX9, rfl, by decide, inz_X9, tyX9_ok, nmX9, rfl, rfl, Or.inl ⟨rfl, rfl, fl_X9_92⟩⟩
theorem fl_X9_95 : Cond.fieldLink RX9 95 (TX9 35).1 (TX9 35).2.1 (TX9 35).2.2.1 ∈ zW := (zT4 22 (by decide +kernel) rfl)
theorem fd_X9_95 : zFd RX9 95 9 35 := ⟨RX9, TX9, 50, rfl, by decide, inz_X9, Or.inl fl_X9_95⟩
theorem fp_X9_95 : zFp RX9 95 9 35 (.array .int) true := ⟨RX9, TX9, 50, tyX9, rfl, by decide, inz_X9, tyX9_ok, nmX9, rfl, rfl, Or.inl ⟨rfl, rfl, fl_X9_95⟩⟩
theorem fl_X9_98 : Cond.fieldLink RX9 98 (TX9 36).1 (TX9 36).2.1 (TX9 36).2.2.1 ∈ zW := (zT4 23 (by decide +kernel) rfl)
theorem fd_X9_98 : zFd RX9 98 9 36 := ⟨RX9, TX9, 50, rfl, by decide, inz_X9, Or.inl fl_X9_98⟩
theorem fp_X9_98 : zFp RX9 98 9 36 (.array .int) true := ⟨RX9, TX9, 50, tyX9, rfl, by decide, inz_X9, tyX9_ok, nmX9, rfl, rfl, Or.inl ⟨rfl, rfl, fl_X9_98⟩⟩
theorem fl_X9_101 : Cond.fieldLink RX9 101 (TX9 37).1 (TX9 37).2.1 (TX9 37).2.2.1 ∈ zW := (zT4 24 (by decide +kernel) rfl)
theorem fd_X9_101 : zFd RX9 101 9 37 := ⟨RX9, TX9, 50, rfl, by decide, inz_X9, Or.inl fl_X9_101⟩
theorem fp_X9_101 : zFp RX9 101 9 37 (.array .int) true := ⟨RX9, TX9, 50, tyX9, rfl, by decide, inz_X9, tyX9_ok, nmX9, rfl, rfl, Or.inl ⟨rfl, rfl, fl_X9_101⟩⟩
theorem fl_X9_104 : Cond.fieldLink RX9 104 (TX9 38).1 (TX9 38).2.1 (TX9 38).2.2.1 ∈ zW := (zT4 25 (by decide +kernel) rfl)
theorem fd_X9_104 : zFd RX9 104 9 38 := ⟨RX9, TX9, 50, rfl, by decide, inz_X9, Or.inl fl_X9_104⟩
theorem fp_X9_104 : zFp RX9 104 9 38 (.array .int) true := ⟨RX9, TX9, 50, tyX9, rfl, by decide, inz_X9, tyX9_ok, nmX9, rfl, rfl, Or.inl ⟨rfl, rfl, fl_X9_104⟩⟩
theorem fl_X9_107 : Cond.fieldLink RX9 107 (TX9 39).1 (TX9 39).2.1 (TX9 39).2.2.1 ∈ zW := (zT4 26 (by decide +kernel) rfl)
theorem fd_X9_107 : zFd RX9 107 9 39 := ⟨RX9, TX9, 50, rfl, by decide, inz_X9, Or.inl fl_X9_107⟩
theorem fp_X9_107 : zFp RX9 107 9 39 (.array .boolean) true := ⟨RX9, TX9, 50, tyX9, rfl, by decide, inz_X9, tyX9_ok, nmX9, rfl, rfl, Or.inl ⟨rfl, rfl, fl_X9_107⟩⟩
theorem fl_X9_110 : Cond.fieldLink RX9 110 (TX9 40).1 (TX9 40).2.1 (TX9 40).2.2.1 ∈ zW := (zT4 27 (by decide +kernel) rfl)
theorem fd_X9_110 : zFd RX9 110 9 40 := ⟨RX9, TX9, 50, rfl, by decide, inz_X9, Or.inl fl_X9_110⟩
theorem fp_X9_110 : zFp RX9 110 9 40 (.array .int) true := ⟨RX9, TX9, 50, tyX9, rfl, by decide, inz_X9, tyX9_ok, nmX9, rfl, rfl, Or.inl ⟨rfl, rfl, fl_X9_110⟩⟩
theorem fl_X9_113 : Cond.fieldLink RX9 113 (TX9 42).1 (TX9 42).2.1 (TX9 42).2.2.1 ∈ zW := (zT4 29 (by decide +kernel) rfl)
theorem fd_X9_113 : zFd RX9 113 9 42 := ⟨RX9, TX9, 50, rfl, by decide, inz_X9, Or.inl fl_X9_113⟩
theorem fp_X9_113 : zFp RX9 113 9 42 .int false := ⟨RX9, TX9, 50, tyX9, rfl, by decide, inz_X9, tyX9_ok, nmX9, rfl, rfl, Or.inr ⟨rfl, Or.inl fl_X9_113⟩⟩
theorem fl_X9_117 : Cond.fieldLink RX9 117 (TX9 44).1 (TX9 44).2.1 (TX9 44).2.2.1 ∈ zW := (zT4 31 (by decide +kernel) rfl)
theorem fd_X9_117 : zFd RX9 117 9 44 := ⟨RX9, TX9, 50, rfl, by decide, inz_X9, Or.inl fl_X9_117⟩
theorem fp_X9_117 : zFp RX9 117 9 44 (.array .int) true := ⟨RX9, TX9, 50, tyX9, rfl, by decide, inz_X9, tyX9_ok, nmX9, rfl, rfl, Or.inl ⟨rfl, rfl, fl_X9_117⟩⟩
theorem fl_X9_120 : Cond.fieldLink RX9 120 (TX9 46).1 (TX9 46).2.1 (TX9 46).2.2.1 ∈ zW := (zT4 33 (by decide +kernel) rfl)
theorem fd_X9_120 : zFd RX9 120 9 46 := ⟨RX9, TX9, 50, rfl, by decide, inz_X9, Or.inl fl_X9_120⟩
theorem fp_X9_120 : zFp RX9 120 9 46 (.array .int) true := ⟨RX9, TX9, 50, tyX9, rfl, by decide, inz_X9, tyX9_ok, nmX9, rfl, rfl, Or.inl ⟨rfl, rfl, fl_X9_120⟩⟩
theorem fl_X9_123 : Cond.fieldLink RX9 123 (TX9 48).1 (TX9 48).2.1 (TX9 48).2.2.1 ∈ zW := (zT4 35 (by decide +kernel) rfl)
theorem fd_X9_123 : zFd RX9 123 9 48 := ⟨RX9, TX9, 50, rfl, by decide, inz_X9, Or.inl fl_X9_123⟩
theorem fp_X9_123 : zFp RX9 123 9 48 (.array .int) true := ⟨RX9, TX9, 50, tyX9, rfl, by decide, inz_X9, tyX9_ok, nmX9, rfl, rfl, Or.inl ⟨rfl, rfl, fl_X9_123⟩⟩
theorem fl_X9_126 : Cond.fieldLink RX9 126 (TX9 49).1 (TX9 49).2.1 (TX9 49).2.2.1 ∈ zW := (zT4 36 (by decide +kernel) rfl)
theorem fd_X9_126 : zFd RX9 126 9 49 := ⟨RX9, TX9, 50, rfl, by decide, inz_X9, Or.inl fl_X9_126⟩
theorem fp_X9_126 : zFp RX9 126 9 49 (.array .int) true := ⟨RX9, TX9, 50, tyX9, rfl, by decide, inz_X9, tyX9_ok, nmX9, rfl, rfl, Or.inl ⟨rfl, rfl, fl_X9_126⟩⟩
theorem fl_X9_129 : Cond.fieldLink RX9 129 (TX9 0).1 (TX9 0).2.1 (TX9 0).2.2.1 ∈ zW := (zT3 227 (by decide +kernel) rfl)
theorem fd_X9_129 : zFd RX9 129 9 0 := ⟨RX9, TX9, 50, rfl, by decide, inz_X9, Or.inl fl_X9_129⟩
theorem fl_X9_132 : Cond.fieldLink RX9 132 (TX9 1).1 (TX9 1).2.1 (TX9 1).2.2.1 ∈ zW := (zT3 228 (by decide +kernel) rfl)
theorem fd_X9_132 : zFd RX9 132 9 1 := ⟨RX9, TX9, 50, rfl, by decide, inz_X9, Or.inl fl_X9_132⟩
theorem ml_X9_135 : Cond.methodLink RX9 135 yX9_isIn ∈ zW := (zT4 146 (by decide +kernel) rfl)
theorem ini_X9 : Cond.initialized "UpdateStepsModel" ∈ zW := (zT1 10 (by decide +kernel) rfl)
theorem lb_X9_isIn : (yX9_isIn.cls ≠ "java/lang/invoke/MethodHandle" ∧ yX9_isIn.cls ≠ "java/lang/invoke/VarHandle" ∧ (parseMethodDescriptor yX9_isIn.desc).map (fun d => d.parameters.length) = some 3) ∧ Cond.code yX9_isIn cX9_isIn 3 (some .boolean) ∈ zW := ⟨⟨by decide +kernel, by decide +kernel, by decide +kernel⟩, (zT4 148 rfl rfl)⟩
theorem sm_X9_isIn : Cond.static yX9_isIn ∈ zW := (zT4 147 (by decide +kernel) rfl)
theorem lk_X9_135 : zLkS RX9 135 yX9_isIn cX9_isIn 3 (some .boolean) 3 := ⟨⟨lb_X9_isIn.1, lb_X9_isIn.2, ini_X9, Or.inl ml_X9_135⟩, sm_X9_isIn⟩
theorem ml_X9_139 : Cond.methodLink RX9 139 yX9_isTo ∈ zW := (zT4 149 (by decide +kernel) rfl)
theorem lb_X9_isTo : (yX9_isTo.cls ≠ "java/lang/invoke/MethodHandle" ∧ yX9_isTo.cls ≠ "java/lang/invoke/VarHandle" ∧ (parseMethodDescriptor yX9_isTo.desc).map (fun d => d.parameters.length) = some 2) ∧ Cond.code yX9_isTo cX9_isTo 2 (some .boolean) ∈ zW := ⟨⟨by decide +kernel, by decide +kernel, by decide +kernel⟩, (zT4 151 rfl rfl)⟩
theorem sm_X9_isTo : Cond.static yX9_isTo ∈ zW := (zT4 150 (by decide +kernel) rfl)
theorem lk_X9_139 : zLkS RX9 139 yX9_isTo cX9_isTo 2 (some .boolean) 2 := ⟨⟨lb_X9_isTo.1, lb_X9_isTo.2, ini_X9, Or.inl ml_X9_139⟩, sm_X9_isTo⟩
theorem fp_X9_129 : zFp RX9 129 9 0 .int false := ⟨RX9, TX9, 50, tyX9, rfl, by decide, inz_X9, tyX9_ok, nmX9, rfl, rfl, Or.inr ⟨rfl, Or.inl fl_X9_129⟩⟩
theorem fp_X9_132 : zFp RX9 132 9 1 .int false := ⟨RX9, TX9, 50, tyX9, rfl, by decide, inz_X9, tyX9_ok, nmX9, rfl, rfl, Or.inr ⟨rfl, Or.inl fl_X9_132⟩⟩
theorem ml_X9_143 : Cond.methodLink RX9 143 yX9_isStep ∈ zW := (zT4 156 (by decide +kernel) rfl)
theorem lb_X9_isStep : (yX9_isStep.cls ≠ "java/lang/invoke/MethodHandle" ∧ yX9_isStep.cls ≠ "java/lang/invoke/VarHandle" ∧ (parseMethodDescriptor yX9_isStep.desc).map (fun d => d.parameters.length) = some 1) ∧ Cond.code yX9_isStep cX9_isStep 2 (some .boolean) ∈ zW := ⟨⟨by decide +kernel, by decide +kernel, by decide +kernel⟩, (zT4 159 rfl rfl)⟩
theorem im_X9_isStep : Cond.instanceMethod yX9_isStep ∈ zW := (zT4 158 (by decide +kernel) rfl)
theorem se_X9_isStep : Cond.selects yX9_isStep.cls yX9_isStep yX9_isStep ∈ zW := (zT0 21 (by decide +kernel) rfl)
theorem lk_X9_143 : zLkV RX9 143 yX9_isStep cX9_isStep 2 (some .boolean) 1 := ⟨⟨lb_X9_isStep.1, lb_X9_isStep.2, ini_X9, Or.inl ml_X9_143⟩, im_X9_isStep, se_X9_isStep⟩
theorem ml_X9_147 : Cond.methodLink RX9 147 yX9_isName ∈ zW := (zT4 167 (by decide +kernel) rfl)
theorem lb_X9_isName : (yX9_isName.cls ≠ "java/lang/invoke/MethodHandle" ∧ yX9_isName.cls ≠ "java/lang/invoke/VarHandle" ∧ (parseMethodDescriptor yX9_isName.desc).map (fun d => d.parameters.length) = some 1) ∧ Cond.code yX9_isName cX9_isName 1 (some .boolean) ∈ zW := ⟨⟨by decide +kernel, by decide +kernel, by decide +kernel⟩, (zT4 169 rfl rfl)⟩
theorem sm_X9_isName : Cond.static yX9_isName ∈ zW := (zT4 168 (by decide +kernel) rfl)
theorem lk_X9_147 : zLkS RX9 147 yX9_isName cX9_isName 1 (some .boolean) 1 := ⟨⟨lb_X9_isName.1, lb_X9_isName.2, ini_X9, Or.inl ml_X9_147⟩, sm_X9_isName⟩
theorem ml_X9_150 : Cond.methodLink RX9 150 yX9_isVariable ∈ zW := (zT4 170 (by decide +kernel) rfl)
theorem lb_X9_isVariable : (yX9_isVariable.cls ≠ "java/lang/invoke/MethodHandle" ∧ yX9_isVariable.cls ≠ "java/lang/invoke/VarHandle" ∧ (parseMethodDescriptor yX9_isVariable.desc).map (fun d => d.parameters.length) = some 1) ∧ Cond.code yX9_isVariable cX9_isVariable 1 (some .boolean) ∈ zW := ⟨⟨by decide +kernel, by decide +kernel, by decide +kernel⟩, (zT4 172 rfl rfl)⟩
theorem sm_X9_isVariable : Cond.static yX9_isVariable ∈ zW := (zT4 171 (by decide +kernel) rfl)
theorem lk_X9_150 : zLkS RX9 150 yX9_isVariable cX9_isVariable 1 (some .boolean) 1 := ⟨⟨lb_X9_isVariable.1, lb_X9_isVariable.2, ini_X9, Or.inl ml_X9_150⟩, sm_X9_isVariable⟩
theorem ml_X9_153 : Cond.methodLink RX9 153 yX9_isNew ∈ zW := (zT4 173 (by decide +kernel) rfl)
theorem lb_X9_isNew : (yX9_isNew.cls ≠ "java/lang/invoke/MethodHandle" ∧ yX9_isNew.cls ≠ "java/lang/invoke/VarHandle" ∧ (parseMethodDescriptor yX9_isNew.desc).map (fun d => d.parameters.length) = some 1) ∧ Cond.code yX9_isNew cX9_isNew 1 (some .boolean) ∈ zW := ⟨⟨by decide +kernel, by decide +kernel, by decide +kernel⟩, (zT4 175 rfl rfl)⟩
theorem sm_X9_isNew : Cond.static yX9_isNew ∈ zW := (zT4 174 (by decide +kernel) rfl)
theorem lk_X9_153 : zLkS RX9 153 yX9_isNew cX9_isNew 1 (some .boolean) 1 := ⟨⟨lb_X9_isNew.1, lb_X9_isNew.2, ini_X9, Or.inl ml_X9_153⟩, sm_X9_isNew⟩
theorem ml_X9_156 : Cond.methodLink RX9 156 yX9_mayStand ∈ zW := (zT4 164 (by decide +kernel) rfl)
theorem lb_X9_mayStand : (yX9_mayStand.cls ≠ "java/lang/invoke/MethodHandle" ∧ yX9_mayStand.cls ≠ "java/lang/invoke/VarHandle" ∧ (parseMethodDescriptor yX9_mayStand.desc).map (fun d => d.parameters.length) = some 3) ∧ Cond.code yX9_mayStand cX9_mayStand 3 (some .boolean) ∈ zW := ⟨⟨by decide +kernel, by decide +kernel, by decide +kernel⟩, (zT4 166 rfl rfl)⟩
theorem sm_X9_mayStand : Cond.static yX9_mayStand ∈ zW := (zT4 165 (by decide +kernel) rfl)
theorem lk_X9_156 : zLkS RX9 156 yX9_mayStand cX9_mayStand 3 (some .boolean) 3 := ⟨⟨lb_X9_mayStand.1, lb_X9_mayStand.2, ini_X9, Or.inl ml_X9_156⟩, sm_X9_mayStand⟩
theorem fl_X9_160 : Cond.fieldLink RX9 160 (TX9 20).1 (TX9 20).2.1 (TX9 20).2.2.1 ∈ zW := (zT4 7 (by decide +kernel) rfl)
theorem fd_X9_160 : zFd RX9 160 9 20 := ⟨RX9, TX9, 50, rfl, by decide, inz_X9, Or.inl fl_X9_160⟩
theorem ml_X9_163 : Cond.methodLink RX9 163 yX9_find ∈ zW := (zT4 220 (by decide +kernel) rfl)
theorem lb_X9_find : (yX9_find.cls ≠ "java/lang/invoke/MethodHandle" ∧ yX9_find.cls ≠ "java/lang/invoke/VarHandle" ∧ (parseMethodDescriptor yX9_find.desc).map (fun d => d.parameters.length) = some 4) ∧ Cond.code yX9_find cX9_find 7 (some .int) ∈ zW := ⟨⟨by decide +kernel, by decide +kernel, by decide +kernel⟩, (zT4 223 rfl rfl)⟩
theorem im_X9_find : Cond.instanceMethod yX9_find ∈ zW := (zT4 222 (by decide +kernel) rfl)
theorem se_X9_find : Cond.selects yX9_find.cls yX9_find yX9_find ∈ zW := (zT0 29 (by decide +kernel) rfl)
theorem lk_X9_163 : zLkV RX9 163 yX9_find cX9_find 7 (some .int) 4 := ⟨⟨lb_X9_find.1, lb_X9_find.2, ini_X9, Or.inl ml_X9_163⟩, im_X9_find, se_X9_find⟩
theorem fp_X9_160 : zFp RX9 160 9 20 .int false := ⟨RX9, TX9, 50, tyX9, rfl, by decide, inz_X9, tyX9_ok, nmX9, rfl, rfl, Or.inr ⟨rfl, Or.inl fl_X9_160⟩⟩
theorem ml_X9_167 : Cond.methodLink RX9 167 yX9_leave ∈ zW := (zT4 232 (by decide +kernel) rfl)
theorem lb_X9_leave : (yX9_leave.cls ≠ "java/lang/invoke/MethodHandle" ∧ yX9_leave.cls ≠ "java/lang/invoke/VarHandle" ∧ (parseMethodDescriptor yX9_leave.desc).map (fun d => d.parameters.length) = some 1) ∧ Cond.code yX9_leave cX9_leave 2 none ∈ zW := ⟨⟨by decide +kernel, by decide +kernel, by decide +kernel⟩, (zT4 235 rfl rfl)⟩
theorem im_X9_leave : Cond.instanceMethod yX9_leave ∈ zW := (zT4 234 (by decide +kernel) rfl)
theorem se_X9_leave : Cond.selects yX9_leave.cls yX9_leave yX9_leave ∈ zW := (zT0 32 (by decide +kernel) rfl)
theorem lk_X9_167 : zLkV RX9 167 yX9_leave cX9_leave 2 none 1 := ⟨⟨lb_X9_leave.1, lb_X9_leave.2, ini_X9, Or.inl ml_X9_167⟩, im_X9_leave, se_X9_leave⟩
theorem ml_X9_171 : Cond.methodLink RX9 171 yX9_empty ∈ zW := (zT5 20 (by decide +kernel) rfl)
theorem lb_X9_empty : (yX9_empty.cls ≠ "java/lang/invoke/MethodHandle" ∧ yX9_empty.cls ≠ "java/lang/invoke/VarHandle" ∧ (parseMethodDescriptor yX9_empty.desc).map (fun d => d.parameters.length) = some 1) ∧ Cond.code yX9_empty cX9_empty 3 none ∈ zW := ⟨⟨by decide +kernel, by decide +kernel, by decide +kernel⟩, (zT5 23 rfl rfl)⟩
theorem im_X9_empty : Cond.instanceMethod yX9_empty ∈ zW := (zT5 22 (by decide +kernel) rfl)
theorem se_X9_empty : Cond.selects yX9_empty.cls yX9_empty yX9_empty ∈ zW := (zT0 39 (by decide +kernel) rfl)
theorem lk_X9_171 : zLkV RX9 171 yX9_empty cX9_empty 3 none 1 := ⟨⟨lb_X9_empty.1, lb_X9_empty.2, ini_X9, Or.inl ml_X9_171⟩, im_X9_empty, se_X9_empty⟩
theorem fl_X9_174 : Cond.fieldLink RX9 174 (TX9 47).1 (TX9 47).2.1 (TX9 47).2.2.1 ∈ zW := (zT4 34 (by decide +kernel) rfl)
theorem fd_X9_174 : zFd RX9 174 9 47 := ⟨RX9, TX9, 50, rfl, by decide, inz_X9, Or.inl fl_X9_174⟩
theorem fp_X9_174 : zFp RX9 174 9 47 .int false := ⟨RX9, TX9, 50, tyX9, rfl, by decide, inz_X9, tyX9_ok, nmX9, rfl, rfl, Or.inr ⟨rfl, Or.inl fl_X9_174⟩⟩
theorem ml_X9_177 : Cond.methodLink RX9 177 yX9_isBefore ∈ zW := (zT5 8 (by decide +kernel) rfl)
theorem lb_X9_isBefore : (yX9_isBefore.cls ≠ "java/lang/invoke/MethodHandle" ∧ yX9_isBefore.cls ≠ "java/lang/invoke/VarHandle" ∧ (parseMethodDescriptor yX9_isBefore.desc).map (fun d => d.parameters.length) = some 2) ∧ Cond.code yX9_isBefore cX9_isBefore 3 (some .boolean) ∈ zW := ⟨⟨by decide +kernel, by decide +kernel, by decide +kernel⟩, (zT5 11 rfl rfl)⟩
theorem im_X9_isBefore : Cond.instanceMethod yX9_isBefore ∈ zW := (zT5 10 (by decide +kernel) rfl)
theorem se_X9_isBefore : Cond.selects yX9_isBefore.cls yX9_isBefore yX9_isBefore ∈ zW := (zT0 36 (by decide +kernel) rfl)
theorem lk_X9_177 : zLkV RX9 177 yX9_isBefore cX9_isBefore 3 (some .boolean) 2 := ⟨⟨lb_X9_isBefore.1, lb_X9_isBefore.2, ini_X9, Or.inl ml_X9_177⟩, im_X9_isBefore, se_X9_isBefore⟩
theorem fl_X9_180 : Cond.fieldLink RX9 180 (TX9 45).1 (TX9 45).2.1 (TX9 45).2.2.1 ∈ zW := (zT4 32 (by decide +kernel) rfl)
theorem fd_X9_180 : zFd RX9 180 9 45 := ⟨RX9, TX9, 50, rfl, by decide, inz_X9, Or.inl fl_X9_180⟩
theorem ml_X9_183 : Cond.methodLink RX9 183 yX9_valueIn ∈ zW := (zT4 208 (by decide +kernel) rfl)
theorem lb_X9_valueIn : (yX9_valueIn.cls ≠ "java/lang/invoke/MethodHandle" ∧ yX9_valueIn.cls ≠ "java/lang/invoke/VarHandle" ∧ (parseMethodDescriptor yX9_valueIn.desc).map (fun d => d.parameters.length) = some 3) ∧ Cond.code yX9_valueIn cX9_valueIn 4 (some .int) ∈ zW := ⟨⟨by decide +kernel, by decide +kernel, by decide +kernel⟩, (zT4 211 rfl rfl)⟩
theorem im_X9_valueIn : Cond.instanceMethod yX9_valueIn ∈ zW := (zT4 210 (by decide +kernel) rfl)
theorem se_X9_valueIn : Cond.selects yX9_valueIn.cls yX9_valueIn yX9_valueIn ∈ zW := (zT0 26 (by decide +kernel) rfl)
theorem lk_X9_183 : zLkV RX9 183 yX9_valueIn cX9_valueIn 4 (some .int) 3 := ⟨⟨lb_X9_valueIn.1, lb_X9_valueIn.2, ini_X9, Or.inl ml_X9_183⟩, im_X9_valueIn, se_X9_valueIn⟩
theorem ml_X9_187 : Cond.methodLink RX9 187 yX9_lineUp ∈ zW := (zT5 4 (by decide +kernel) rfl)
theorem lb_X9_lineUp : (yX9_lineUp.cls ≠ "java/lang/invoke/MethodHandle" ∧ yX9_lineUp.cls ≠ "java/lang/invoke/VarHandle" ∧ (parseMethodDescriptor yX9_lineUp.desc).map (fun d => d.parameters.length) = some 1) ∧ Cond.code yX9_lineUp cX9_lineUp 5 none ∈ zW := ⟨⟨by decide +kernel, by decide +kernel, by decide +kernel⟩, (zT5 7 rfl rfl)⟩
theorem im_X9_lineUp : Cond.instanceMethod yX9_lineUp ∈ zW := (zT5 6 (by decide +kernel) rfl)
theorem se_X9_lineUp : Cond.selects yX9_lineUp.cls yX9_lineUp yX9_lineUp ∈ zW := (zT0 35 (by decide +kernel) rfl)
theorem lk_X9_187 : zLkV RX9 187 yX9_lineUp cX9_lineUp 5 none 1 := ⟨⟨lb_X9_lineUp.1, lb_X9_lineUp.2, ini_X9, Or.inl ml_X9_187⟩, im_X9_lineUp, se_X9_lineUp⟩
theorem fl_X9_190 : Cond.fieldLink RX9 190 (TX9 43).1 (TX9 43).2.1 (TX9 43).2.2.1 ∈ zW := (zT4 30 (by decide +kernel) rfl)
theorem fd_X9_190 : zFd RX9 190 9 43 := ⟨RX9, TX9, 50, rfl, by decide, inz_X9, Or.inl fl_X9_190⟩
theorem fp_X9_190 : zFp RX9 190 9 43 .int false := ⟨RX9, TX9, 50, tyX9, rfl, by decide, inz_X9, tyX9_ok, nmX9, rfl, rfl, Or.inr ⟨rfl, Or.inl fl_X9_190⟩⟩
theorem fp_X9_180 : zFp RX9 180 9 45 .int false := ⟨RX9, TX9, 50, tyX9, rfl, by decide, inz_X9, tyX9_ok, nmX9, rfl, rfl, Or.inr ⟨rfl, Or.inl fl_X9_180⟩⟩
theorem ml_X9_193 : Cond.methodLink RX9 193 yX9_fits ∈ zW := (zT5 12 (by decide +kernel) rfl)
theorem lb_X9_fits : (yX9_fits.cls ≠ "java/lang/invoke/MethodHandle" ∧ yX9_fits.cls ≠ "java/lang/invoke/VarHandle" ∧ (parseMethodDescriptor yX9_fits.desc).map (fun d => d.parameters.length) = some 2) ∧ Cond.code yX9_fits cX9_fits 4 (some .boolean) ∈ zW := ⟨⟨by decide +kernel, by decide +kernel, by decide +kernel⟩, (zT5 15 rfl rfl)⟩
theorem im_X9_fits : Cond.instanceMethod yX9_fits ∈ zW := (zT5 14 (by decide +kernel) rfl)
theorem se_X9_fits : Cond.selects yX9_fits.cls yX9_fits yX9_fits ∈ zW := (zT0 37 (by decide +kernel) rfl)
theorem lk_X9_193 : zLkV RX9 193 yX9_fits cX9_fits 4 (some .boolean) 2 := ⟨⟨lb_X9_fits.1, lb_X9_fits.2, ini_X9, Or.inl ml_X9_193⟩, im_X9_fits, se_X9_fits⟩
theorem fl_X9_196 : Cond.fieldLink RX9 196 (TX9 41).1 (TX9 41).2.1 (TX9 41).2.2.1 ∈ zW := (zT4 28 (by decide +kernel) rfl)
theorem fd_X9_196 : zFd RX9 196 9 41 := ⟨RX9, TX9, 50, rfl, by decide, inz_X9, Or.inl fl_X9_196⟩
theorem fp_X9_196 : zFp RX9 196 9 41 .int false := ⟨RX9, TX9, 50, tyX9, rfl, by decide, inz_X9, tyX9_ok, nmX9, rfl, rfl, Or.inr ⟨rfl, Or.inl fl_X9_196⟩⟩
theorem fl_X9_199 : Cond.fieldLink RX9 199 (TX9 26).1 (TX9 26).2.1 (TX9 26).2.2.1 ∈ zW := (zT4 13 (by decide +kernel) rfl)
theorem fd_X9_199 : zFd RX9 199 9 26 := ⟨RX9, TX9, 50, rfl, by decide, inz_X9, Or.inl fl_X9_199⟩
theorem fp_X9_199 : zFp RX9 199 9 26 .int false := ⟨RX9, TX9, 50, tyX9, rfl, by decide, inz_X9, tyX9_ok, nmX9, rfl, rfl, Or.inr ⟨rfl, Or.inl fl_X9_199⟩⟩
theorem ml_X9_202 : Cond.methodLink RX9 202 yX9_isLeftOut ∈ zW := (zT4 204 (by decide +kernel) rfl)
theorem lb_X9_isLeftOut : (yX9_isLeftOut.cls ≠ "java/lang/invoke/MethodHandle" ∧ yX9_isLeftOut.cls ≠ "java/lang/invoke/VarHandle" ∧ (parseMethodDescriptor yX9_isLeftOut.desc).map (fun d => d.parameters.length) = some 2) ∧ Cond.code yX9_isLeftOut cX9_isLeftOut 6 (some .boolean) ∈ zW := ⟨⟨by decide +kernel, by decide +kernel, by decide +kernel⟩, (zT4 207 rfl rfl)⟩
theorem im_X9_isLeftOut : Cond.instanceMethod yX9_isLeftOut ∈ zW := (zT4 206 (by decide +kernel) rfl)
theorem se_X9_isLeftOut : Cond.selects yX9_isLeftOut.cls yX9_isLeftOut yX9_isLeftOut ∈ zW := (zT0 25 (by decide +kernel) rfl)
theorem lk_X9_202 : zLkV RX9 202 yX9_isLeftOut cX9_isLeftOut 6 (some .boolean) 2 := ⟨⟨lb_X9_isLeftOut.1, lb_X9_isLeftOut.2, ini_X9, Or.inl ml_X9_202⟩, im_X9_isLeftOut, se_X9_isLeftOut⟩
theorem ml_X9_205 : Cond.methodLink RX9 205 yX9_comes ∈ zW := (zT4 212 (by decide +kernel) rfl)
theorem lb_X9_comes : (yX9_comes.cls ≠ "java/lang/invoke/MethodHandle" ∧ yX9_comes.cls ≠ "java/lang/invoke/VarHandle" ∧ (parseMethodDescriptor yX9_comes.desc).map (fun d => d.parameters.length) = some 2) ∧ Cond.code yX9_comes cX9_comes 4 (some .int) ∈ zW := ⟨⟨by decide +kernel, by decide +kernel, by decide +kernel⟩, (zT4 215 rfl rfl)⟩
theorem im_X9_comes : Cond.instanceMethod yX9_comes ∈ zW := (zT4 214 (by decide +kernel) rfl)
theorem se_X9_comes : Cond.selects yX9_comes.cls yX9_comes yX9_comes ∈ zW := (zT0 27 (by decide +kernel) rfl)
theorem lk_X9_205 : zLkV RX9 205 yX9_comes cX9_comes 4 (some .int) 2 := ⟨⟨lb_X9_comes.1, lb_X9_comes.2, ini_X9, Or.inl ml_X9_205⟩, im_X9_comes, se_X9_comes⟩
theorem ml_X9_209 : Cond.methodLink RX9 209 yX9_come ∈ zW := (zT4 216 (by decide +kernel) rfl)
theorem lb_X9_come : (yX9_come.cls ≠ "java/lang/invoke/MethodHandle" ∧ yX9_come.cls ≠ "java/lang/invoke/VarHandle" ∧ (parseMethodDescriptor yX9_come.desc).map (fun d => d.parameters.length) = some 4) ∧ Cond.code yX9_come cX9_come 5 (some .boolean) ∈ zW := ⟨⟨by decide +kernel, by decide +kernel, by decide +kernel⟩, (zT4 219 rfl rfl)⟩
theorem im_X9_come : Cond.instanceMethod yX9_come ∈ zW := (zT4 218 (by decide +kernel) rfl)
theorem se_X9_come : Cond.selects yX9_come.cls yX9_come yX9_come ∈ zW := (zT0 28 (by decide +kernel) rfl)
theorem lk_X9_209 : zLkV RX9 209 yX9_come cX9_come 5 (some .boolean) 4 := ⟨⟨lb_X9_come.1, lb_X9_come.2, ini_X9, Or.inl ml_X9_209⟩, im_X9_come, se_X9_come⟩
theorem ml_X9_213 : Cond.methodLink RX9 213 yX9_take ∈ zW := (zT4 228 (by decide +kernel) rfl)
theorem lb_X9_take : (yX9_take.cls ≠ "java/lang/invoke/MethodHandle" ∧ yX9_take.cls ≠ "java/lang/invoke/VarHandle" ∧ (parseMethodDescriptor yX9_take.desc).map (fun d => d.parameters.length) = some 4) ∧ Cond.code yX9_take cX9_take 6 none ∈ zW := ⟨⟨by decide +kernel, by decide +kernel, by decide +kernel⟩, (zT4 231 rfl rfl)⟩
theorem im_X9_take : Cond.instanceMethod yX9_take ∈ zW := (zT4 230 (by decide +kernel) rfl)
theorem se_X9_take : Cond.selects yX9_take.cls yX9_take yX9_take ∈ zW := (zT0 31 (by decide +kernel) rfl)
theorem lk_X9_213 : zLkV RX9 213 yX9_take cX9_take 6 none 4 := ⟨⟨lb_X9_take.1, lb_X9_take.2, ini_X9, Or.inl ml_X9_213⟩, im_X9_take, se_X9_take⟩
theorem ml_X9_217 : Cond.methodLink RX9 217 yX9_solve ∈ zW := (zT5 0 (by decide +kernel) rfl)
theorem lb_X9_solve : (yX9_solve.cls ≠ "java/lang/invoke/MethodHandle" ∧ yX9_solve.cls ≠ "java/lang/invoke/VarHandle" ∧ (parseMethodDescriptor yX9_solve.desc).map (fun d => d.parameters.length) = some 1) ∧ Cond.code yX9_solve cX9_solve 8 (some .int) ∈ zW := ⟨⟨by decide +kernel, by decide +kernel, by decide +kernel⟩, (zT5 3 rfl rfl)⟩
theorem im_X9_solve : Cond.instanceMethod yX9_solve ∈ zW := (zT5 2 (by decide +kernel) rfl)
theorem se_X9_solve : Cond.selects yX9_solve.cls yX9_solve yX9_solve ∈ zW := (zT0 34 (by decide +kernel) rfl)
theorem lk_X9_217 : zLkV RX9 217 yX9_solve cX9_solve 8 (some .int) 1 := ⟨⟨lb_X9_solve.1, lb_X9_solve.2, ini_X9, Or.inl ml_X9_217⟩, im_X9_solve, se_X9_solve⟩
theorem ml_X9_221 : Cond.methodLink RX9 221 yX9_takeAway ∈ zW := (zT4 224 (by decide +kernel) rfl)
theorem lb_X9_takeAway : (yX9_takeAway.cls ≠ "java/lang/invoke/MethodHandle" ∧ yX9_takeAway.cls ≠ "java/lang/invoke/VarHandle" ∧ (parseMethodDescriptor yX9_takeAway.desc).map (fun d => d.parameters.length) = some 2) ∧ Cond.code yX9_takeAway cX9_takeAway 4 none ∈ zW := ⟨⟨by decide +kernel, by decide +kernel, by decide +kernel⟩, (zT4 227 rfl rfl)⟩
theorem im_X9_takeAway : Cond.instanceMethod yX9_takeAway ∈ zW := (zT4 226 (by decide +kernel) rfl)
theorem se_X9_takeAway : Cond.selects yX9_takeAway.cls yX9_takeAway yX9_takeAway ∈ zW := (zT0 30 (by decide +kernel) rfl)
theorem lk_X9_221 : zLkV RX9 221 yX9_takeAway cX9_takeAway 4 none 2 := ⟨⟨lb_X9_takeAway.1, lb_X9_takeAway.2, ini_X9, Or.inl ml_X9_221⟩, im_X9_takeAway, se_X9_takeAway⟩
theorem ml_X9_225 : Cond.methodLink RX9 225 yX9_add ∈ zW := (zT4 200 (by decide +kernel) rfl)
theorem lb_X9_add : (yX9_add.cls ≠ "java/lang/invoke/MethodHandle" ∧ yX9_add.cls ≠ "java/lang/invoke/VarHandle" ∧ (parseMethodDescriptor yX9_add.desc).map (fun d => d.parameters.length) = some 2) ∧ Cond.code yX9_add cX9_add 6 (some .boolean) ∈ zW := ⟨⟨by decide +kernel, by decide +kernel, by decide +kernel⟩, (zT4 203 rfl rfl)⟩
theorem im_X9_add : Cond.instanceMethod yX9_add ∈ zW := (zT4 202 (by decide +kernel) rfl)
theorem se_X9_add : Cond.selects yX9_add.cls yX9_add yX9_add ∈ zW := (zT0 24 (by decide +kernel) rfl)
theorem lk_X9_225 : zLkV RX9 225 yX9_add cX9_add 6 (some .boolean) 2 := ⟨⟨lb_X9_add.1, lb_X9_add.2, ini_X9, Or.inl ml_X9_225⟩, im_X9_add, se_X9_add⟩
theorem ml_X9_228 : Cond.methodLink RX9 228 yX9_dropOne ∈ zW := (zT5 32 (by decide +kernel) rfl)
theorem lb_X9_dropOne : (yX9_dropOne.cls ≠ "java/lang/invoke/MethodHandle" ∧ yX9_dropOne.cls ≠ "java/lang/invoke/VarHandle" ∧ (parseMethodDescriptor yX9_dropOne.desc).map (fun d => d.parameters.length) = some 1) ∧ Cond.code yX9_dropOne cX9_dropOne 2 none ∈ zW := ⟨⟨by decide +kernel, by decide +kernel, by decide +kernel⟩, (zT5 35 rfl rfl)⟩
theorem im_X9_dropOne : Cond.instanceMethod yX9_dropOne ∈ zW := (zT5 34 (by decide +kernel) rfl)
theorem se_X9_dropOne : Cond.selects yX9_dropOne.cls yX9_dropOne yX9_dropOne ∈ zW := (zT0 42 (by decide +kernel) rfl)
theorem lk_X9_228 : zLkV RX9 228 yX9_dropOne cX9_dropOne 2 none 1 := ⟨⟨lb_X9_dropOne.1, lb_X9_dropOne.2, ini_X9, Or.inl ml_X9_228⟩, im_X9_dropOne, se_X9_dropOne⟩
theorem ml_X9_231 : Cond.methodLink RX9 231 yX9_change ∈ zW := (zT4 236 (by decide +kernel) rfl)
theorem lb_X9_change : (yX9_change.cls ≠ "java/lang/invoke/MethodHandle" ∧ yX9_change.cls ≠ "java/lang/invoke/VarHandle" ∧ (parseMethodDescriptor yX9_change.desc).map (fun d => d.parameters.length) = some 1) ∧ Cond.code yX9_change cX9_change 4 (some .int) ∈ zW := ⟨⟨by decide +kernel, by decide +kernel, by decide +kernel⟩, (zT4 239 rfl rfl)⟩
theorem im_X9_change : Cond.instanceMethod yX9_change ∈ zW := (zT4 238 (by decide +kernel) rfl)
theorem se_X9_change : Cond.selects yX9_change.cls yX9_change yX9_change ∈ zW := (zT0 33 (by decide +kernel) rfl)
theorem lk_X9_231 : zLkV RX9 231 yX9_change cX9_change 4 (some .int) 1 := ⟨⟨lb_X9_change.1, lb_X9_change.2, ini_X9, Or.inl ml_X9_231⟩, im_X9_change, se_X9_change⟩
theorem ml_X9_234 : Cond.methodLink RX9 234 yX9_wipe ∈ zW := (zT5 16 (by decide +kernel) rfl)
theorem lb_X9_wipe : (yX9_wipe.cls ≠ "java/lang/invoke/MethodHandle" ∧ yX9_wipe.cls ≠ "java/lang/invoke/VarHandle" ∧ (parseMethodDescriptor yX9_wipe.desc).map (fun d => d.parameters.length) = some 2) ∧ Cond.code yX9_wipe cX9_wipe 5 (some .int) ∈ zW := ⟨⟨by decide +kernel, by decide +kernel, by decide +kernel⟩, (zT5 19 rfl rfl)⟩
theorem im_X9_wipe : Cond.instanceMethod yX9_wipe ∈ zW := (zT5 18 (by decide +kernel) rfl)
theorem se_X9_wipe : Cond.selects yX9_wipe.cls yX9_wipe yX9_wipe ∈ zW := (zT0 38 (by decide +kernel) rfl)
theorem lk_X9_234 : zLkV RX9 234 yX9_wipe cX9_wipe 5 (some .int) 2 := ⟨⟨lb_X9_wipe.1, lb_X9_wipe.2, ini_X9, Or.inl ml_X9_234⟩, im_X9_wipe, se_X9_wipe⟩
theorem ml_X9_238 : Cond.methodLink RX9 238 yX9_readFile ∈ zW := (zT5 24 (by decide +kernel) rfl)
theorem lb_X9_readFile : (yX9_readFile.cls ≠ "java/lang/invoke/MethodHandle" ∧ yX9_readFile.cls ≠ "java/lang/invoke/VarHandle" ∧ (parseMethodDescriptor yX9_readFile.desc).map (fun d => d.parameters.length) = some 1) ∧ Cond.code yX9_readFile cX9_readFile 5 (some .int) ∈ zW := ⟨⟨by decide +kernel, by decide +kernel, by decide +kernel⟩, (zT5 27 rfl rfl)⟩
theorem im_X9_readFile : Cond.instanceMethod yX9_readFile ∈ zW := (zT5 26 (by decide +kernel) rfl)
theorem se_X9_readFile : Cond.selects yX9_readFile.cls yX9_readFile yX9_readFile ∈ zW := (zT0 40 (by decide +kernel) rfl)
theorem lk_X9_238 : zLkV RX9 238 yX9_readFile cX9_readFile 5 (some .int) 1 := ⟨⟨lb_X9_readFile.1, lb_X9_readFile.2, ini_X9, Or.inl ml_X9_238⟩, im_X9_readFile, se_X9_readFile⟩
theorem ml_X9_241 : Cond.methodLink RX9 241 yX9_copy ∈ zW := (zT5 28 (by decide +kernel) rfl)
theorem lb_X9_copy : (yX9_copy.cls ≠ "java/lang/invoke/MethodHandle" ∧ yX9_copy.cls ≠ "java/lang/invoke/VarHandle" ∧ (parseMethodDescriptor yX9_copy.desc).map (fun d => d.parameters.length) = some 1) ∧ Cond.code yX9_copy cX9_copy 7 (some .int) ∈ zW := ⟨⟨by decide +kernel, by decide +kernel, by decide +kernel⟩, (zT5 31 rfl rfl)⟩
theorem im_X9_copy : Cond.instanceMethod yX9_copy ∈ zW := (zT5 30 (by decide +kernel) rfl)
theorem se_X9_copy : Cond.selects yX9_copy.cls yX9_copy yX9_copy ∈ zW := (zT0 41 (by decide +kernel) rfl)
theorem lk_X9_241 : zLkV RX9 241 yX9_copy cX9_copy 7 (some .int) 1 := ⟨⟨lb_X9_copy.1, lb_X9_copy.2, ini_X9, Or.inl ml_X9_241⟩, im_X9_copy, se_X9_copy⟩
theorem fl_X9_244 : Cond.fieldLink RX9 244 (TX9 27).1 (TX9 27).2.1 (TX9 27).2.2.1 ∈ zW := (zT4 14 (by decide +kernel) rfl)
theorem fd_X9_244 : zFd RX9 244 9 27 := ⟨RX9, TX9, 50, rfl, by decide, inz_X9, Or.inl fl_X9_244⟩
theorem fp_X9_244 : zFp RX9 244 9 27 .int false := ⟨RX9, TX9, 50, tyX9, rfl, by decide, inz_X9, tyX9_ok, nmX9, rfl, rfl, Or.inr ⟨rfl, Or.inl fl_X9_244⟩⟩
theorem fl_X9_247 : Cond.fieldLink RX9 247 (TX9 33).1 (TX9 33).2.1 (TX9 33).2.2.1 ∈ zW := (zT4 20 (by decide +kernel) rfl)
theorem fd_X9_247 : zFd RX9 247 9 33 := ⟨RX9, TX9, 50, rfl, by decide, inz_X9, Or.inl fl_X9_247⟩
theorem fp_X9_247 : zFp RX9 247 9 33 .int false := ⟨RX9, TX9, 50, tyX9, rfl, by decide, inz_X9, tyX9_ok, nmX9, rfl, rfl, Or.inr ⟨rfl, Or.inl fl_X9_247⟩⟩
theorem fl_X9_250 : Cond.fieldLink RX9 250 (TX9 34).1 (TX9 34).2.1 (TX9 34).2.2.1 ∈ zW := (zT4 21 (by decide +kernel) rfl)
theorem fd_X9_250 : zFd RX9 250 9 34 := ⟨RX9, TX9, 50, rfl, by decide, inz_X9, Or.inl fl_X9_250⟩
theorem ml_X9_253 : Cond.methodLink RX9 253 yX9_isAfter ∈ zW := (zT5 52 (by decide +kernel) rfl)
theorem lb_X9_isAfter : (yX9_isAfter.cls ≠ "java/lang/invoke/MethodHandle" ∧ yX9_isAfter.cls ≠ "java/lang/invoke/VarHandle" ∧ (parseMethodDescriptor yX9_isAfter.desc).map (fun d => d.parameters.length) = some 5) ∧ Cond.code yX9_isAfter cX9_isAfter 6 (some .boolean) ∈ zW := ⟨⟨by decide +kernel, by decide +kernel, by decide +kernel⟩, (zT5 55 rfl rfl)⟩
theorem im_X9_isAfter : Cond.instanceMethod yX9_isAfter ∈ zW := (zT5 54 (by decide +kernel) rfl)
theorem se_X9_isAfter : Cond.selects yX9_isAfter.cls yX9_isAfter yX9_isAfter ∈ zW := (zT0 47 (by decide +kernel) rfl)
theorem lk_X9_253 : zLkV RX9 253 yX9_isAfter cX9_isAfter 6 (some .boolean) 5 := ⟨⟨lb_X9_isAfter.1, lb_X9_isAfter.2, ini_X9, Or.inl ml_X9_253⟩, im_X9_isAfter, se_X9_isAfter⟩
theorem fp_X9_250 : zFp RX9 250 9 34 .int false := ⟨RX9, TX9, 50, tyX9, rfl, by decide, inz_X9, tyX9_ok, nmX9, rfl, rfl, Or.inr ⟨rfl, Or.inl fl_X9_250⟩⟩
theorem ml_X9_257 : Cond.methodLink RX9 257 yX9_wasIn ∈ zW := (zT5 44 (by decide +kernel) rfl)
theorem lb_X9_wasIn : (yX9_wasIn.cls ≠ "java/lang/invoke/MethodHandle" ∧ yX9_wasIn.cls ≠ "java/lang/invoke/VarHandle" ∧ (parseMethodDescriptor yX9_wasIn.desc).map (fun d => d.parameters.length) = some 4) ∧ Cond.code yX9_wasIn cX9_wasIn 7 (some .boolean) ∈ zW := ⟨⟨by decide +kernel, by decide +kernel, by decide +kernel⟩, (zT5 47 rfl rfl)⟩
theorem im_X9_wasIn : Cond.instanceMethod yX9_wasIn ∈ zW := (zT5 46 (by decide +kernel) rfl)
theorem se_X9_wasIn : Cond.selects yX9_wasIn.cls yX9_wasIn yX9_wasIn ∈ zW := (zT0 45 (by decide +kernel) rfl)
theorem lk_X9_257 : zLkV RX9 257 yX9_wasIn cX9_wasIn 7 (some .boolean) 4 := ⟨⟨lb_X9_wasIn.1, lb_X9_wasIn.2, ini_X9, Or.inl ml_X9_257⟩, im_X9_wasIn, se_X9_wasIn⟩
theorem ml_X9_260 : Cond.methodLink RX9 260 yX9_note ∈ zW := (zT5 48 (by decide +kernel) rfl)
theorem lb_X9_note : (yX9_note.cls ≠ "java/lang/invoke/MethodHandle" ∧ yX9_note.cls ≠ "java/lang/invoke/VarHandle" ∧ (parseMethodDescriptor yX9_note.desc).map (fun d => d.parameters.length) = some 5) ∧ Cond.code yX9_note cX9_note 7 none ∈ zW := ⟨⟨by decide +kernel, by decide +kernel, by decide +kernel⟩, (zT5 51 rfl rfl)⟩
theorem im_X9_note : Cond.instanceMethod yX9_note ∈ zW := (zT5 50 (by decide +kernel) rfl)
theorem se_X9_note : Cond.selects yX9_note.cls yX9_note yX9_note ∈ zW := (zT0 46 (by decide +kernel) rfl)
theorem lk_X9_260 : zLkV RX9 260 yX9_note cX9_note 7 none 5 := ⟨⟨lb_X9_note.1, lb_X9_note.2, ini_X9, Or.inl ml_X9_260⟩, im_X9_note, se_X9_note⟩
theorem ml_X9_264 : Cond.methodLink RX9 264 yX9_keep ∈ zW := (zT4 192 (by decide +kernel) rfl)
theorem lb_X9_keep : (yX9_keep.cls ≠ "java/lang/invoke/MethodHandle" ∧ yX9_keep.cls ≠ "java/lang/invoke/VarHandle" ∧ (parseMethodDescriptor yX9_keep.desc).map (fun d => d.parameters.length) = some 0) ∧ Cond.code yX9_keep cX9_keep 2 none ∈ zW := ⟨⟨by decide +kernel, by decide +kernel, by decide +kernel⟩, (zT4 195 rfl rfl)⟩
theorem im_X9_keep : Cond.instanceMethod yX9_keep ∈ zW := (zT4 194 (by decide +kernel) rfl)
theorem se_X9_keep : Cond.selects yX9_keep.cls yX9_keep yX9_keep ∈ zW := (zT0 22 (by decide +kernel) rfl)
theorem lk_X9_264 : zLkV RX9 264 yX9_keep cX9_keep 2 none 0 := ⟨⟨lb_X9_keep.1, lb_X9_keep.2, ini_X9, Or.inl ml_X9_264⟩, im_X9_keep, se_X9_keep⟩
theorem ml_X9_267 : Cond.methodLink RX9 267 yX9_act ∈ zW := (zT4 196 (by decide +kernel) rfl)
theorem lb_X9_act : (yX9_act.cls ≠ "java/lang/invoke/MethodHandle" ∧ yX9_act.cls ≠ "java/lang/invoke/VarHandle" ∧ (parseMethodDescriptor yX9_act.desc).map (fun d => d.parameters.length) = some 1) ∧ Cond.code yX9_act cX9_act 3 (some .int) ∈ zW := ⟨⟨by decide +kernel, by decide +kernel, by decide +kernel⟩, (zT4 199 rfl rfl)⟩
theorem im_X9_act : Cond.instanceMethod yX9_act ∈ zW := (zT4 198 (by decide +kernel) rfl)
theorem se_X9_act : Cond.selects yX9_act.cls yX9_act yX9_act ∈ zW := (zT0 23 (by decide +kernel) rfl)
theorem lk_X9_267 : zLkV RX9 267 yX9_act cX9_act 3 (some .int) 1 := ⟨⟨lb_X9_act.1, lb_X9_act.2, ini_X9, Or.inl ml_X9_267⟩, im_X9_act, se_X9_act⟩
theorem ml_X9_270 : Cond.methodLink RX9 270 yX9_goBack ∈ zW := (zT5 36 (by decide +kernel) rfl)
theorem lb_X9_goBack : (yX9_goBack.cls ≠ "java/lang/invoke/MethodHandle" ∧ yX9_goBack.cls ≠ "java/lang/invoke/VarHandle" ∧ (parseMethodDescriptor yX9_goBack.desc).map (fun d => d.parameters.length) = some 0) ∧ Cond.code yX9_goBack cX9_goBack 2 none ∈ zW := ⟨⟨by decide +kernel, by decide +kernel, by decide +kernel⟩, (zT5 39 rfl rfl)⟩
theorem im_X9_goBack : Cond.instanceMethod yX9_goBack ∈ zW := (zT5 38 (by decide +kernel) rfl)
theorem se_X9_goBack : Cond.selects yX9_goBack.cls yX9_goBack yX9_goBack ∈ zW := (zT0 43 (by decide +kernel) rfl)
theorem lk_X9_270 : zLkV RX9 270 yX9_goBack cX9_goBack 2 none 0 := ⟨⟨lb_X9_goBack.1, lb_X9_goBack.2, ini_X9, Or.inl ml_X9_270⟩, im_X9_goBack, se_X9_goBack⟩
theorem ml_X9_273 : Cond.methodLink RX9 273 yX9_noteAll ∈ zW := (zT5 40 (by decide +kernel) rfl)
theorem lb_X9_noteAll : (yX9_noteAll.cls ≠ "java/lang/invoke/MethodHandle" ∧ yX9_noteAll.cls ≠ "java/lang/invoke/VarHandle" ∧ (parseMethodDescriptor yX9_noteAll.desc).map (fun d => d.parameters.length) = some 0) ∧ Cond.code yX9_noteAll cX9_noteAll 2 none ∈ zW := ⟨⟨by decide +kernel, by decide +kernel, by decide +kernel⟩, (zT5 43 rfl rfl)⟩
theorem im_X9_noteAll : Cond.instanceMethod yX9_noteAll ∈ zW := (zT5 42 (by decide +kernel) rfl)
theorem se_X9_noteAll : Cond.selects yX9_noteAll.cls yX9_noteAll yX9_noteAll ∈ zW := (zT0 44 (by decide +kernel) rfl)
theorem lk_X9_273 : zLkV RX9 273 yX9_noteAll cX9_noteAll 2 none 0 := ⟨⟨lb_X9_noteAll.1, lb_X9_noteAll.2, ini_X9, Or.inl ml_X9_273⟩, im_X9_noteAll, se_X9_noteAll⟩
theorem ob_X0_3 : Cond.methodLink RX0 3 objectInit ∈ zW := (zT1 168 (by decide +kernel) rfl)
theorem fl_X0_9 : Cond.fieldLink RX0 9 (TX0 0).1 (TX0 0).2.1 (TX0 0).2.2.1 ∈ zW := (zT1 169 (by decide +kernel) rfl)
theorem fd_X0_9 : zFd RX0 9 0 0 := ⟨RX0, TX0, 4, rfl, by decide, inz_X0, Or.inl fl_X0_9⟩
theorem fp_X0_9 : zFp RX0 9 0 0 (.array .int) true := ⟨RX0, TX0, 4, tyX0, rfl, by decide, inz_X0, tyX0_ok, nmX0, rfl, rfl, Or.inl ⟨rfl, rfl, fl_X0_9⟩⟩
theorem fl_X0_15 : Cond.fieldLink RX0 15 (TX0 1).1 (TX0 1).2.1 (TX0 1).2.2.1 ∈ zW := (zT1 171 (by decide +kernel) rfl)
theorem fd_X0_15 : zFd RX0 15 0 1 := ⟨RX0, TX0, 4, rfl, by decide, inz_X0, Or.inl fl_X0_15⟩
theorem fp_X0_15 : zFp RX0 15 0 1 (.array .int) true := ⟨RX0, TX0, 4, tyX0, rfl, by decide, inz_X0, tyX0_ok, nmX0, rfl, rfl, Or.inl ⟨rfl, rfl, fl_X0_15⟩⟩
theorem fl_X0_18 : Cond.fieldLink RX0 18 (TX0 2).1 (TX0 2).2.1 (TX0 2).2.2.1 ∈ zW := (zT1 173 (by decide +kernel) rfl)
theorem fd_X0_18 : zFd RX0 18 0 2 := ⟨RX0, TX0, 4, rfl, by decide, inz_X0, Or.inl fl_X0_18⟩
theorem fp_X0_18 : zFp RX0 18 0 2 (.array .int) true := ⟨RX0, TX0, 4, tyX0, rfl, by decide, inz_X0, tyX0_ok, nmX0, rfl, rfl, Or.inl ⟨rfl, rfl, fl_X0_18⟩⟩
theorem fl_X0_21 : Cond.fieldLink RX0 21 (TX0 3).1 (TX0 3).2.1 (TX0 3).2.2.1 ∈ zW := (zT1 175 (by decide +kernel) rfl)
theorem fd_X0_21 : zFd RX0 21 0 3 := ⟨RX0, TX0, 4, rfl, by decide, inz_X0, Or.inl fl_X0_21⟩
theorem fp_X0_21 : zFp RX0 21 0 3 .int false := ⟨RX0, TX0, 4, tyX0, rfl, by decide, inz_X0, tyX0_ok, nmX0, rfl, rfl, Or.inr ⟨rfl, Or.inl fl_X0_21⟩⟩
theorem fl_X0_25 : Cond.fieldLinkNest RX0 25 (TX6 0).1 (TX6 0).2.1 (TX6 0).2.2.1 "UpdateSteps" ∈ zN := (zU1 72 (by decide +kernel) rfl)
theorem fd_X0_25 : zFd RX0 25 6 0 := ⟨RX6, TX6, 2, rfl, by decide, inz_X6, Or.inr ⟨"UpdateSteps", fl_X0_25⟩⟩
theorem ml_X0_31 : Cond.methodLink RX0 31 yX0_compareGraphs ∈ zW := (zT2 185 (by decide +kernel) rfl)
theorem lb_X0_compareGraphs : (yX0_compareGraphs.cls ≠ "java/lang/invoke/MethodHandle" ∧ yX0_compareGraphs.cls ≠ "java/lang/invoke/VarHandle" ∧ (parseMethodDescriptor yX0_compareGraphs.desc).map (fun d => d.parameters.length) = some 3) ∧ Cond.code yX0_compareGraphs cX0_compareGraphs 6 none ∈ zW := ⟨⟨by decide +kernel, by decide +kernel, by decide +kernel⟩, (zT2 188 rfl rfl)⟩
theorem im_X0_compareGraphs : Cond.instanceMethod yX0_compareGraphs ∈ zW := (zT2 187 (by decide +kernel) rfl)
theorem se_X0_compareGraphs : Cond.selects yX0_compareGraphs.cls yX0_compareGraphs yX0_compareGraphs ∈ zW := (zT0 15 (by decide +kernel) rfl)
theorem lk_X0_31 : zLkV RX0 31 yX0_compareGraphs cX0_compareGraphs 6 none 3 := ⟨⟨lb_X0_compareGraphs.1, lb_X0_compareGraphs.2, ini_X0, Or.inl ml_X0_31⟩, im_X0_compareGraphs, se_X0_compareGraphs⟩
theorem fl_X0_35 : Cond.fieldLinkNest RX0 35 (TX2 1).1 (TX2 1).2.1 (TX2 1).2.2.1 "UpdateSteps" ∈ zN := (zU1 55 (by decide +kernel) rfl)
theorem fd_X0_35 : zFd RX0 35 2 1 := ⟨RX2, TX2, 3, rfl, by decide, inz_X2, Or.inr ⟨"UpdateSteps", fl_X0_35⟩⟩
theorem fl_X0_40 : Cond.fieldLinkNest RX0 40 (TX2 0).1 (TX2 0).2.1 (TX2 0).2.2.1 "UpdateSteps" ∈ zN := (zU1 49 (by decide +kernel) rfl)
theorem fd_X0_40 : zFd RX0 40 2 0 := ⟨RX2, TX2, 3, rfl, by decide, inz_X2, Or.inr ⟨"UpdateSteps", fl_X0_40⟩⟩
theorem ml_X0_43 : Cond.methodLink RX0 43 yX0_note ∈ zW := (zT2 189 (by decide +kernel) rfl)
theorem lb_X0_note : (yX0_note.cls ≠ "java/lang/invoke/MethodHandle" ∧ yX0_note.cls ≠ "java/lang/invoke/VarHandle" ∧ (parseMethodDescriptor yX0_note.desc).map (fun d => d.parameters.length) = some 3) ∧ Cond.code yX0_note cX0_note 4 none ∈ zW := ⟨⟨by decide +kernel, by decide +kernel, by decide +kernel⟩, (zT2 192 rfl rfl)⟩
theorem im_X0_note : Cond.instanceMethod yX0_note ∈ zW := (zT2 191 (by decide +kernel) rfl)
theorem se_X0_note : Cond.selects yX0_note.cls yX0_note yX0_note ∈ zW := (zT0 16 (by decide +kernel) rfl)
theorem lk_X0_43 : zLkV RX0 43 yX0_note cX0_note 4 none 3 := ⟨⟨lb_X0_note.1, lb_X0_note.2, ini_X0, Or.inl ml_X0_43⟩, im_X0_note, se_X0_note⟩
theorem ob_X1_3 : Cond.methodLink RX1 3 objectInit ∈ zW := (zT1 111 (by decide +kernel) rfl)
theorem nw_X1_9 : zNw RX1 9 3 3 [.null, .int 0, .int 0] := ⟨RX3, TX3, tyX3, rfl, inz_X3, tyX3_ok, (zT1 112 (by decide +kernel) rfl), (zT1 113 (by decide +kernel) rfl), (zT1 7 (by decide +kernel) rfl), by decide +kernel⟩
theorem ml_X1_11 : Cond.methodLink RX1 11 yX3_init ∈ zW := (zT1 114 (by decide +kernel) rfl)
theorem lb_X3_init : (yX3_init.cls ≠ "java/lang/invoke/MethodHandle" ∧ yX3_init.cls ≠ "java/lang/invoke/VarHandle" ∧ (parseMethodDescriptor yX3_init.desc).map (fun d => d.parameters.length) = some 1) ∧ Cond.code yX3_init cX3_init 2 none ∈ zW := ⟨⟨by decide +kernel, by decide +kernel, by decide +kernel⟩, (zT1 116 rfl rfl)⟩
theorem im_X3_init : Cond.instanceMethod yX3_init ∈ zW := (zT1 115 (by decide +kernel) rfl)
theorem lk_X1_11 : zLkI RX1 11 yX3_init cX3_init 2 1 := ⟨⟨lb_X3_init.1, lb_X3_init.2, ini_X3, Or.inl ml_X1_11⟩, rfl, im_X3_init⟩
theorem fl_X1_14 : Cond.fieldLink RX1 14 (TX1 0).1 (TX1 0).2.1 (TX1 0).2.2.1 ∈ zW := (zT1 131 (by decide +kernel) rfl)
theorem fp_X1_14 : zFp RX1 14 1 0 (.object "UpdateSteps$Rows") true := ⟨RX1, TX1, 2, tyX1, rfl, by decide, inz_X1, tyX1_ok, nmX1, rfl, rfl, Or.inl ⟨rfl, rfl, fl_X1_14⟩⟩
theorem fl_X1_20 : Cond.fieldLink RX1 20 (TX1 1).1 (TX1 1).2.1 (TX1 1).2.2.1 ∈ zW := (zT1 134 (by decide +kernel) rfl)
theorem fp_X1_20 : zFp RX1 20 1 1 .boolean false := ⟨RX1, TX1, 2, tyX1, rfl, by decide, inz_X1, tyX1_ok, nmX1, rfl, rfl, Or.inr ⟨rfl, Or.inl fl_X1_20⟩⟩
theorem ob_X2_3 : Cond.methodLink RX2 3 objectInit ∈ zW := (zT1 47 (by decide +kernel) rfl)
theorem fl_X2_9 : Cond.fieldLink RX2 9 (TX2 0).1 (TX2 0).2.1 (TX2 0).2.2.1 ∈ zW := (zT1 48 (by decide +kernel) rfl)
theorem fd_X2_9 : zFd RX2 9 2 0 := ⟨RX2, TX2, 3, rfl, by decide, inz_X2, Or.inl fl_X2_9⟩
theorem fp_X2_9 : zFp RX2 9 2 0 (.array .int) true := ⟨RX2, TX2, 3, tyX2, rfl, by decide, inz_X2, tyX2_ok, nmX2, rfl, rfl, Or.inl ⟨rfl, rfl, fl_X2_9⟩⟩
theorem fl_X2_15 : Cond.fieldLink RX2 15 (TX2 1).1 (TX2 1).2.1 (TX2 1).2.2.1 ∈ zW := (zT1 53 (by decide +kernel) rfl)
theorem fd_X2_15 : zFd RX2 15 2 1 := ⟨RX2, TX2, 3, rfl, by decide, inz_X2, Or.inl fl_X2_15⟩
theorem fp_X2_15 : zFp RX2 15 2 1 .int false := ⟨RX2, TX2, 3, tyX2, rfl, by decide, inz_X2, tyX2_ok, nmX2, rfl, rfl, Or.inr ⟨rfl, Or.inl fl_X2_15⟩⟩
theorem fl_X2_19 : Cond.fieldLink RX2 19 (TX2 2).1 (TX2 2).2.1 (TX2 2).2.2.1 ∈ zW := (zT1 59 (by decide +kernel) rfl)
theorem fd_X2_19 : zFd RX2 19 2 2 := ⟨RX2, TX2, 3, rfl, by decide, inz_X2, Or.inl fl_X2_19⟩
theorem fp_X2_19 : zFp RX2 19 2 2 .boolean false := ⟨RX2, TX2, 3, tyX2, rfl, by decide, inz_X2, tyX2_ok, nmX2, rfl, rfl, Or.inr ⟨rfl, Or.inl fl_X2_19⟩⟩
theorem ml_X2_23 : Cond.methodLink RX2 23 yX2_placeOf ∈ zW := (zT2 66 (by decide +kernel) rfl)
theorem lb_X2_placeOf : (yX2_placeOf.cls ≠ "java/lang/invoke/MethodHandle" ∧ yX2_placeOf.cls ≠ "java/lang/invoke/VarHandle" ∧ (parseMethodDescriptor yX2_placeOf.desc).map (fun d => d.parameters.length) = some 1) ∧ Cond.code yX2_placeOf cX2_placeOf 5 (some .int) ∈ zW := ⟨⟨by decide +kernel, by decide +kernel, by decide +kernel⟩, (zT2 69 rfl rfl)⟩
theorem im_X2_placeOf : Cond.instanceMethod yX2_placeOf ∈ zW := (zT2 67 (by decide +kernel) rfl)
theorem se_X2_placeOf : Cond.selects yX2_placeOf.cls yX2_placeOf yX2_placeOf ∈ zW := (zT2 68 (by decide +kernel) rfl)
theorem lk_X2_23 : zLkV RX2 23 yX2_placeOf cX2_placeOf 5 (some .int) 1 := ⟨⟨lb_X2_placeOf.1, lb_X2_placeOf.2, ini_X2, Or.inl ml_X2_23⟩, im_X2_placeOf, se_X2_placeOf⟩
theorem ac_X2_27 : Cond.methodLink RX2 27 arraycopyName ∈ zW := (zT2 28 (by decide +kernel) rfl)
theorem ob_X3_1 : Cond.methodLink RX3 1 objectInit ∈ zW := (zT1 117 (by decide +kernel) rfl)
theorem fl_X3_7 : Cond.fieldLink RX3 7 (TX3 2).1 (TX3 2).2.1 (TX3 2).2.2.1 ∈ zW := (zT1 120 (by decide +kernel) rfl)
theorem fd_X3_7 : zFd RX3 7 3 2 := ⟨RX3, TX3, 3, rfl, by decide, inz_X3, Or.inl fl_X3_7⟩
theorem fp_X3_7 : zFp RX3 7 3 2 .int false := ⟨RX3, TX3, 3, tyX3, rfl, by decide, inz_X3, tyX3_ok, nmX3, rfl, rfl, Or.inr ⟨rfl, Or.inl fl_X3_7⟩⟩
theorem fl_X3_13 : Cond.fieldLink RX3 13 (TX3 1).1 (TX3 1).2.1 (TX3 1).2.2.1 ∈ zW := (zT1 119 (by decide +kernel) rfl)
theorem fd_X3_13 : zFd RX3 13 3 1 := ⟨RX3, TX3, 3, rfl, by decide, inz_X3, Or.inl fl_X3_13⟩
theorem fp_X3_13 : zFp RX3 13 3 1 .int true := ⟨RX3, TX3, 3, tyX3, rfl, by decide, inz_X3, tyX3_ok, nmX3, rfl, rfl, Or.inl ⟨rfl, rfl, fl_X3_13⟩⟩
theorem fl_X3_16 : Cond.fieldLink RX3 16 (TX3 0).1 (TX3 0).2.1 (TX3 0).2.2.1 ∈ zW := (zT1 118 (by decide +kernel) rfl)
theorem fd_X3_16 : zFd RX3 16 3 0 := ⟨RX3, TX3, 3, rfl, by decide, inz_X3, Or.inl fl_X3_16⟩
theorem fp_X3_16 : zFp RX3 16 3 0 (.array .int) true := ⟨RX3, TX3, 3, tyX3, rfl, by decide, inz_X3, tyX3_ok, nmX3, rfl, rfl, Or.inl ⟨rfl, rfl, fl_X3_16⟩⟩
theorem ml_X3_20 : Cond.methodLink RX3 20 yX3_isFull ∈ zW := (zT3 127 (by decide +kernel) rfl)
theorem lk_X3_20 : zLkV RX3 20 yX3_isFull cX3_isFull 1 (some .boolean) 0 := ⟨⟨lb_X3_isFull.1, lb_X3_isFull.2, ini_X3, Or.inl ml_X3_20⟩, im_X3_isFull, se_X3_isFull⟩
theorem ob_X4_3 : Cond.methodLink RX4 3 objectInit ∈ zW := (zT1 89 (by decide +kernel) rfl)
theorem fl_X4_11 : Cond.fieldLink RX4 11 (TX4 0).1 (TX4 0).2.1 (TX4 0).2.2.1 ∈ zW := (zT1 92 (by decide +kernel) rfl)
theorem fd_X4_11 : zFd RX4 11 4 0 := ⟨RX4, TX4, 4, rfl, by decide, inz_X4, Or.inl fl_X4_11⟩
theorem fp_X4_11 : zFp RX4 11 4 0 (.array (.array .int)) true := ⟨RX4, TX4, 4, tyX4, rfl, by decide, inz_X4, tyX4_ok, nmX4, rfl, rfl, Or.inl ⟨rfl, rfl, fl_X4_11⟩⟩
theorem fl_X4_16 : Cond.fieldLink RX4 16 (TX4 1).1 (TX4 1).2.1 (TX4 1).2.2.1 ∈ zW := (zT1 93 (by decide +kernel) rfl)
theorem fd_X4_16 : zFd RX4 16 4 1 := ⟨RX4, TX4, 4, rfl, by decide, inz_X4, Or.inl fl_X4_16⟩
theorem fp_X4_16 : zFp RX4 16 4 1 (.array .int) true := ⟨RX4, TX4, 4, tyX4, rfl, by decide, inz_X4, tyX4_ok, nmX4, rfl, rfl, Or.inl ⟨rfl, rfl, fl_X4_16⟩⟩
theorem fl_X4_20 : Cond.fieldLink RX4 20 (TX4 2).1 (TX4 2).2.1 (TX4 2).2.2.1 ∈ zW := (zT1 94 (by decide +kernel) rfl)
theorem fd_X4_20 : zFd RX4 20 4 2 := ⟨RX4, TX4, 4, rfl, by decide, inz_X4, Or.inl fl_X4_20⟩
theorem fp_X4_20 : zFp RX4 20 4 2 .int false := ⟨RX4, TX4, 4, tyX4, rfl, by decide, inz_X4, tyX4_ok, nmX4, rfl, rfl, Or.inr ⟨rfl, Or.inl fl_X4_20⟩⟩
theorem fl_X4_24 : Cond.fieldLink RX4 24 (TX4 3).1 (TX4 3).2.1 (TX4 3).2.2.1 ∈ zW := (zT1 96 (by decide +kernel) rfl)
theorem fd_X4_24 : zFd RX4 24 4 3 := ⟨RX4, TX4, 4, rfl, by decide, inz_X4, Or.inl fl_X4_24⟩
theorem fp_X4_24 : zFp RX4 24 4 3 .int false := ⟨RX4, TX4, 4, tyX4, rfl, by decide, inz_X4, tyX4_ok, nmX4, rfl, rfl, Or.inr ⟨rfl, Or.inl fl_X4_24⟩⟩
theorem ml_X4_27 : Cond.methodLink RX4 27 yJ7_fill_53178 ∈ zW := (zT2 107 (by decide +kernel) rfl)
theorem ini_J7 : Cond.initialized "java/util/Arrays" ∈ zW := (zT1 18 (by decide +kernel) rfl)
theorem lb_J7_fill_53178 : (yJ7_fill_53178.cls ≠ "java/lang/invoke/MethodHandle" ∧ yJ7_fill_53178.cls ≠ "java/lang/invoke/VarHandle" ∧ (parseMethodDescriptor yJ7_fill_53178.desc).map (fun d => d.parameters.length) = some 2) ∧ Cond.code yJ7_fill_53178 cJ7_fill_53178 4 none ∈ zW := ⟨⟨by decide +kernel, by decide +kernel, by decide +kernel⟩, (zT2 109 rfl rfl)⟩
theorem sm_J7_fill_53178 : Cond.static yJ7_fill_53178 ∈ zW := (zT2 108 (by decide +kernel) rfl)
theorem lk_X4_27 : zLkS RX4 27 yJ7_fill_53178 cJ7_fill_53178 4 none 2 := ⟨⟨lb_J7_fill_53178.1, lb_J7_fill_53178.2, ini_J7, Or.inl ml_X4_27⟩, sm_J7_fill_53178⟩
theorem ml_X4_33 : Cond.methodLink RX4 33 yX4_goOn ∈ zW := (zT2 110 (by decide +kernel) rfl)
theorem ini_X4 : Cond.initialized "UpdateSteps$Search" ∈ zW := (zT1 5 (by decide +kernel) rfl)
theorem lb_X4_goOn : (yX4_goOn.cls ≠ "java/lang/invoke/MethodHandle" ∧ yX4_goOn.cls ≠ "java/lang/invoke/VarHandle" ∧ (parseMethodDescriptor yX4_goOn.desc).map (fun d => d.parameters.length) = some 3) ∧ Cond.code yX4_goOn cX4_goOn 6 (some .boolean) ∈ zW := ⟨⟨by decide +kernel, by decide +kernel, by decide +kernel⟩, (zT2 113 rfl rfl)⟩
theorem im_X4_goOn : Cond.instanceMethod yX4_goOn ∈ zW := (zT2 112 (by decide +kernel) rfl)
theorem se_X4_goOn : Cond.selects yX4_goOn.cls yX4_goOn yX4_goOn ∈ zW := (zT0 6 (by decide +kernel) rfl)
theorem lk_X4_33 : zLkV RX4 33 yX4_goOn cX4_goOn 6 (some .boolean) 3 := ⟨⟨lb_X4_goOn.1, lb_X4_goOn.2, ini_X4, Or.inl ml_X4_33⟩, im_X4_goOn, se_X4_goOn⟩
theorem fl_X4_37 : Cond.fieldLinkNest RX4 37 (TX3 2).1 (TX3 2).2.1 (TX3 2).2.2.1 "UpdateSteps" ∈ zN := (zU1 122 (by decide +kernel) rfl)
theorem fd_X4_37 : zFd RX4 37 3 2 := ⟨RX3, TX3, 3, rfl, by decide, inz_X3, Or.inr ⟨"UpdateSteps", fl_X4_37⟩⟩
theorem ml_X4_42 : Cond.methodLink RX4 42 yX4_keep ∈ zW := (zT2 114 (by decide +kernel) rfl)
theorem lb_X4_keep : (yX4_keep.cls ≠ "java/lang/invoke/MethodHandle" ∧ yX4_keep.cls ≠ "java/lang/invoke/VarHandle" ∧ (parseMethodDescriptor yX4_keep.desc).map (fun d => d.parameters.length) = some 1) ∧ Cond.code yX4_keep cX4_keep 2 (some .boolean) ∈ zW := ⟨⟨by decide +kernel, by decide +kernel, by decide +kernel⟩, (zT2 117 rfl rfl)⟩
theorem im_X4_keep : Cond.instanceMethod yX4_keep ∈ zW := (zT2 116 (by decide +kernel) rfl)
theorem se_X4_keep : Cond.selects yX4_keep.cls yX4_keep yX4_keep ∈ zW := (zT0 7 (by decide +kernel) rfl)
theorem lk_X4_42 : zLkV RX4 42 yX4_keep cX4_keep 2 (some .boolean) 1 := ⟨⟨lb_X4_keep.1, lb_X4_keep.2, ini_X4, Or.inl ml_X4_42⟩, im_X4_keep, se_X4_keep⟩
theorem fl_X4_46 : Cond.fieldLinkNest RX4 46 (TX2 1).1 (TX2 1).2.1 (TX2 1).2.2.1 "UpdateSteps" ∈ zN := (zU1 57 (by decide +kernel) rfl)
theorem fd_X4_46 : zFd RX4 46 2 1 := ⟨RX2, TX2, 3, rfl, by decide, inz_X2, Or.inr ⟨"UpdateSteps", fl_X4_46⟩⟩
theorem fl_X4_51 : Cond.fieldLinkNest RX4 51 (TX2 0).1 (TX2 0).2.1 (TX2 0).2.2.1 "UpdateSteps" ∈ zN := (zU1 50 (by decide +kernel) rfl)
theorem fd_X4_51 : zFd RX4 51 2 0 := ⟨RX2, TX2, 3, rfl, by decide, inz_X2, Or.inr ⟨"UpdateSteps", fl_X4_51⟩⟩
theorem ml_X4_54 : Cond.methodLink RX4 54 yX4_holdAgainst ∈ zW := (zT2 119 (by decide +kernel) rfl)
theorem lb_X4_holdAgainst : (yX4_holdAgainst.cls ≠ "java/lang/invoke/MethodHandle" ∧ yX4_holdAgainst.cls ≠ "java/lang/invoke/VarHandle" ∧ (parseMethodDescriptor yX4_holdAgainst.desc).map (fun d => d.parameters.length) = some 4) ∧ Cond.code yX4_holdAgainst cX4_holdAgainst 5 (some .boolean) ∈ zW := ⟨⟨by decide +kernel, by decide +kernel, by decide +kernel⟩, (zT2 122 rfl rfl)⟩
theorem im_X4_holdAgainst : Cond.instanceMethod yX4_holdAgainst ∈ zW := (zT2 121 (by decide +kernel) rfl)
theorem se_X4_holdAgainst : Cond.selects yX4_holdAgainst.cls yX4_holdAgainst yX4_holdAgainst ∈ zW := (zT0 8 (by decide +kernel) rfl)
theorem lk_X4_54 : zLkV RX4 54 yX4_holdAgainst cX4_holdAgainst 5 (some .boolean) 4 := ⟨⟨lb_X4_holdAgainst.1, lb_X4_holdAgainst.2, ini_X4, Or.inl ml_X4_54⟩, im_X4_holdAgainst, se_X4_holdAgainst⟩
theorem ml_X4_58 : Cond.methodLink RX4 58 yX4_fits ∈ zW := (zT2 123 (by decide +kernel) rfl)
theorem lb_X4_fits : (yX4_fits.cls ≠ "java/lang/invoke/MethodHandle" ∧ yX4_fits.cls ≠ "java/lang/invoke/VarHandle" ∧ (parseMethodDescriptor yX4_fits.desc).map (fun d => d.parameters.length) = some 3) ∧ Cond.code yX4_fits cX4_fits 5 (some .boolean) ∈ zW := ⟨⟨by decide +kernel, by decide +kernel, by decide +kernel⟩, (zT2 126 rfl rfl)⟩
theorem im_X4_fits : Cond.instanceMethod yX4_fits ∈ zW := (zT2 125 (by decide +kernel) rfl)
theorem se_X4_fits : Cond.selects yX4_fits.cls yX4_fits yX4_fits ∈ zW := (zT0 9 (by decide +kernel) rfl)
theorem lk_X4_58 : zLkV RX4 58 yX4_fits cX4_fits 5 (some .boolean) 3 := ⟨⟨lb_X4_fits.1, lb_X4_fits.2, ini_X4, Or.inl ml_X4_58⟩, im_X4_fits, se_X4_fits⟩
theorem ac_X4_62 : Cond.methodLink RX4 62 arraycopyName ∈ zW := (zT2 118 (by decide +kernel) rfl)
theorem ml_X4_68 : Cond.methodLink RX4 68 yX3_subject ∈ zW := (zT2 127 (by decide +kernel) rfl)
theorem lb_X3_subject : (yX3_subject.cls ≠ "java/lang/invoke/MethodHandle" ∧ yX3_subject.cls ≠ "java/lang/invoke/VarHandle" ∧ (parseMethodDescriptor yX3_subject.desc).map (fun d => d.parameters.length) = some 1) ∧ Cond.code yX3_subject cX3_subject 2 (some .int) ∈ zW := ⟨⟨by decide +kernel, by decide +kernel, by decide +kernel⟩, (zT2 87 rfl rfl)⟩
theorem im_X3_subject : Cond.instanceMethod yX3_subject ∈ zW := (zT2 85 (by decide +kernel) rfl)
theorem se_X3_subject : Cond.selects yX3_subject.cls yX3_subject yX3_subject ∈ zW := (zT2 86 (by decide +kernel) rfl)
theorem lk_X4_68 : zLkV RX4 68 yX3_subject cX3_subject 2 (some .int) 1 := ⟨⟨lb_X3_subject.1, lb_X3_subject.2, ini_X3, Or.inl ml_X4_68⟩, im_X3_subject, se_X3_subject⟩
theorem lk_X4_72 : zLkS RX4 72 yX8_partOf cX8_partOf 2 (some .int) 2 := ⟨⟨lb_X8_partOf.1, lb_X8_partOf.2, ini_X8, Or.inr ⟨"UpdateSteps", (zU2 128 (by decide +kernel) rfl)⟩⟩, sm_X8_partOf⟩
theorem ml_X4_76 : Cond.methodLink RX4 76 yX4_agrees ∈ zW := (zT2 131 (by decide +kernel) rfl)
theorem lb_X4_agrees : (yX4_agrees.cls ≠ "java/lang/invoke/MethodHandle" ∧ yX4_agrees.cls ≠ "java/lang/invoke/VarHandle" ∧ (parseMethodDescriptor yX4_agrees.desc).map (fun d => d.parameters.length) = some 3) ∧ Cond.code yX4_agrees cX4_agrees 4 (some .boolean) ∈ zW := ⟨⟨by decide +kernel, by decide +kernel, by decide +kernel⟩, (zT2 133 rfl rfl)⟩
theorem sm_X4_agrees : Cond.static yX4_agrees ∈ zW := (zT2 132 (by decide +kernel) rfl)
theorem lk_X4_76 : zLkS RX4 76 yX4_agrees cX4_agrees 4 (some .boolean) 3 := ⟨⟨lb_X4_agrees.1, lb_X4_agrees.2, ini_X4, Or.inl ml_X4_76⟩, sm_X4_agrees⟩
theorem ml_X4_80 : Cond.methodLink RX4 80 yX3_property ∈ zW := (zT2 134 (by decide +kernel) rfl)
theorem lb_X3_property : (yX3_property.cls ≠ "java/lang/invoke/MethodHandle" ∧ yX3_property.cls ≠ "java/lang/invoke/VarHandle" ∧ (parseMethodDescriptor yX3_property.desc).map (fun d => d.parameters.length) = some 1) ∧ Cond.code yX3_property cX3_property 2 (some .int) ∈ zW := ⟨⟨by decide +kernel, by decide +kernel, by decide +kernel⟩, (zT2 91 rfl rfl)⟩
theorem im_X3_property : Cond.instanceMethod yX3_property ∈ zW := (zT2 89 (by decide +kernel) rfl)
theorem se_X3_property : Cond.selects yX3_property.cls yX3_property yX3_property ∈ zW := (zT2 90 (by decide +kernel) rfl)
theorem lk_X4_80 : zLkV RX4 80 yX3_property cX3_property 2 (some .int) 1 := ⟨⟨lb_X3_property.1, lb_X3_property.2, ini_X3, Or.inl ml_X4_80⟩, im_X3_property, se_X3_property⟩
theorem ml_X4_83 : Cond.methodLink RX4 83 yX3_object ∈ zW := (zT2 135 (by decide +kernel) rfl)
theorem lb_X3_object : (yX3_object.cls ≠ "java/lang/invoke/MethodHandle" ∧ yX3_object.cls ≠ "java/lang/invoke/VarHandle" ∧ (parseMethodDescriptor yX3_object.desc).map (fun d => d.parameters.length) = some 1) ∧ Cond.code yX3_object cX3_object 2 (some .int) ∈ zW := ⟨⟨by decide +kernel, by decide +kernel, by decide +kernel⟩, (zT2 95 rfl rfl)⟩
theorem im_X3_object : Cond.instanceMethod yX3_object ∈ zW := (zT2 93 (by decide +kernel) rfl)
theorem se_X3_object : Cond.selects yX3_object.cls yX3_object yX3_object ∈ zW := (zT2 94 (by decide +kernel) rfl)
theorem lk_X4_83 : zLkV RX4 83 yX3_object cX3_object 2 (some .int) 1 := ⟨⟨lb_X3_object.1, lb_X3_object.2, ini_X3, Or.inl ml_X4_83⟩, im_X3_object, se_X3_object⟩
theorem ob_X5_3 : Cond.methodLink RX5 3 objectInit ∈ zW := (zT1 190 (by decide +kernel) rfl)
theorem nw_X5_9 : zNw RX5 9 3 3 [.null, .int 0, .int 0] := ⟨RX3, TX3, tyX3, rfl, inz_X3, tyX3_ok, (zT1 191 (by decide +kernel) rfl), (zT1 113 (by decide +kernel) rfl), (zT1 7 (by decide +kernel) rfl), by decide +kernel⟩
theorem ml_X5_11 : Cond.methodLink RX5 11 yX3_init ∈ zW := (zT1 192 (by decide +kernel) rfl)
theorem lk_X5_11 : zLkI RX5 11 yX3_init cX3_init 2 1 := ⟨⟨lb_X3_init.1, lb_X3_init.2, ini_X3, Or.inl ml_X5_11⟩, rfl, im_X3_init⟩
theorem fl_X5_14 : Cond.fieldLink RX5 14 (TX5 0).1 (TX5 0).2.1 (TX5 0).2.2.1 ∈ zW := (zT1 193 (by decide +kernel) rfl)
theorem fd_X5_14 : zFd RX5 14 5 0 := ⟨RX5, TX5, 8, rfl, by decide, inz_X5, Or.inl fl_X5_14⟩
theorem fp_X5_14 : zFp RX5 14 5 0 (.object "UpdateSteps$Rows") true := ⟨RX5, TX5, 8, tyX5, rfl, by decide, inz_X5, tyX5_ok, nmX5, rfl, rfl, Or.inl ⟨rfl, rfl, fl_X5_14⟩⟩
theorem fl_X5_20 : Cond.fieldLink RX5 20 (TX5 1).1 (TX5 1).2.1 (TX5 1).2.2.1 ∈ zW := (zT1 196 (by decide +kernel) rfl)
theorem fd_X5_20 : zFd RX5 20 5 1 := ⟨RX5, TX5, 8, rfl, by decide, inz_X5, Or.inl fl_X5_20⟩
theorem fp_X5_20 : zFp RX5 20 5 1 (.array .boolean) true := ⟨RX5, TX5, 8, tyX5, rfl, by decide, inz_X5, tyX5_ok, nmX5, rfl, rfl, Or.inl ⟨rfl, rfl, fl_X5_20⟩⟩
theorem fl_X5_24 : Cond.fieldLink RX5 24 (TX5 2).1 (TX5 2).2.1 (TX5 2).2.2.1 ∈ zW := (zT1 198 (by decide +kernel) rfl)
theorem fd_X5_24 : zFd RX5 24 5 2 := ⟨RX5, TX5, 8, rfl, by decide, inz_X5, Or.inl fl_X5_24⟩
theorem fp_X5_24 : zFp RX5 24 5 2 (.object "UpdateSteps$Rows") true := ⟨RX5, TX5, 8, tyX5, rfl, by decide, inz_X5, tyX5_ok, nmX5, rfl, rfl, Or.inl ⟨rfl, rfl, fl_X5_24⟩⟩
theorem fl_X5_27 : Cond.fieldLink RX5 27 (TX5 3).1 (TX5 3).2.1 (TX5 3).2.2.1 ∈ zW := (zT1 201 (by decide +kernel) rfl)
theorem fp_X5_27 : zFp RX5 27 5 3 .int false := ⟨RX5, TX5, 8, tyX5, rfl, by decide, inz_X5, tyX5_ok, nmX5, rfl, rfl, Or.inr ⟨rfl, Or.inl fl_X5_27⟩⟩
theorem fl_X5_31 : Cond.fieldLink RX5 31 (TX5 4).1 (TX5 4).2.1 (TX5 4).2.2.1 ∈ zW := (zT1 204 (by decide +kernel) rfl)
theorem fp_X5_31 : zFp RX5 31 5 4 .int false := ⟨RX5, TX5, 8, tyX5, rfl, by decide, inz_X5, tyX5_ok, nmX5, rfl, rfl, Or.inr ⟨rfl, Or.inl fl_X5_31⟩⟩
theorem fl_X5_34 : Cond.fieldLink RX5 34 (TX5 5).1 (TX5 5).2.1 (TX5 5).2.2.1 ∈ zW := (zT1 206 (by decide +kernel) rfl)
theorem fp_X5_34 : zFp RX5 34 5 5 .int false := ⟨RX5, TX5, 8, tyX5, rfl, by decide, inz_X5, tyX5_ok, nmX5, rfl, rfl, Or.inr ⟨rfl, Or.inl fl_X5_34⟩⟩
theorem fl_X5_37 : Cond.fieldLink RX5 37 (TX5 6).1 (TX5 6).2.1 (TX5 6).2.2.1 ∈ zW := (zT1 208 (by decide +kernel) rfl)
theorem fp_X5_37 : zFp RX5 37 5 6 .boolean false := ⟨RX5, TX5, 8, tyX5, rfl, by decide, inz_X5, tyX5_ok, nmX5, rfl, rfl, Or.inr ⟨rfl, Or.inl fl_X5_37⟩⟩
theorem fl_X5_41 : Cond.fieldLink RX5 41 (TX5 7).1 (TX5 7).2.1 (TX5 7).2.2.1 ∈ zW := (zT1 210 (by decide +kernel) rfl)
theorem fp_X5_41 : zFp RX5 41 5 7 .int false := ⟨RX5, TX5, 8, tyX5, rfl, by decide, inz_X5, tyX5_ok, nmX5, rfl, rfl, Or.inr ⟨rfl, Or.inl fl_X5_41⟩⟩
theorem fl_X5_44 : Cond.fieldLinkNest RX5 44 (TX3 2).1 (TX3 2).2.1 (TX3 2).2.2.1 "UpdateSteps" ∈ zN := (zU1 121 (by decide +kernel) rfl)
theorem fd_X5_44 : zFd RX5 44 3 2 := ⟨RX3, TX3, 3, rfl, by decide, inz_X3, Or.inr ⟨"UpdateSteps", fl_X5_44⟩⟩
theorem fp_X5_44 : zFp RX5 44 3 2 .int false := ⟨RX3, TX3, 3, tyX3, rfl, by decide, inz_X3, tyX3_ok, nmX3, rfl, rfl, Or.inr ⟨rfl, Or.inr ⟨"UpdateSteps", fl_X5_44⟩⟩⟩
theorem ml_X5_47 : Cond.methodLink RX5 47 yX3_isFull ∈ zW := (zT3 122 (by decide +kernel) rfl)
theorem lk_X5_47 : zLkV RX5 47 yX3_isFull cX3_isFull 1 (some .boolean) 0 := ⟨⟨lb_X3_isFull.1, lb_X3_isFull.2, ini_X3, Or.inl ml_X5_47⟩, im_X3_isFull, se_X3_isFull⟩
theorem ml_X5_51 : Cond.methodLink RX5 51 yX3_append ∈ zW := (zT3 123 (by decide +kernel) rfl)
theorem lk_X5_51 : zLkV RX5 51 yX3_append cX3_append 4 (some .int) 3 := ⟨⟨lb_X3_append.1, lb_X3_append.2, ini_X3, Or.inl ml_X5_51⟩, im_X3_append, se_X3_append⟩
theorem ob_X6_3 : Cond.methodLink RX6 3 objectInit ∈ zW := (zT1 40 (by decide +kernel) rfl)
theorem an_X6_9 : Cond.classLink RX6 9 RX2 ∈ zW := (zT1 41 (by decide +kernel) rfl)
theorem fl_X6_11 : Cond.fieldLink RX6 11 (TX6 0).1 (TX6 0).2.1 (TX6 0).2.2.1 ∈ zW := (zT1 71 (by decide +kernel) rfl)
theorem fd_X6_11 : zFd RX6 11 6 0 := ⟨RX6, TX6, 2, rfl, by decide, inz_X6, Or.inl fl_X6_11⟩
theorem fp_X6_11 : zFp RX6 11 6 0 (.array (.object "UpdateSteps$Graph")) true := ⟨RX6, TX6, 2, tyX6, rfl, by decide, inz_X6, tyX6_ok, nmX6, rfl, rfl, Or.inl ⟨rfl, rfl, fl_X6_11⟩⟩
theorem fl_X6_17 : Cond.fieldLink RX6 17 (TX6 1).1 (TX6 1).2.1 (TX6 1).2.2.1 ∈ zW := (zT1 75 (by decide +kernel) rfl)
theorem fd_X6_17 : zFd RX6 17 6 1 := ⟨RX6, TX6, 2, rfl, by decide, inz_X6, Or.inl fl_X6_17⟩
theorem fp_X6_17 : zFp RX6 17 6 1 .int false := ⟨RX6, TX6, 2, tyX6, rfl, by decide, inz_X6, tyX6_ok, nmX6, rfl, rfl, Or.inr ⟨rfl, Or.inl fl_X6_17⟩⟩
theorem nw_X6_9 : zNw RX6 9 2 3 [.null, .int 0, .int 0] := ⟨RX2, TX2, tyX2, rfl, inz_X2, tyX2_ok, (zT1 41 (by decide +kernel) rfl), (zT1 43 (by decide +kernel) rfl), (zT1 4 (by decide +kernel) rfl), by decide +kernel⟩
theorem lb_X2_init : (yX2_init.cls ≠ "java/lang/invoke/MethodHandle" ∧ yX2_init.cls ≠ "java/lang/invoke/VarHandle" ∧ (parseMethodDescriptor yX2_init.desc).map (fun d => d.parameters.length) = some 0) ∧ Cond.code yX2_init cX2_init 1 none ∈ zW := ⟨⟨by decide +kernel, by decide +kernel, by decide +kernel⟩, (zT1 46 rfl rfl)⟩
theorem im_X2_init : Cond.instanceMethod yX2_init ∈ zW := (zT1 45 (by decide +kernel) rfl)
theorem lk_X6_21 : zLkI RX6 21 yX2_init cX2_init 1 0 := ⟨⟨lb_X2_init.1, lb_X2_init.2, ini_X2, Or.inr ⟨"UpdateSteps", (zU1 44 (by decide +kernel) rfl)⟩⟩, rfl, im_X2_init⟩
theorem fl_X6_22 : Cond.fieldLinkNest RX6 22 (TX2 2).1 (TX2 2).2.1 (TX2 2).2.2.1 "UpdateSteps" ∈ zN := (zU1 60 (by decide +kernel) rfl)
theorem fp_X6_22 : zFp RX6 22 2 2 .boolean false := ⟨RX2, TX2, 3, tyX2, rfl, by decide, inz_X2, tyX2_ok, nmX2, rfl, rfl, Or.inr ⟨rfl, Or.inr ⟨"UpdateSteps", fl_X6_22⟩⟩⟩
theorem fl_X6_26 : Cond.fieldLinkNest RX6 26 (TX2 1).1 (TX2 1).2.1 (TX2 1).2.2.1 "UpdateSteps" ∈ zN := (zU1 54 (by decide +kernel) rfl)
theorem fd_X6_26 : zFd RX6 26 2 1 := ⟨RX2, TX2, 3, rfl, by decide, inz_X2, Or.inr ⟨"UpdateSteps", fl_X6_26⟩⟩
theorem ml_X6_29 : Cond.methodLink RX6 29 yX2_holds ∈ zW := (zT2 62 (by decide +kernel) rfl)
theorem lk_X6_29 : zLkV RX6 29 yX2_holds cX2_holds 3 (some .boolean) 1 := ⟨⟨lb_X2_holds.1, lb_X2_holds.2, ini_X2, Or.inl ml_X6_29⟩, im_X2_holds, se_X2_holds⟩
theorem ml_X6_33 : Cond.methodLink RX6 33 yX6_factCount ∈ zW := (zT2 70 (by decide +kernel) rfl)
theorem lk_X6_33 : zLkV RX6 33 yX6_factCount cX6_factCount 3 (some .int) 0 := ⟨⟨lb_X6_factCount.1, lb_X6_factCount.2, ini_X6, Or.inl ml_X6_33⟩, im_X6_factCount, se_X6_factCount⟩
theorem ml_X6_37 : Cond.methodLink RX6 37 yX2_insert ∈ zW := (zT2 74 (by decide +kernel) rfl)
theorem lb_X2_insert : (yX2_insert.cls ≠ "java/lang/invoke/MethodHandle" ∧ yX2_insert.cls ≠ "java/lang/invoke/VarHandle" ∧ (parseMethodDescriptor yX2_insert.desc).map (fun d => d.parameters.length) = some 1) ∧ Cond.code yX2_insert cX2_insert 3 none ∈ zW := ⟨⟨by decide +kernel, by decide +kernel, by decide +kernel⟩, (zT2 77 rfl rfl)⟩
theorem im_X2_insert : Cond.instanceMethod yX2_insert ∈ zW := (zT2 75 (by decide +kernel) rfl)
theorem se_X2_insert : Cond.selects yX2_insert.cls yX2_insert yX2_insert ∈ zW := (zT2 76 (by decide +kernel) rfl)
theorem lk_X6_37 : zLkV RX6 37 yX2_insert cX2_insert 3 none 1 := ⟨⟨lb_X2_insert.1, lb_X2_insert.2, ini_X2, Or.inl ml_X6_37⟩, im_X2_insert, se_X2_insert⟩
theorem fp_X6_26 : zFp RX6 26 2 1 .int false := ⟨RX2, TX2, 3, tyX2, rfl, by decide, inz_X2, tyX2_ok, nmX2, rfl, rfl, Or.inr ⟨rfl, Or.inr ⟨"UpdateSteps", fl_X6_26⟩⟩⟩
theorem ml_X6_41 : Cond.methodLink RX6 41 yX2_become ∈ zW := (zT2 24 (by decide +kernel) rfl)
theorem lb_X2_become : (yX2_become.cls ≠ "java/lang/invoke/MethodHandle" ∧ yX2_become.cls ≠ "java/lang/invoke/VarHandle" ∧ (parseMethodDescriptor yX2_become.desc).map (fun d => d.parameters.length) = some 1) ∧ Cond.code yX2_become cX2_become 2 none ∈ zW := ⟨⟨by decide +kernel, by decide +kernel, by decide +kernel⟩, (zT2 27 rfl rfl)⟩
theorem im_X2_become : Cond.instanceMethod yX2_become ∈ zW := (zT2 25 (by decide +kernel) rfl)
theorem se_X2_become : Cond.selects yX2_become.cls yX2_become yX2_become ∈ zW := (zT2 26 (by decide +kernel) rfl)
theorem lk_X6_41 : zLkV RX6 41 yX2_become cX2_become 2 none 1 := ⟨⟨lb_X2_become.1, lb_X2_become.2, ini_X2, Or.inl ml_X6_41⟩, im_X2_become, se_X2_become⟩
theorem ob_X7_3 : Cond.methodLink RX7 3 objectInit ∈ zW := (zT1 34 (by decide +kernel) rfl)
theorem nw_X7_9 : zNw RX7 9 6 2 [.null, .int 0] := ⟨RX6, TX6, tyX6, rfl, inz_X6, tyX6_ok, (zT1 35 (by decide +kernel) rfl), (zT1 36 (by decide +kernel) rfl), (zT1 3 (by decide +kernel) rfl), by decide +kernel⟩
theorem ml_X7_11 : Cond.methodLink RX7 11 yX6_init ∈ zW := (zT1 37 (by decide +kernel) rfl)
theorem lk_X7_11 : zLkI RX7 11 yX6_init cX6_init 2 0 := ⟨⟨lb_X6_init.1, lb_X6_init.2, ini_X6, Or.inl ml_X7_11⟩, rfl, im_X6_init⟩
theorem fl_X7_12 : Cond.fieldLink RX7 12 (TX7 0).1 (TX7 0).2.1 (TX7 0).2.2.1 ∈ zW := (zT1 142 (by decide +kernel) rfl)
theorem fd_X7_12 : zFd RX7 12 7 0 := ⟨RX7, TX7, 5, rfl, by decide, inz_X7, Or.inl fl_X7_12⟩
theorem fp_X7_12 : zFp RX7 12 7 0 (.object "UpdateSteps$Store") true := ⟨RX7, TX7, 5, tyX7, rfl, by decide, inz_X7, tyX7_ok, nmX7, rfl, rfl, Or.inl ⟨rfl, rfl, fl_X7_12⟩⟩
theorem an_X7_18 : Cond.classLink RX7 18 RX1 ∈ zW := (zT1 82 (by decide +kernel) rfl)
theorem fl_X7_20 : Cond.fieldLink RX7 20 (TX7 1).1 (TX7 1).2.1 (TX7 1).2.2.1 ∈ zW := (zT1 144 (by decide +kernel) rfl)
theorem fd_X7_20 : zFd RX7 20 7 1 := ⟨RX7, TX7, 5, rfl, by decide, inz_X7, Or.inl fl_X7_20⟩
theorem fp_X7_20 : zFp RX7 20 7 1 (.array (.object "UpdateSteps$FileRows")) true := ⟨RX7, TX7, 5, tyX7, rfl, by decide, inz_X7, tyX7_ok, nmX7, rfl, rfl, Or.inl ⟨rfl, rfl, fl_X7_20⟩⟩
theorem nw_X7_24 : zNw RX7 24 4 4 [.null, .null, .int 0, .int 0] := ⟨RX4, TX4, tyX4, rfl, inz_X4, tyX4_ok, (zT1 84 (by decide +kernel) rfl), (zT1 85 (by decide +kernel) rfl), (zT1 5 (by decide +kernel) rfl), by decide +kernel⟩
theorem lb_X4_init : (yX4_init.cls ≠ "java/lang/invoke/MethodHandle" ∧ yX4_init.cls ≠ "java/lang/invoke/VarHandle" ∧ (parseMethodDescriptor yX4_init.desc).map (fun d => d.parameters.length) = some 0) ∧ Cond.code yX4_init cX4_init 1 none ∈ zW := ⟨⟨by decide +kernel, by decide +kernel, by decide +kernel⟩, (zT1 88 rfl rfl)⟩
theorem im_X4_init : Cond.instanceMethod yX4_init ∈ zW := (zT1 87 (by decide +kernel) rfl)
theorem lk_X7_26 : zLkI RX7 26 yX4_init cX4_init 1 0 := ⟨⟨lb_X4_init.1, lb_X4_init.2, ini_X4, Or.inr ⟨"UpdateSteps", (zU1 86 (by decide +kernel) rfl)⟩⟩, rfl, im_X4_init⟩
theorem fl_X7_27 : Cond.fieldLink RX7 27 (TX7 2).1 (TX7 2).2.1 (TX7 2).2.2.1 ∈ zW := (zT1 146 (by decide +kernel) rfl)
theorem fd_X7_27 : zFd RX7 27 7 2 := ⟨RX7, TX7, 5, rfl, by decide, inz_X7, Or.inl fl_X7_27⟩
theorem fp_X7_27 : zFp RX7 27 7 2 (.object "UpdateSteps$Search") true := ⟨RX7, TX7, 5, tyX7, rfl, by decide, inz_X7, tyX7_ok, nmX7, rfl, rfl, Or.inl ⟨rfl, rfl, fl_X7_27⟩⟩
theorem fl_X7_31 : Cond.fieldLink RX7 31 (TX7 3).1 (TX7 3).2.1 (TX7 3).2.2.1 ∈ zW := (zT1 147 (by decide +kernel) rfl)
theorem fd_X7_31 : zFd RX7 31 7 3 := ⟨RX7, TX7, 5, rfl, by decide, inz_X7, Or.inl fl_X7_31⟩
theorem fp_X7_31 : zFp RX7 31 7 3 (.array .int) true := ⟨RX7, TX7, 5, tyX7, rfl, by decide, inz_X7, tyX7_ok, nmX7, rfl, rfl, Or.inl ⟨rfl, rfl, fl_X7_31⟩⟩
theorem fl_X7_35 : Cond.fieldLink RX7 35 (TX7 4).1 (TX7 4).2.1 (TX7 4).2.2.1 ∈ zW := (zT1 148 (by decide +kernel) rfl)
theorem fd_X7_35 : zFd RX7 35 7 4 := ⟨RX7, TX7, 5, rfl, by decide, inz_X7, Or.inl fl_X7_35⟩
theorem fp_X7_35 : zFp RX7 35 7 4 .int false := ⟨RX7, TX7, 5, tyX7, rfl, by decide, inz_X7, tyX7_ok, nmX7, rfl, rfl, Or.inr ⟨rfl, Or.inl fl_X7_35⟩⟩
theorem nw_X7_18 : zNw RX7 18 1 2 [.null, .int 0] := ⟨RX1, TX1, tyX1, rfl, inz_X1, tyX1_ok, (zT1 82 (by decide +kernel) rfl), (zT1 107 (by decide +kernel) rfl), (zT1 6 (by decide +kernel) rfl), by decide +kernel⟩
theorem ini_X1 : Cond.initialized "UpdateSteps$FileRows" ∈ zW := (zT1 6 (by decide +kernel) rfl)
theorem lb_X1_init : (yX1_init.cls ≠ "java/lang/invoke/MethodHandle" ∧ yX1_init.cls ≠ "java/lang/invoke/VarHandle" ∧ (parseMethodDescriptor yX1_init.desc).map (fun d => d.parameters.length) = some 0) ∧ Cond.code yX1_init cX1_init 1 none ∈ zW := ⟨⟨by decide +kernel, by decide +kernel, by decide +kernel⟩, (zT1 110 rfl rfl)⟩
theorem im_X1_init : Cond.instanceMethod yX1_init ∈ zW := (zT1 109 (by decide +kernel) rfl)
theorem lk_X7_39 : zLkI RX7 39 yX1_init cX1_init 1 0 := ⟨⟨lb_X1_init.1, lb_X1_init.2, ini_X1, Or.inr ⟨"UpdateSteps", (zU1 108 (by decide +kernel) rfl)⟩⟩, rfl, im_X1_init⟩
theorem fl_X7_40 : Cond.fieldLinkNest RX7 40 (TX5 3).1 (TX5 3).2.1 (TX5 3).2.2.1 "UpdateSteps" ∈ zN := (zU1 202 (by decide +kernel) rfl)
theorem fd_X7_40 : zFd RX7 40 5 3 := ⟨RX5, TX5, 8, rfl, by decide, inz_X5, Or.inr ⟨"UpdateSteps", fl_X7_40⟩⟩
theorem ml_X7_45 : Cond.methodLink RX7 45 yX7_takeAllFacts ∈ zW := (zT2 35 (by decide +kernel) rfl)
theorem lb_X7_takeAllFacts : (yX7_takeAllFacts.cls ≠ "java/lang/invoke/MethodHandle" ∧ yX7_takeAllFacts.cls ≠ "java/lang/invoke/VarHandle" ∧ (parseMethodDescriptor yX7_takeAllFacts.desc).map (fun d => d.parameters.length) = some 1) ∧ Cond.code yX7_takeAllFacts cX7_takeAllFacts 6 (some .int) ∈ zW := ⟨⟨by decide +kernel, by decide +kernel, by decide +kernel⟩, (zT2 38 rfl rfl)⟩
theorem im_X7_takeAllFacts : Cond.instanceMethod yX7_takeAllFacts ∈ zW := (zT2 37 (by decide +kernel) rfl)
theorem se_X7_takeAllFacts : Cond.selects yX7_takeAllFacts.cls yX7_takeAllFacts yX7_takeAllFacts ∈ zW := (zT0 0 (by decide +kernel) rfl)
theorem lk_X7_45 : zLkV RX7 45 yX7_takeAllFacts cX7_takeAllFacts 6 (some .int) 1 := ⟨⟨lb_X7_takeAllFacts.1, lb_X7_takeAllFacts.2, ini_X7, Or.inl ml_X7_45⟩, im_X7_takeAllFacts, se_X7_takeAllFacts⟩
theorem ml_X7_49 : Cond.methodLink RX7 49 yX7_makeGraph ∈ zW := (zT2 46 (by decide +kernel) rfl)
theorem lb_X7_makeGraph : (yX7_makeGraph.cls ≠ "java/lang/invoke/MethodHandle" ∧ yX7_makeGraph.cls ≠ "java/lang/invoke/VarHandle" ∧ (parseMethodDescriptor yX7_makeGraph.desc).map (fun d => d.parameters.length) = some 1) ∧ Cond.code yX7_makeGraph cX7_makeGraph 3 (some .int) ∈ zW := ⟨⟨by decide +kernel, by decide +kernel, by decide +kernel⟩, (zT2 49 rfl rfl)⟩
theorem im_X7_makeGraph : Cond.instanceMethod yX7_makeGraph ∈ zW := (zT2 48 (by decide +kernel) rfl)
theorem se_X7_makeGraph : Cond.selects yX7_makeGraph.cls yX7_makeGraph yX7_makeGraph ∈ zW := (zT0 1 (by decide +kernel) rfl)
theorem lk_X7_49 : zLkV RX7 49 yX7_makeGraph cX7_makeGraph 3 (some .int) 1 := ⟨⟨lb_X7_makeGraph.1, lb_X7_makeGraph.2, ini_X7, Or.inl ml_X7_49⟩, im_X7_makeGraph, se_X7_makeGraph⟩
theorem ml_X7_52 : Cond.methodLink RX7 52 yX7_bringGraph ∈ zW := (zT2 50 (by decide +kernel) rfl)
theorem lb_X7_bringGraph : (yX7_bringGraph.cls ≠ "java/lang/invoke/MethodHandle" ∧ yX7_bringGraph.cls ≠ "java/lang/invoke/VarHandle" ∧ (parseMethodDescriptor yX7_bringGraph.desc).map (fun d => d.parameters.length) = some 1) ∧ Cond.code yX7_bringGraph cX7_bringGraph 4 (some .int) ∈ zW := ⟨⟨by decide +kernel, by decide +kernel, by decide +kernel⟩, (zT2 53 rfl rfl)⟩
theorem im_X7_bringGraph : Cond.instanceMethod yX7_bringGraph ∈ zW := (zT2 52 (by decide +kernel) rfl)
theorem se_X7_bringGraph : Cond.selects yX7_bringGraph.cls yX7_bringGraph yX7_bringGraph ∈ zW := (zT0 2 (by decide +kernel) rfl)
theorem lk_X7_52 : zLkV RX7 52 yX7_bringGraph cX7_bringGraph 4 (some .int) 1 := ⟨⟨lb_X7_bringGraph.1, lb_X7_bringGraph.2, ini_X7, Or.inl ml_X7_52⟩, im_X7_bringGraph, se_X7_bringGraph⟩
theorem ml_X7_55 : Cond.methodLink RX7 55 yX7_readFile ∈ zW := (zT2 80 (by decide +kernel) rfl)
theorem lb_X7_readFile : (yX7_readFile.cls ≠ "java/lang/invoke/MethodHandle" ∧ yX7_readFile.cls ≠ "java/lang/invoke/VarHandle" ∧ (parseMethodDescriptor yX7_readFile.desc).map (fun d => d.parameters.length) = some 1) ∧ Cond.code yX7_readFile cX7_readFile 5 (some .int) ∈ zW := ⟨⟨by decide +kernel, by decide +kernel, by decide +kernel⟩, (zT2 83 rfl rfl)⟩
theorem im_X7_readFile : Cond.instanceMethod yX7_readFile ∈ zW := (zT2 82 (by decide +kernel) rfl)
theorem se_X7_readFile : Cond.selects yX7_readFile.cls yX7_readFile yX7_readFile ∈ zW := (zT0 4 (by decide +kernel) rfl)
theorem lk_X7_55 : zLkV RX7 55 yX7_readFile cX7_readFile 5 (some .int) 1 := ⟨⟨lb_X7_readFile.1, lb_X7_readFile.2, ini_X7, Or.inl ml_X7_55⟩, im_X7_readFile, se_X7_readFile⟩
theorem ml_X7_58 : Cond.methodLink RX7 58 yX7_rewrite ∈ zW := (zT2 99 (by decide +kernel) rfl)
theorem lb_X7_rewrite : (yX7_rewrite.cls ≠ "java/lang/invoke/MethodHandle" ∧ yX7_rewrite.cls ≠ "java/lang/invoke/VarHandle" ∧ (parseMethodDescriptor yX7_rewrite.desc).map (fun d => d.parameters.length) = some 1) ∧ Cond.code yX7_rewrite cX7_rewrite 4 (some .int) ∈ zW := ⟨⟨by decide +kernel, by decide +kernel, by decide +kernel⟩, (zT2 102 rfl rfl)⟩
theorem im_X7_rewrite : Cond.instanceMethod yX7_rewrite ∈ zW := (zT2 101 (by decide +kernel) rfl)
theorem se_X7_rewrite : Cond.selects yX7_rewrite.cls yX7_rewrite yX7_rewrite ∈ zW := (zT0 5 (by decide +kernel) rfl)
theorem lk_X7_58 : zLkV RX7 58 yX7_rewrite cX7_rewrite 4 (some .int) 1 := ⟨⟨lb_X7_rewrite.1, lb_X7_rewrite.2, ini_X7, Or.inl ml_X7_58⟩, im_X7_rewrite, se_X7_rewrite⟩
theorem fl_X7_61 : Cond.fieldLinkNest RX7 61 (TX5 5).1 (TX5 5).2.1 (TX5 5).2.2.1 "UpdateSteps" ∈ zN := (zU1 207 (by decide +kernel) rfl)
theorem fd_X7_61 : zFd RX7 61 5 5 := ⟨RX5, TX5, 8, rfl, by decide, inz_X5, Or.inr ⟨"UpdateSteps", fl_X7_61⟩⟩
theorem lk_X7_64 : zLkS RX7 64 yX8_isGraph cX8_isGraph 1 (some .boolean) 1 := ⟨⟨lb_X8_isGraph.1, lb_X8_isGraph.2, ini_X8, Or.inr ⟨"UpdateSteps", (zU2 39 (by decide +kernel) rfl)⟩⟩, sm_X8_isGraph⟩
theorem fl_X7_68 : Cond.fieldLinkNest RX7 68 (TX6 0).1 (TX6 0).2.1 (TX6 0).2.2.1 "UpdateSteps" ∈ zN := (zU1 73 (by decide +kernel) rfl)
theorem fd_X7_68 : zFd RX7 68 6 0 := ⟨RX6, TX6, 2, rfl, by decide, inz_X6, Or.inr ⟨"UpdateSteps", fl_X7_68⟩⟩
theorem fl_X7_72 : Cond.fieldLinkNest RX7 72 (TX2 2).1 (TX2 2).2.1 (TX2 2).2.2.1 "UpdateSteps" ∈ zN := (zU1 61 (by decide +kernel) rfl)
theorem fd_X7_72 : zFd RX7 72 2 2 := ⟨RX2, TX2, 3, rfl, by decide, inz_X2, Or.inr ⟨"UpdateSteps", fl_X7_72⟩⟩
theorem ml_X7_78 : Cond.methodLink RX7 78 yX6_drop ∈ zW := (zT2 42 (by decide +kernel) rfl)
theorem lb_X6_drop : (yX6_drop.cls ≠ "java/lang/invoke/MethodHandle" ∧ yX6_drop.cls ≠ "java/lang/invoke/VarHandle" ∧ (parseMethodDescriptor yX6_drop.desc).map (fun d => d.parameters.length) = some 1) ∧ Cond.code yX6_drop cX6_drop 2 none ∈ zW := ⟨⟨by decide +kernel, by decide +kernel, by decide +kernel⟩, (zT2 45 rfl rfl)⟩
theorem im_X6_drop : Cond.instanceMethod yX6_drop ∈ zW := (zT2 43 (by decide +kernel) rfl)
theorem se_X6_drop : Cond.selects yX6_drop.cls yX6_drop yX6_drop ∈ zW := (zT2 44 (by decide +kernel) rfl)
theorem lk_X7_78 : zLkV RX7 78 yX6_drop cX6_drop 2 none 1 := ⟨⟨lb_X6_drop.1, lb_X6_drop.2, ini_X6, Or.inl ml_X7_78⟩, im_X6_drop, se_X6_drop⟩
theorem fl_X7_82 : Cond.fieldLinkNest RX7 82 (TX2 1).1 (TX2 1).2.1 (TX2 1).2.2.1 "UpdateSteps" ∈ zN := (zU1 56 (by decide +kernel) rfl)
theorem fd_X7_82 : zFd RX7 82 2 1 := ⟨RX2, TX2, 3, rfl, by decide, inz_X2, Or.inr ⟨"UpdateSteps", fl_X7_82⟩⟩
theorem fp_X7_82 : zFp RX7 82 2 1 .int false := ⟨RX2, TX2, 3, tyX2, rfl, by decide, inz_X2, tyX2_ok, nmX2, rfl, rfl, Or.inr ⟨rfl, Or.inr ⟨"UpdateSteps", fl_X7_82⟩⟩⟩
theorem fp_X7_72 : zFp RX7 72 2 2 .boolean false := ⟨RX2, TX2, 3, tyX2, rfl, by decide, inz_X2, tyX2_ok, nmX2, rfl, rfl, Or.inr ⟨rfl, Or.inr ⟨"UpdateSteps", fl_X7_72⟩⟩⟩
theorem fl_X7_85 : Cond.fieldLinkNest RX7 85 (TX5 4).1 (TX5 4).2.1 (TX5 4).2.2.1 "UpdateSteps" ∈ zN := (zU1 205 (by decide +kernel) rfl)
theorem fd_X7_85 : zFd RX7 85 5 4 := ⟨RX5, TX5, 8, rfl, by decide, inz_X5, Or.inr ⟨"UpdateSteps", fl_X7_85⟩⟩
theorem ml_X7_88 : Cond.methodLink RX7 88 yX7_addGraph ∈ zW := (zT2 54 (by decide +kernel) rfl)
theorem lb_X7_addGraph : (yX7_addGraph.cls ≠ "java/lang/invoke/MethodHandle" ∧ yX7_addGraph.cls ≠ "java/lang/invoke/VarHandle" ∧ (parseMethodDescriptor yX7_addGraph.desc).map (fun d => d.parameters.length) = some 2) ∧ Cond.code yX7_addGraph cX7_addGraph 4 (some .int) ∈ zW := ⟨⟨by decide +kernel, by decide +kernel, by decide +kernel⟩, (zT2 57 rfl rfl)⟩
theorem im_X7_addGraph : Cond.instanceMethod yX7_addGraph ∈ zW := (zT2 56 (by decide +kernel) rfl)
theorem se_X7_addGraph : Cond.selects yX7_addGraph.cls yX7_addGraph yX7_addGraph ∈ zW := (zT0 3 (by decide +kernel) rfl)
theorem lk_X7_88 : zLkV RX7 88 yX7_addGraph cX7_addGraph 4 (some .int) 2 := ⟨⟨lb_X7_addGraph.1, lb_X7_addGraph.2, ini_X7, Or.inl ml_X7_88⟩, im_X7_addGraph, se_X7_addGraph⟩
theorem ml_X7_92 : Cond.methodLink RX7 92 yX6_factCount ∈ zW := (zT2 78 (by decide +kernel) rfl)
theorem lk_X7_92 : zLkV RX7 92 yX6_factCount cX6_factCount 3 (some .int) 0 := ⟨⟨lb_X6_factCount.1, lb_X6_factCount.2, ini_X6, Or.inl ml_X7_92⟩, im_X6_factCount, se_X6_factCount⟩
theorem ml_X7_96 : Cond.methodLink RX7 96 yX2_become ∈ zW := (zT2 79 (by decide +kernel) rfl)
theorem lk_X7_96 : zLkV RX7 96 yX2_become cX2_become 2 none 1 := ⟨⟨lb_X2_become.1, lb_X2_become.2, ini_X2, Or.inl ml_X7_96⟩, im_X2_become, se_X2_become⟩
theorem fl_X7_100 : Cond.fieldLinkNest RX7 100 (TX2 0).1 (TX2 0).2.1 (TX2 0).2.2.1 "UpdateSteps" ∈ zN := (zU1 51 (by decide +kernel) rfl)
theorem fd_X7_100 : zFd RX7 100 2 0 := ⟨RX2, TX2, 3, rfl, by decide, inz_X2, Or.inr ⟨"UpdateSteps", fl_X7_100⟩⟩
theorem ml_X7_103 : Cond.methodLink RX7 103 yX6_put ∈ zW := (zT2 58 (by decide +kernel) rfl)
theorem lb_X6_put : (yX6_put.cls ≠ "java/lang/invoke/MethodHandle" ∧ yX6_put.cls ≠ "java/lang/invoke/VarHandle" ∧ (parseMethodDescriptor yX6_put.desc).map (fun d => d.parameters.length) = some 2) ∧ Cond.code yX6_put cX6_put 3 (some .boolean) ∈ zW := ⟨⟨by decide +kernel, by decide +kernel, by decide +kernel⟩, (zT2 61 rfl rfl)⟩
theorem im_X6_put : Cond.instanceMethod yX6_put ∈ zW := (zT2 59 (by decide +kernel) rfl)
theorem se_X6_put : Cond.selects yX6_put.cls yX6_put yX6_put ∈ zW := (zT2 60 (by decide +kernel) rfl)
theorem lk_X7_103 : zLkV RX7 103 yX6_put cX6_put 3 (some .boolean) 2 := ⟨⟨lb_X6_put.1, lb_X6_put.2, ini_X6, Or.inl ml_X7_103⟩, im_X6_put, se_X6_put⟩
theorem fl_X7_107 : Cond.fieldLinkNest RX7 107 (TX1 1).1 (TX1 1).2.1 (TX1 1).2.2.1 "UpdateSteps" ∈ zN := (zU1 136 (by decide +kernel) rfl)
theorem fd_X7_107 : zFd RX7 107 1 1 := ⟨RX1, TX1, 2, rfl, by decide, inz_X1, Or.inr ⟨"UpdateSteps", fl_X7_107⟩⟩
theorem fl_X7_110 : Cond.fieldLinkNest RX7 110 (TX1 0).1 (TX1 0).2.1 (TX1 0).2.2.1 "UpdateSteps" ∈ zN := (zU1 133 (by decide +kernel) rfl)
theorem fd_X7_110 : zFd RX7 110 1 0 := ⟨RX1, TX1, 2, rfl, by decide, inz_X1, Or.inr ⟨"UpdateSteps", fl_X7_110⟩⟩
theorem fl_X7_114 : Cond.fieldLinkNest RX7 114 (TX3 2).1 (TX3 2).2.1 (TX3 2).2.2.1 "UpdateSteps" ∈ zN := (zU1 123 (by decide +kernel) rfl)
theorem fd_X7_114 : zFd RX7 114 3 2 := ⟨RX3, TX3, 3, rfl, by decide, inz_X3, Or.inr ⟨"UpdateSteps", fl_X7_114⟩⟩
theorem ml_X7_119 : Cond.methodLink RX7 119 yX3_subject ∈ zW := (zT2 84 (by decide +kernel) rfl)
theorem lk_X7_119 : zLkV RX7 119 yX3_subject cX3_subject 2 (some .int) 1 := ⟨⟨lb_X3_subject.1, lb_X3_subject.2, ini_X3, Or.inl ml_X7_119⟩, im_X3_subject, se_X3_subject⟩
theorem ml_X7_123 : Cond.methodLink RX7 123 yX3_property ∈ zW := (zT2 88 (by decide +kernel) rfl)
theorem lk_X7_123 : zLkV RX7 123 yX3_property cX3_property 2 (some .int) 1 := ⟨⟨lb_X3_property.1, lb_X3_property.2, ini_X3, Or.inl ml_X7_123⟩, im_X3_property, se_X3_property⟩
theorem ml_X7_126 : Cond.methodLink RX7 126 yX3_object ∈ zW := (zT2 92 (by decide +kernel) rfl)
theorem lk_X7_126 : zLkV RX7 126 yX3_object cX3_object 2 (some .int) 1 := ⟨⟨lb_X3_object.1, lb_X3_object.2, ini_X3, Or.inl ml_X7_126⟩, im_X3_object, se_X3_object⟩
theorem lk_X7_129 : zLkS RX7 129 yX8_factOf cX8_factOf 3 (some .int) 3 := ⟨⟨lb_X8_factOf.1, lb_X8_factOf.2, ini_X8, Or.inr ⟨"UpdateSteps", (zU2 96 (by decide +kernel) rfl)⟩⟩, sm_X8_factOf⟩
theorem fl_X7_133 : Cond.fieldLinkNest RX7 133 (TX5 2).1 (TX5 2).2.1 (TX5 2).2.2.1 "UpdateSteps" ∈ zN := (zU1 200 (by decide +kernel) rfl)
theorem fd_X7_133 : zFd RX7 133 5 2 := ⟨RX5, TX5, 8, rfl, by decide, inz_X5, Or.inr ⟨"UpdateSteps", fl_X7_133⟩⟩
theorem ml_X7_136 : Cond.methodLink RX7 136 yX4_find ∈ zW := (zT2 103 (by decide +kernel) rfl)
theorem lb_X4_find : (yX4_find.cls ≠ "java/lang/invoke/MethodHandle" ∧ yX4_find.cls ≠ "java/lang/invoke/VarHandle" ∧ (parseMethodDescriptor yX4_find.desc).map (fun d => d.parameters.length) = some 2) ∧ Cond.code yX4_find cX4_find 3 (some .boolean) ∈ zW := ⟨⟨by decide +kernel, by decide +kernel, by decide +kernel⟩, (zT2 106 rfl rfl)⟩
theorem im_X4_find : Cond.instanceMethod yX4_find ∈ zW := (zT2 104 (by decide +kernel) rfl)
theorem se_X4_find : Cond.selects yX4_find.cls yX4_find yX4_find ∈ zW := (zT2 105 (by decide +kernel) rfl)
theorem lk_X7_136 : zLkV RX7 136 yX4_find cX4_find 3 (some .boolean) 2 := ⟨⟨lb_X4_find.1, lb_X4_find.2, ini_X4, Or.inl ml_X7_136⟩, im_X4_find, se_X4_find⟩
theorem fl_X7_140 : Cond.fieldLinkNest RX7 140 (TX4 3).1 (TX4 3).2.1 (TX4 3).2.2.1 "UpdateSteps" ∈ zN := (zU1 97 (by decide +kernel) rfl)
theorem fd_X7_140 : zFd RX7 140 4 3 := ⟨RX4, TX4, 4, rfl, by decide, inz_X4, Or.inr ⟨"UpdateSteps", fl_X7_140⟩⟩
theorem fl_X7_141 : Cond.fieldLinkNest RX7 141 (TX4 2).1 (TX4 2).2.1 (TX4 2).2.2.1 "UpdateSteps" ∈ zN := (zU1 95 (by decide +kernel) rfl)
theorem fd_X7_141 : zFd RX7 141 4 2 := ⟨RX4, TX4, 4, rfl, by decide, inz_X4, Or.inr ⟨"UpdateSteps", fl_X7_141⟩⟩
theorem fl_X7_144 : Cond.fieldLinkNest RX7 144 (TX5 7).1 (TX5 7).2.1 (TX5 7).2.2.1 "UpdateSteps" ∈ zN := (zU1 212 (by decide +kernel) rfl)
theorem fp_X7_144 : zFp RX7 144 5 7 .int false := ⟨RX5, TX5, 8, tyX5, rfl, by decide, inz_X5, tyX5_ok, nmX5, rfl, rfl, Or.inr ⟨rfl, Or.inr ⟨"UpdateSteps", fl_X7_144⟩⟩⟩
theorem ml_X7_145 : Cond.methodLink RX7 145 yX7_takeAwayFor ∈ zW := (zT2 136 (by decide +kernel) rfl)
theorem lb_X7_takeAwayFor : (yX7_takeAwayFor.cls ≠ "java/lang/invoke/MethodHandle" ∧ yX7_takeAwayFor.cls ≠ "java/lang/invoke/VarHandle" ∧ (parseMethodDescriptor yX7_takeAwayFor.desc).map (fun d => d.parameters.length) = some 2) ∧ Cond.code yX7_takeAwayFor cX7_takeAwayFor 4 none ∈ zW := ⟨⟨by decide +kernel, by decide +kernel, by decide +kernel⟩, (zT2 139 rfl rfl)⟩
theorem im_X7_takeAwayFor : Cond.instanceMethod yX7_takeAwayFor ∈ zW := (zT2 138 (by decide +kernel) rfl)
theorem se_X7_takeAwayFor : Cond.selects yX7_takeAwayFor.cls yX7_takeAwayFor yX7_takeAwayFor ∈ zW := (zT0 10 (by decide +kernel) rfl)
theorem lk_X7_145 : zLkV RX7 145 yX7_takeAwayFor cX7_takeAwayFor 4 none 2 := ⟨⟨lb_X7_takeAwayFor.1, lb_X7_takeAwayFor.2, ini_X7, Or.inl ml_X7_145⟩, im_X7_takeAwayFor, se_X7_takeAwayFor⟩
theorem ml_X7_149 : Cond.methodLink RX7 149 yX7_addFor ∈ zW := (zT2 173 (by decide +kernel) rfl)
theorem lb_X7_addFor : (yX7_addFor.cls ≠ "java/lang/invoke/MethodHandle" ∧ yX7_addFor.cls ≠ "java/lang/invoke/VarHandle" ∧ (parseMethodDescriptor yX7_addFor.desc).map (fun d => d.parameters.length) = some 2) ∧ Cond.code yX7_addFor cX7_addFor 5 (some .boolean) ∈ zW := ⟨⟨by decide +kernel, by decide +kernel, by decide +kernel⟩, (zT2 176 rfl rfl)⟩
theorem im_X7_addFor : Cond.instanceMethod yX7_addFor ∈ zW := (zT2 175 (by decide +kernel) rfl)
theorem se_X7_addFor : Cond.selects yX7_addFor.cls yX7_addFor yX7_addFor ∈ zW := (zT0 14 (by decide +kernel) rfl)
theorem lk_X7_149 : zLkV RX7 149 yX7_addFor cX7_addFor 5 (some .boolean) 2 := ⟨⟨lb_X7_addFor.1, lb_X7_addFor.2, ini_X7, Or.inl ml_X7_149⟩, im_X7_addFor, se_X7_addFor⟩
theorem fl_X7_153 : Cond.fieldLinkNest RX7 153 (TX5 0).1 (TX5 0).2.1 (TX5 0).2.2.1 "UpdateSteps" ∈ zN := (zU1 195 (by decide +kernel) rfl)
theorem fd_X7_153 : zFd RX7 153 5 0 := ⟨RX5, TX5, 8, rfl, by decide, inz_X5, Or.inr ⟨"UpdateSteps", fl_X7_153⟩⟩
theorem fl_X7_156 : Cond.fieldLinkNest RX7 156 (TX5 1).1 (TX5 1).2.1 (TX5 1).2.2.1 "UpdateSteps" ∈ zN := (zU1 197 (by decide +kernel) rfl)
theorem fd_X7_156 : zFd RX7 156 5 1 := ⟨RX5, TX5, 8, rfl, by decide, inz_X5, Or.inr ⟨"UpdateSteps", fl_X7_156⟩⟩
theorem ml_X7_160 : Cond.methodLink RX7 160 yX7_applyRow ∈ zW := (zT2 140 (by decide +kernel) rfl)
theorem lb_X7_applyRow : (yX7_applyRow.cls ≠ "java/lang/invoke/MethodHandle" ∧ yX7_applyRow.cls ≠ "java/lang/invoke/VarHandle" ∧ (parseMethodDescriptor yX7_applyRow.desc).map (fun d => d.parameters.length) = some 3) ∧ Cond.code yX7_applyRow cX7_applyRow 10 (some .boolean) ∈ zW := ⟨⟨by decide +kernel, by decide +kernel, by decide +kernel⟩, (zT2 143 rfl rfl)⟩
theorem im_X7_applyRow : Cond.instanceMethod yX7_applyRow ∈ zW := (zT2 142 (by decide +kernel) rfl)
theorem se_X7_applyRow : Cond.selects yX7_applyRow.cls yX7_applyRow yX7_applyRow ∈ zW := (zT0 11 (by decide +kernel) rfl)
theorem lk_X7_160 : zLkV RX7 160 yX7_applyRow cX7_applyRow 10 (some .boolean) 3 := ⟨⟨lb_X7_applyRow.1, lb_X7_applyRow.2, ini_X7, Or.inl ml_X7_160⟩, im_X7_applyRow, se_X7_applyRow⟩
theorem ml_X7_164 : Cond.methodLink RX7 164 yJ7_fill_53178 ∈ zW := (zT2 177 (by decide +kernel) rfl)
theorem lk_X7_164 : zLkS RX7 164 yJ7_fill_53178 cJ7_fill_53178 4 none 2 := ⟨⟨lb_J7_fill_53178.1, lb_J7_fill_53178.2, ini_J7, Or.inl ml_X7_164⟩, sm_J7_fill_53178⟩
theorem ml_X7_170 : Cond.methodLink RX7 170 yX7_valueOf ∈ zW := (zT2 144 (by decide +kernel) rfl)
theorem lb_X7_valueOf : (yX7_valueOf.cls ≠ "java/lang/invoke/MethodHandle" ∧ yX7_valueOf.cls ≠ "java/lang/invoke/VarHandle" ∧ (parseMethodDescriptor yX7_valueOf.desc).map (fun d => d.parameters.length) = some 2) ∧ Cond.code yX7_valueOf cX7_valueOf 3 (some .int) ∈ zW := ⟨⟨by decide +kernel, by decide +kernel, by decide +kernel⟩, (zT2 147 rfl rfl)⟩
theorem im_X7_valueOf : Cond.instanceMethod yX7_valueOf ∈ zW := (zT2 146 (by decide +kernel) rfl)
theorem se_X7_valueOf : Cond.selects yX7_valueOf.cls yX7_valueOf yX7_valueOf ∈ zW := (zT0 12 (by decide +kernel) rfl)
theorem lk_X7_170 : zLkV RX7 170 yX7_valueOf cX7_valueOf 3 (some .int) 2 := ⟨⟨lb_X7_valueOf.1, lb_X7_valueOf.2, ini_X7, Or.inl ml_X7_170⟩, im_X7_valueOf, se_X7_valueOf⟩
theorem lk_X7_174 : zLkS RX7 174 yX8_isName cX8_isName 1 (some .boolean) 1 := ⟨⟨lb_X8_isName.1, lb_X8_isName.2, ini_X8, Or.inr ⟨"UpdateSteps", (zU2 155 (by decide +kernel) rfl)⟩⟩, sm_X8_isName⟩
theorem ml_X7_177 : Cond.methodLink RX7 177 yX2_remove ∈ zW := (zT2 158 (by decide +kernel) rfl)
theorem lb_X2_remove : (yX2_remove.cls ≠ "java/lang/invoke/MethodHandle" ∧ yX2_remove.cls ≠ "java/lang/invoke/VarHandle" ∧ (parseMethodDescriptor yX2_remove.desc).map (fun d => d.parameters.length) = some 1) ∧ Cond.code yX2_remove cX2_remove 3 none ∈ zW := ⟨⟨by decide +kernel, by decide +kernel, by decide +kernel⟩, (zT2 161 rfl rfl)⟩
theorem im_X2_remove : Cond.instanceMethod yX2_remove ∈ zW := (zT2 159 (by decide +kernel) rfl)
theorem se_X2_remove : Cond.selects yX2_remove.cls yX2_remove yX2_remove ∈ zW := (zT2 160 (by decide +kernel) rfl)
theorem lk_X7_177 : zLkV RX7 177 yX2_remove cX2_remove 3 none 1 := ⟨⟨lb_X2_remove.1, lb_X2_remove.2, ini_X2, Or.inl ml_X7_177⟩, im_X2_remove, se_X2_remove⟩
theorem ml_X7_180 : Cond.methodLink RX7 180 yX7_withBlank ∈ zW := (zT2 162 (by decide +kernel) rfl)
theorem lb_X7_withBlank : (yX7_withBlank.cls ≠ "java/lang/invoke/MethodHandle" ∧ yX7_withBlank.cls ≠ "java/lang/invoke/VarHandle" ∧ (parseMethodDescriptor yX7_withBlank.desc).map (fun d => d.parameters.length) = some 1) ∧ Cond.code yX7_withBlank cX7_withBlank 3 (some .int) ∈ zW := ⟨⟨by decide +kernel, by decide +kernel, by decide +kernel⟩, (zT2 165 rfl rfl)⟩
theorem im_X7_withBlank : Cond.instanceMethod yX7_withBlank ∈ zW := (zT2 164 (by decide +kernel) rfl)
theorem se_X7_withBlank : Cond.selects yX7_withBlank.cls yX7_withBlank yX7_withBlank ∈ zW := (zT0 13 (by decide +kernel) rfl)
theorem lk_X7_180 : zLkV RX7 180 yX7_withBlank cX7_withBlank 3 (some .int) 1 := ⟨⟨lb_X7_withBlank.1, lb_X7_withBlank.2, ini_X7, Or.inl ml_X7_180⟩, im_X7_withBlank, se_X7_withBlank⟩
theorem lk_X7_183 : zLkS RX7 183 yX8_isVariable cX8_isVariable 1 (some .boolean) 1 := ⟨⟨lb_X8_isVariable.1, lb_X8_isVariable.2, ini_X8, Or.inr ⟨"UpdateSteps", (zU2 148 (by decide +kernel) rfl)⟩⟩, sm_X8_isVariable⟩
theorem ml_X7_186 : Cond.methodLink RX7 186 yX4_valueIn ∈ zW := (zT2 151 (by decide +kernel) rfl)
theorem lb_X4_valueIn : (yX4_valueIn.cls ≠ "java/lang/invoke/MethodHandle" ∧ yX4_valueIn.cls ≠ "java/lang/invoke/VarHandle" ∧ (parseMethodDescriptor yX4_valueIn.desc).map (fun d => d.parameters.length) = some 2) ∧ Cond.code yX4_valueIn cX4_valueIn 3 (some .int) ∈ zW := ⟨⟨by decide +kernel, by decide +kernel, by decide +kernel⟩, (zT2 154 rfl rfl)⟩
theorem im_X4_valueIn : Cond.instanceMethod yX4_valueIn ∈ zW := (zT2 152 (by decide +kernel) rfl)
theorem se_X4_valueIn : Cond.selects yX4_valueIn.cls yX4_valueIn yX4_valueIn ∈ zW := (zT2 153 (by decide +kernel) rfl)
theorem lk_X7_186 : zLkV RX7 186 yX4_valueIn cX4_valueIn 3 (some .int) 2 := ⟨⟨lb_X4_valueIn.1, lb_X4_valueIn.2, ini_X4, Or.inl ml_X7_186⟩, im_X4_valueIn, se_X4_valueIn⟩
theorem lk_X7_189 : zLkS RX7 189 yX8_isNewBlank cX8_isNewBlank 1 (some .boolean) 1 := ⟨⟨lb_X8_isNewBlank.1, lb_X8_isNewBlank.2, ini_X8, Or.inr ⟨"UpdateSteps", (zU2 166 (by decide +kernel) rfl)⟩⟩, sm_X8_isNewBlank⟩
theorem ml_X7_192 : Cond.methodLink RX7 192 yX6_makeBlank ∈ zW := (zT2 169 (by decide +kernel) rfl)
theorem lb_X6_makeBlank : (yX6_makeBlank.cls ≠ "java/lang/invoke/MethodHandle" ∧ yX6_makeBlank.cls ≠ "java/lang/invoke/VarHandle" ∧ (parseMethodDescriptor yX6_makeBlank.desc).map (fun d => d.parameters.length) = some 0) ∧ Cond.code yX6_makeBlank cX6_makeBlank 1 (some .int) ∈ zW := ⟨⟨by decide +kernel, by decide +kernel, by decide +kernel⟩, (zT2 172 rfl rfl)⟩
theorem im_X6_makeBlank : Cond.instanceMethod yX6_makeBlank ∈ zW := (zT2 170 (by decide +kernel) rfl)
theorem se_X6_makeBlank : Cond.selects yX6_makeBlank.cls yX6_makeBlank yX6_makeBlank ∈ zW := (zT2 171 (by decide +kernel) rfl)
theorem lk_X7_192 : zLkV RX7 192 yX6_makeBlank cX6_makeBlank 1 (some .int) 0 := ⟨⟨lb_X6_makeBlank.1, lb_X6_makeBlank.2, ini_X6, Or.inl ml_X7_192⟩, im_X6_makeBlank, se_X6_makeBlank⟩
theorem ml_L_7 : Cond.methodLink RL 7 yX8_step ∈ zW := (zT2 206 (by decide +kernel) rfl)
theorem lb_X8_step : (yX8_step.cls ≠ "java/lang/invoke/MethodHandle" ∧ yX8_step.cls ≠ "java/lang/invoke/VarHandle" ∧ (parseMethodDescriptor yX8_step.desc).map (fun d => d.parameters.length) = some 3) ∧ Cond.code yX8_step cX8_step 4 (some .int) ∈ zW := ⟨⟨by decide +kernel, by decide +kernel, by decide +kernel⟩, (zT2 209 rfl rfl)⟩
theorem im_X8_step : Cond.instanceMethod yX8_step ∈ zW := (zT2 207 (by decide +kernel) rfl)
theorem se_X8_step : Cond.selects yX8_step.cls yX8_step yX8_step ∈ zW := (zT2 208 (by decide +kernel) rfl)
theorem lk_L_7 : zLkV RL 7 yX8_step cX8_step 4 (some .int) 3 := ⟨⟨lb_X8_step.1, lb_X8_step.2, ini_X8, Or.inl ml_L_7⟩, im_X8_step, se_X8_step⟩
theorem ml_L_17 : Cond.methodLink RL 17 yX8_silent ∈ zW := (zT3 72 (by decide +kernel) rfl)
theorem lb_X8_silent : (yX8_silent.cls ≠ "java/lang/invoke/MethodHandle" ∧ yX8_silent.cls ≠ "java/lang/invoke/VarHandle" ∧ (parseMethodDescriptor yX8_silent.desc).map (fun d => d.parameters.length) = some 2) ∧ Cond.code yX8_silent cX8_silent 5 (some .boolean) ∈ zW := ⟨⟨by decide +kernel, by decide +kernel, by decide +kernel⟩, (zT3 75 rfl rfl)⟩
theorem im_X8_silent : Cond.instanceMethod yX8_silent ∈ zW := (zT3 73 (by decide +kernel) rfl)
theorem se_X8_silent : Cond.selects yX8_silent.cls yX8_silent yX8_silent ∈ zW := (zT3 74 (by decide +kernel) rfl)
theorem lk_L_17 : zLkV RL 17 yX8_silent cX8_silent 5 (some .boolean) 2 := ⟨⟨lb_X8_silent.1, lb_X8_silent.2, ini_X8, Or.inl ml_L_17⟩, im_X8_silent, se_X8_silent⟩
theorem ml_L_23 : Cond.methodLink RL 23 yX8_template ∈ zW := (zT3 99 (by decide +kernel) rfl)
theorem lb_X8_template : (yX8_template.cls ≠ "java/lang/invoke/MethodHandle" ∧ yX8_template.cls ≠ "java/lang/invoke/VarHandle" ∧ (parseMethodDescriptor yX8_template.desc).map (fun d => d.parameters.length) = some 5) ∧ Cond.code yX8_template cX8_template 8 (some .int) ∈ zW := ⟨⟨by decide +kernel, by decide +kernel, by decide +kernel⟩, (zT3 102 rfl rfl)⟩
theorem im_X8_template : Cond.instanceMethod yX8_template ∈ zW := (zT3 100 (by decide +kernel) rfl)
theorem se_X8_template : Cond.selects yX8_template.cls yX8_template yX8_template ∈ zW := (zT3 101 (by decide +kernel) rfl)
theorem lk_L_23 : zLkV RL 23 yX8_template cX8_template 8 (some .int) 5 := ⟨⟨lb_X8_template.1, lb_X8_template.2, ini_X8, Or.inl ml_L_23⟩, im_X8_template, se_X8_template⟩
theorem ml_L_27 : Cond.methodLink RL 27 yX8_pattern ∈ zW := (zT3 131 (by decide +kernel) rfl)
theorem lb_X8_pattern : (yX8_pattern.cls ≠ "java/lang/invoke/MethodHandle" ∧ yX8_pattern.cls ≠ "java/lang/invoke/VarHandle" ∧ (parseMethodDescriptor yX8_pattern.desc).map (fun d => d.parameters.length) = some 4) ∧ Cond.code yX8_pattern cX8_pattern 6 (some .int) ∈ zW := ⟨⟨by decide +kernel, by decide +kernel, by decide +kernel⟩, (zT3 134 rfl rfl)⟩
theorem im_X8_pattern : Cond.instanceMethod yX8_pattern ∈ zW := (zT3 132 (by decide +kernel) rfl)
theorem se_X8_pattern : Cond.selects yX8_pattern.cls yX8_pattern yX8_pattern ∈ zW := (zT3 133 (by decide +kernel) rfl)
theorem lk_L_27 : zLkV RL 27 yX8_pattern cX8_pattern 6 (some .int) 4 := ⟨⟨lb_X8_pattern.1, lb_X8_pattern.2, ini_X8, Or.inl ml_L_27⟩, im_X8_pattern, se_X8_pattern⟩
theorem ml_L_31 : Cond.methodLink RL 31 yX8_file ∈ zW := (zT3 144 (by decide +kernel) rfl)
theorem lb_X8_file : (yX8_file.cls ≠ "java/lang/invoke/MethodHandle" ∧ yX8_file.cls ≠ "java/lang/invoke/VarHandle" ∧ (parseMethodDescriptor yX8_file.desc).map (fun d => d.parameters.length) = some 4) ∧ Cond.code yX8_file cX8_file 6 (some .int) ∈ zW := ⟨⟨by decide +kernel, by decide +kernel, by decide +kernel⟩, (zT3 147 rfl rfl)⟩
theorem im_X8_file : Cond.instanceMethod yX8_file ∈ zW := (zT3 145 (by decide +kernel) rfl)
theorem se_X8_file : Cond.selects yX8_file.cls yX8_file yX8_file ∈ zW := (zT3 146 (by decide +kernel) rfl)
theorem lk_L_31 : zLkV RL 31 yX8_file cX8_file 6 (some .int) 4 := ⟨⟨lb_X8_file.1, lb_X8_file.2, ini_X8, Or.inl ml_L_31⟩, im_X8_file, se_X8_file⟩
theorem ml_L_34 : Cond.methodLink RL 34 yX8_torn ∈ zW := (zT3 158 (by decide +kernel) rfl)
theorem lb_X8_torn : (yX8_torn.cls ≠ "java/lang/invoke/MethodHandle" ∧ yX8_torn.cls ≠ "java/lang/invoke/VarHandle" ∧ (parseMethodDescriptor yX8_torn.desc).map (fun d => d.parameters.length) = some 2) ∧ Cond.code yX8_torn cX8_torn 5 (some .boolean) ∈ zW := ⟨⟨by decide +kernel, by decide +kernel, by decide +kernel⟩, (zT3 161 rfl rfl)⟩
theorem im_X8_torn : Cond.instanceMethod yX8_torn ∈ zW := (zT3 159 (by decide +kernel) rfl)
theorem se_X8_torn : Cond.selects yX8_torn.cls yX8_torn yX8_torn ∈ zW := (zT3 160 (by decide +kernel) rfl)
theorem lk_L_34 : zLkV RL 34 yX8_torn cX8_torn 5 (some .boolean) 2 := ⟨⟨lb_X8_torn.1, lb_X8_torn.2, ini_X8, Or.inl ml_L_34⟩, im_X8_torn, se_X8_torn⟩
theorem ml_L_37 : Cond.methodLink RL 37 yX8_many ∈ zW := (zT3 165 (by decide +kernel) rfl)
theorem lb_X8_many : (yX8_many.cls ≠ "java/lang/invoke/MethodHandle" ∧ yX8_many.cls ≠ "java/lang/invoke/VarHandle" ∧ (parseMethodDescriptor yX8_many.desc).map (fun d => d.parameters.length) = some 1) ∧ Cond.code yX8_many cX8_many 3 (some .int) ∈ zW := ⟨⟨by decide +kernel, by decide +kernel, by decide +kernel⟩, (zT3 168 rfl rfl)⟩
theorem im_X8_many : Cond.instanceMethod yX8_many ∈ zW := (zT3 166 (by decide +kernel) rfl)
theorem se_X8_many : Cond.selects yX8_many.cls yX8_many yX8_many ∈ zW := (zT3 167 (by decide +kernel) rfl)
theorem lk_L_37 : zLkV RL 37 yX8_many cX8_many 3 (some .int) 1 := ⟨⟨lb_X8_many.1, lb_X8_many.2, ini_X8, Or.inl ml_L_37⟩, im_X8_many, se_X8_many⟩
theorem ml_L_41 : Cond.methodLink RL 41 yX8_at ∈ zW := (zT3 177 (by decide +kernel) rfl)
theorem lb_X8_at : (yX8_at.cls ≠ "java/lang/invoke/MethodHandle" ∧ yX8_at.cls ≠ "java/lang/invoke/VarHandle" ∧ (parseMethodDescriptor yX8_at.desc).map (fun d => d.parameters.length) = some 3) ∧ Cond.code yX8_at cX8_at 5 (some .int) ∈ zW := ⟨⟨by decide +kernel, by decide +kernel, by decide +kernel⟩, (zT3 180 rfl rfl)⟩
theorem im_X8_at : Cond.instanceMethod yX8_at ∈ zW := (zT3 178 (by decide +kernel) rfl)
theorem se_X8_at : Cond.selects yX8_at.cls yX8_at yX8_at ∈ zW := (zT3 179 (by decide +kernel) rfl)
theorem lk_L_41 : zLkV RL 41 yX8_at cX8_at 5 (some .int) 3 := ⟨⟨lb_X8_at.1, lb_X8_at.2, ini_X8, Or.inl ml_L_41⟩, im_X8_at, se_X8_at⟩
theorem ml_L_44 : Cond.methodLink RL 44 yX8_has ∈ zW := (zT3 187 (by decide +kernel) rfl)
theorem lb_X8_has : (yX8_has.cls ≠ "java/lang/invoke/MethodHandle" ∧ yX8_has.cls ≠ "java/lang/invoke/VarHandle" ∧ (parseMethodDescriptor yX8_has.desc).map (fun d => d.parameters.length) = some 4) ∧ Cond.code yX8_has cX8_has 6 (some .boolean) ∈ zW := ⟨⟨by decide +kernel, by decide +kernel, by decide +kernel⟩, (zT3 190 rfl rfl)⟩
theorem im_X8_has : Cond.instanceMethod yX8_has ∈ zW := (zT3 188 (by decide +kernel) rfl)
theorem se_X8_has : Cond.selects yX8_has.cls yX8_has yX8_has ∈ zW := (zT3 189 (by decide +kernel) rfl)
theorem lk_L_44 : zLkV RL 44 yX8_has cX8_has 6 (some .boolean) 4 := ⟨⟨lb_X8_has.1, lb_X8_has.2, ini_X8, Or.inl ml_L_44⟩, im_X8_has, se_X8_has⟩
theorem ml_L_48 : Cond.methodLink RL 48 yX8_changed ∈ zW := (zT3 199 (by decide +kernel) rfl)
theorem lb_X8_changed : (yX8_changed.cls ≠ "java/lang/invoke/MethodHandle" ∧ yX8_changed.cls ≠ "java/lang/invoke/VarHandle" ∧ (parseMethodDescriptor yX8_changed.desc).map (fun d => d.parameters.length) = some 2) ∧ Cond.code yX8_changed cX8_changed 3 (some .int) ∈ zW := ⟨⟨by decide +kernel, by decide +kernel, by decide +kernel⟩, (zT3 202 rfl rfl)⟩
theorem im_X8_changed : Cond.instanceMethod yX8_changed ∈ zW := (zT3 200 (by decide +kernel) rfl)
theorem se_X8_changed : Cond.selects yX8_changed.cls yX8_changed yX8_changed ∈ zW := (zT3 201 (by decide +kernel) rfl)
theorem lk_L_48 : zLkV RL 48 yX8_changed cX8_changed 3 (some .int) 2 := ⟨⟨lb_X8_changed.1, lb_X8_changed.2, ini_X8, Or.inl ml_L_48⟩, im_X8_changed, se_X8_changed⟩
theorem ml_L_52 : Cond.methodLink RL 52 yX8_solutions ∈ zW := (zT3 208 (by decide +kernel) rfl)
theorem lb_X8_solutions : (yX8_solutions.cls ≠ "java/lang/invoke/MethodHandle" ∧ yX8_solutions.cls ≠ "java/lang/invoke/VarHandle" ∧ (parseMethodDescriptor yX8_solutions.desc).map (fun d => d.parameters.length) = some 1) ∧ Cond.code yX8_solutions cX8_solutions 2 (some .int) ∈ zW := ⟨⟨by decide +kernel, by decide +kernel, by decide +kernel⟩, (zT3 211 rfl rfl)⟩
theorem im_X8_solutions : Cond.instanceMethod yX8_solutions ∈ zW := (zT3 209 (by decide +kernel) rfl)
theorem se_X8_solutions : Cond.selects yX8_solutions.cls yX8_solutions yX8_solutions ∈ zW := (zT3 210 (by decide +kernel) rfl)
theorem lk_L_52 : zLkV RL 52 yX8_solutions cX8_solutions 2 (some .int) 1 := ⟨⟨lb_X8_solutions.1, lb_X8_solutions.2, ini_X8, Or.inl ml_L_52⟩, im_X8_solutions, se_X8_solutions⟩
theorem ml_L_55 : Cond.methodLink RL 55 yX8_told ∈ zW := (zT3 215 (by decide +kernel) rfl)
theorem lb_X8_told : (yX8_told.cls ≠ "java/lang/invoke/MethodHandle" ∧ yX8_told.cls ≠ "java/lang/invoke/VarHandle" ∧ (parseMethodDescriptor yX8_told.desc).map (fun d => d.parameters.length) = some 1) ∧ Cond.code yX8_told cX8_told 2 (some .int) ∈ zW := ⟨⟨by decide +kernel, by decide +kernel, by decide +kernel⟩, (zT3 218 rfl rfl)⟩
theorem im_X8_told : Cond.instanceMethod yX8_told ∈ zW := (zT3 216 (by decide +kernel) rfl)
theorem se_X8_told : Cond.selects yX8_told.cls yX8_told yX8_told ∈ zW := (zT3 217 (by decide +kernel) rfl)
theorem lk_L_55 : zLkV RL 55 yX8_told cX8_told 2 (some .int) 1 := ⟨⟨lb_X8_told.1, lb_X8_told.2, ini_X8, Or.inl ml_L_55⟩, im_X8_told, se_X8_told⟩
theorem nw_L_8 : zNw RL 8 8 8 [.null, .null, .null, .null, .null, .int 0, .int 0, .int 0] := ⟨RX8, TX8, tyX8, rfl, inz_X8, tyX8_ok, (zT1 19 (by decide +kernel) rfl), (zT1 20 (by decide +kernel) rfl), (zT1 1 (by decide +kernel) rfl), by decide +kernel⟩
theorem ml_L_58 : Cond.methodLink RL 58 yX8_init ∈ zW := (zT1 21 (by decide +kernel) rfl)
theorem lb_X8_init : (yX8_init.cls ≠ "java/lang/invoke/MethodHandle" ∧ yX8_init.cls ≠ "java/lang/invoke/VarHandle" ∧ (parseMethodDescriptor yX8_init.desc).map (fun d => d.parameters.length) = some 0) ∧ Cond.code yX8_init cX8_init 2 none ∈ zW := ⟨⟨by decide +kernel, by decide +kernel, by decide +kernel⟩, (zT1 23 rfl rfl)⟩
theorem im_X8_init : Cond.instanceMethod yX8_init ∈ zW := (zT1 22 (by decide +kernel) rfl)
theorem lk_L_58 : zLkI RL 58 yX8_init cX8_init 2 0 := ⟨⟨lb_X8_init.1, lb_X8_init.2, ini_X8, Or.inl ml_L_58⟩, rfl, im_X8_init⟩
theorem nw_L_59 : zNw RL 59 9 50 [.int 0, .int 0, .null, .null, .null, .null, .null, .null, .null, .null, .null, .null, .null, .null, .null, .null, .null, .null, .null, .null, .int 0, .null, .null, .null, .null, .null, .int 0, .int 0, .null, .null, .null, .null, .null, .int 0, .int 0, .null, .null, .null, .null, .null, .null, .int 0, .int 0, .int 0, .null, .int 0, .null, .int 0, .null, .null] := ⟨RX9, TX9, tyX9, rfl, inz_X9, tyX9_ok, (zT3 221 (by decide +kernel) rfl), (zT3 222 (by decide +kernel) rfl), (zT1 10 (by decide +kernel) rfl), by decide +kernel⟩
theorem ml_L_61 : Cond.methodLink RL 61 yX9_init ∈ zW := (zT3 223 (by decide +kernel) rfl)
theorem lb_X9_init : (yX9_init.cls ≠ "java/lang/invoke/MethodHandle" ∧ yX9_init.cls ≠ "java/lang/invoke/VarHandle" ∧ (parseMethodDescriptor yX9_init.desc).map (fun d => d.parameters.length) = some 0) ∧ Cond.code yX9_init cX9_init 2 none ∈ zW := ⟨⟨by decide +kernel, by decide +kernel, by decide +kernel⟩, (zT3 225 rfl rfl)⟩
theorem im_X9_init : Cond.instanceMethod yX9_init ∈ zW := (zT3 224 (by decide +kernel) rfl)
theorem lk_L_61 : zLkI RL 61 yX9_init cX9_init 2 0 := ⟨⟨lb_X9_init.1, lb_X9_init.2, ini_X9, Or.inl ml_L_61⟩, rfl, im_X9_init⟩
theorem ml_L_62 : Cond.methodLink RL 62 yL_step ∈ zW := (zT2 201 (by decide +kernel) rfl)
theorem ml_L_67 : Cond.methodLink RL 67 yX9_step ∈ zW := (zT4 142 (by decide +kernel) rfl)
theorem lb_X9_step : (yX9_step.cls ≠ "java/lang/invoke/MethodHandle" ∧ yX9_step.cls ≠ "java/lang/invoke/VarHandle" ∧ (parseMethodDescriptor yX9_step.desc).map (fun d => d.parameters.length) = some 3) ∧ Cond.code yX9_step cX9_step 6 (some .int) ∈ zW := ⟨⟨by decide +kernel, by decide +kernel, by decide +kernel⟩, (zT4 145 rfl rfl)⟩
theorem im_X9_step : Cond.instanceMethod yX9_step ∈ zW := (zT4 143 (by decide +kernel) rfl)
theorem se_X9_step : Cond.selects yX9_step.cls yX9_step yX9_step ∈ zW := (zT4 144 (by decide +kernel) rfl)
theorem lk_L_67 : zLkV RL 67 yX9_step cX9_step 6 (some .int) 3 := ⟨⟨lb_X9_step.1, lb_X9_step.2, ini_X9, Or.inl ml_L_67⟩, im_X9_step, se_X9_step⟩
theorem ml_L_68 : Cond.methodLink RL 68 yL_silent ∈ zW := (zT3 68 (by decide +kernel) rfl)
theorem ml_L_71 : Cond.methodLink RL 71 yX9_silent ∈ zW := (zT4 152 (by decide +kernel) rfl)
theorem lb_X9_silent : (yX9_silent.cls ≠ "java/lang/invoke/MethodHandle" ∧ yX9_silent.cls ≠ "java/lang/invoke/VarHandle" ∧ (parseMethodDescriptor yX9_silent.desc).map (fun d => d.parameters.length) = some 2) ∧ Cond.code yX9_silent cX9_silent 4 (some .boolean) ∈ zW := ⟨⟨by decide +kernel, by decide +kernel, by decide +kernel⟩, (zT4 155 rfl rfl)⟩
theorem im_X9_silent : Cond.instanceMethod yX9_silent ∈ zW := (zT4 153 (by decide +kernel) rfl)
theorem se_X9_silent : Cond.selects yX9_silent.cls yX9_silent yX9_silent ∈ zW := (zT4 154 (by decide +kernel) rfl)
theorem lk_L_71 : zLkV RL 71 yX9_silent cX9_silent 4 (some .boolean) 2 := ⟨⟨lb_X9_silent.1, lb_X9_silent.2, ini_X9, Or.inl ml_L_71⟩, im_X9_silent, se_X9_silent⟩
theorem ml_L_72 : Cond.methodLink RL 72 yL_template ∈ zW := (zT3 96 (by decide +kernel) rfl)
theorem ml_L_75 : Cond.methodLink RL 75 yX9_template ∈ zW := (zT4 160 (by decide +kernel) rfl)
theorem lb_X9_template : (yX9_template.cls ≠ "java/lang/invoke/MethodHandle" ∧ yX9_template.cls ≠ "java/lang/invoke/VarHandle" ∧ (parseMethodDescriptor yX9_template.desc).map (fun d => d.parameters.length) = some 5) ∧ Cond.code yX9_template cX9_template 9 (some .int) ∈ zW := ⟨⟨by decide +kernel, by decide +kernel, by decide +kernel⟩, (zT4 163 rfl rfl)⟩
theorem im_X9_template : Cond.instanceMethod yX9_template ∈ zW := (zT4 161 (by decide +kernel) rfl)
theorem se_X9_template : Cond.selects yX9_template.cls yX9_template yX9_template ∈ zW := (zT4 162 (by decide +kernel) rfl)
theorem lk_L_75 : zLkV RL 75 yX9_template cX9_template 9 (some .int) 5 := ⟨⟨lb_X9_template.1, lb_X9_template.2, ini_X9, Or.inl ml_L_75⟩, im_X9_template, se_X9_template⟩
theorem ml_L_76 : Cond.methodLink RL 76 yL_pattern ∈ zW := (zT3 128 (by decide +kernel) rfl)
theorem ml_L_79 : Cond.methodLink RL 79 yX9_pattern ∈ zW := (zT4 176 (by decide +kernel) rfl)
theorem lb_X9_pattern : (yX9_pattern.cls ≠ "java/lang/invoke/MethodHandle" ∧ yX9_pattern.cls ≠ "java/lang/invoke/VarHandle" ∧ (parseMethodDescriptor yX9_pattern.desc).map (fun d => d.parameters.length) = some 4) ∧ Cond.code yX9_pattern cX9_pattern 7 (some .int) ∈ zW := ⟨⟨by decide +kernel, by decide +kernel, by decide +kernel⟩, (zT4 179 rfl rfl)⟩
theorem im_X9_pattern : Cond.instanceMethod yX9_pattern ∈ zW := (zT4 177 (by decide +kernel) rfl)
theorem se_X9_pattern : Cond.selects yX9_pattern.cls yX9_pattern yX9_pattern ∈ zW := (zT4 178 (by decide +kernel) rfl)
theorem lk_L_79 : zLkV RL 79 yX9_pattern cX9_pattern 7 (some .int) 4 := ⟨⟨lb_X9_pattern.1, lb_X9_pattern.2, ini_X9, Or.inl ml_L_79⟩, im_X9_pattern, se_X9_pattern⟩
theorem ml_L_80 : Cond.methodLink RL 80 yL_file ∈ zW := (zT3 141 (by decide +kernel) rfl)
theorem ml_L_82 : Cond.methodLink RL 82 yX9_file ∈ zW := (zT4 180 (by decide +kernel) rfl)
theorem lb_X9_file : (yX9_file.cls ≠ "java/lang/invoke/MethodHandle" ∧ yX9_file.cls ≠ "java/lang/invoke/VarHandle" ∧ (parseMethodDescriptor yX9_file.desc).map (fun d => d.parameters.length) = some 4) ∧ Cond.code yX9_file cX9_file 6 (some .int) ∈ zW := ⟨⟨by decide +kernel, by decide +kernel, by decide +kernel⟩, (zT4 183 rfl rfl)⟩
theorem im_X9_file : Cond.instanceMethod yX9_file ∈ zW := (zT4 181 (by decide +kernel) rfl)
theorem se_X9_file : Cond.selects yX9_file.cls yX9_file yX9_file ∈ zW := (zT4 182 (by decide +kernel) rfl)
theorem lk_L_82 : zLkV RL 82 yX9_file cX9_file 6 (some .int) 4 := ⟨⟨lb_X9_file.1, lb_X9_file.2, ini_X9, Or.inl ml_L_82⟩, im_X9_file, se_X9_file⟩
theorem ml_L_83 : Cond.methodLink RL 83 yL_torn ∈ zW := (zT3 155 (by decide +kernel) rfl)
theorem ml_L_85 : Cond.methodLink RL 85 yX9_torn ∈ zW := (zT4 184 (by decide +kernel) rfl)
theorem lb_X9_torn : (yX9_torn.cls ≠ "java/lang/invoke/MethodHandle" ∧ yX9_torn.cls ≠ "java/lang/invoke/VarHandle" ∧ (parseMethodDescriptor yX9_torn.desc).map (fun d => d.parameters.length) = some 2) ∧ Cond.code yX9_torn cX9_torn 4 (some .boolean) ∈ zW := ⟨⟨by decide +kernel, by decide +kernel, by decide +kernel⟩, (zT4 187 rfl rfl)⟩
theorem im_X9_torn : Cond.instanceMethod yX9_torn ∈ zW := (zT4 185 (by decide +kernel) rfl)
theorem se_X9_torn : Cond.selects yX9_torn.cls yX9_torn yX9_torn ∈ zW := (zT4 186 (by decide +kernel) rfl)
theorem lk_L_85 : zLkV RL 85 yX9_torn cX9_torn 4 (some .boolean) 2 := ⟨⟨lb_X9_torn.1, lb_X9_torn.2, ini_X9, Or.inl ml_L_85⟩, im_X9_torn, se_X9_torn⟩
theorem ml_L_86 : Cond.methodLink RL 86 yX8_run ∈ zW := (zT2 16 (by decide +kernel) rfl)
theorem lb_X8_run : (yX8_run.cls ≠ "java/lang/invoke/MethodHandle" ∧ yX8_run.cls ≠ "java/lang/invoke/VarHandle" ∧ (parseMethodDescriptor yX8_run.desc).map (fun d => d.parameters.length) = some 0) ∧ Cond.code yX8_run cX8_run 3 (some .int) ∈ zW := ⟨⟨by decide +kernel, by decide +kernel, by decide +kernel⟩, (zT2 19 rfl rfl)⟩
theorem im_X8_run : Cond.instanceMethod yX8_run ∈ zW := (zT2 17 (by decide +kernel) rfl)
theorem se_X8_run : Cond.selects yX8_run.cls yX8_run yX8_run ∈ zW := (zT2 18 (by decide +kernel) rfl)
theorem lk_L_86 : zLkV RL 86 yX8_run cX8_run 3 (some .int) 0 := ⟨⟨lb_X8_run.1, lb_X8_run.2, ini_X8, Or.inl ml_L_86⟩, im_X8_run, se_X8_run⟩
theorem ml_L_90 : Cond.methodLink RL 90 yX9_run ∈ zW := (zT4 188 (by decide +kernel) rfl)
theorem lb_X9_run : (yX9_run.cls ≠ "java/lang/invoke/MethodHandle" ∧ yX9_run.cls ≠ "java/lang/invoke/VarHandle" ∧ (parseMethodDescriptor yX9_run.desc).map (fun d => d.parameters.length) = some 0) ∧ Cond.code yX9_run cX9_run 3 (some .int) ∈ zW := ⟨⟨by decide +kernel, by decide +kernel, by decide +kernel⟩, (zT4 191 rfl rfl)⟩
theorem im_X9_run : Cond.instanceMethod yX9_run ∈ zW := (zT4 189 (by decide +kernel) rfl)
theorem se_X9_run : Cond.selects yX9_run.cls yX9_run yX9_run ∈ zW := (zT4 190 (by decide +kernel) rfl)
theorem lk_L_90 : zLkV RL 90 yX9_run cX9_run 3 (some .int) 0 := ⟨⟨lb_X9_run.1, lb_X9_run.2, ini_X9, Or.inl ml_L_90⟩, im_X9_run, se_X9_run⟩
theorem ml_L_91 : Cond.methodLink RL 91 yX8_fails ∈ zW := (zT2 193 (by decide +kernel) rfl)
theorem lb_X8_fails : (yX8_fails.cls ≠ "java/lang/invoke/MethodHandle" ∧ yX8_fails.cls ≠ "java/lang/invoke/VarHandle" ∧ (parseMethodDescriptor yX8_fails.desc).map (fun d => d.parameters.length) = some 0) ∧ Cond.code yX8_fails cX8_fails 1 (some .int) ∈ zW := ⟨⟨by decide +kernel, by decide +kernel, by decide +kernel⟩, (zT2 196 rfl rfl)⟩
theorem im_X8_fails : Cond.instanceMethod yX8_fails ∈ zW := (zT2 194 (by decide +kernel) rfl)
theorem se_X8_fails : Cond.selects yX8_fails.cls yX8_fails yX8_fails ∈ zW := (zT2 195 (by decide +kernel) rfl)
theorem lk_L_91 : zLkV RL 91 yX8_fails cX8_fails 1 (some .int) 0 := ⟨⟨lb_X8_fails.1, lb_X8_fails.2, ini_X8, Or.inl ml_L_91⟩, im_X8_fails, se_X8_fails⟩
theorem ml_L_94 : Cond.methodLink RL 94 yX9_fails ∈ zW := (zT5 56 (by decide +kernel) rfl)
theorem lb_X9_fails : (yX9_fails.cls ≠ "java/lang/invoke/MethodHandle" ∧ yX9_fails.cls ≠ "java/lang/invoke/VarHandle" ∧ (parseMethodDescriptor yX9_fails.desc).map (fun d => d.parameters.length) = some 0) ∧ Cond.code yX9_fails cX9_fails 1 (some .int) ∈ zW := ⟨⟨by decide +kernel, by decide +kernel, by decide +kernel⟩, (zT5 59 rfl rfl)⟩
theorem im_X9_fails : Cond.instanceMethod yX9_fails ∈ zW := (zT5 57 (by decide +kernel) rfl)
theorem se_X9_fails : Cond.selects yX9_fails.cls yX9_fails yX9_fails ∈ zW := (zT5 58 (by decide +kernel) rfl)
theorem lk_L_94 : zLkV RL 94 yX9_fails cX9_fails 1 (some .int) 0 := ⟨⟨lb_X9_fails.1, lb_X9_fails.2, ini_X9, Or.inl ml_L_94⟩, im_X9_fails, se_X9_fails⟩
theorem ml_L_95 : Cond.methodLink RL 95 yX8_clear ∈ zW := (zT2 197 (by decide +kernel) rfl)
theorem lb_X8_clear : (yX8_clear.cls ≠ "java/lang/invoke/MethodHandle" ∧ yX8_clear.cls ≠ "java/lang/invoke/VarHandle" ∧ (parseMethodDescriptor yX8_clear.desc).map (fun d => d.parameters.length) = some 0) ∧ Cond.code yX8_clear cX8_clear 2 (some .int) ∈ zW := ⟨⟨by decide +kernel, by decide +kernel, by decide +kernel⟩, (zT2 200 rfl rfl)⟩
theorem im_X8_clear : Cond.instanceMethod yX8_clear ∈ zW := (zT2 198 (by decide +kernel) rfl)
theorem se_X8_clear : Cond.selects yX8_clear.cls yX8_clear yX8_clear ∈ zW := (zT2 199 (by decide +kernel) rfl)
theorem lk_L_95 : zLkV RL 95 yX8_clear cX8_clear 2 (some .int) 0 := ⟨⟨lb_X8_clear.1, lb_X8_clear.2, ini_X8, Or.inl ml_L_95⟩, im_X8_clear, se_X8_clear⟩
theorem ml_L_98 : Cond.methodLink RL 98 yX9_clear ∈ zW := (zT5 60 (by decide +kernel) rfl)
theorem lb_X9_clear : (yX9_clear.cls ≠ "java/lang/invoke/MethodHandle" ∧ yX9_clear.cls ≠ "java/lang/invoke/VarHandle" ∧ (parseMethodDescriptor yX9_clear.desc).map (fun d => d.parameters.length) = some 0) ∧ Cond.code yX9_clear cX9_clear 3 (some .int) ∈ zW := ⟨⟨by decide +kernel, by decide +kernel, by decide +kernel⟩, (zT5 63 rfl rfl)⟩
theorem im_X9_clear : Cond.instanceMethod yX9_clear ∈ zW := (zT5 61 (by decide +kernel) rfl)
theorem se_X9_clear : Cond.selects yX9_clear.cls yX9_clear yX9_clear ∈ zW := (zT5 62 (by decide +kernel) rfl)
theorem lk_L_98 : zLkV RL 98 yX9_clear cX9_clear 3 (some .int) 0 := ⟨⟨lb_X9_clear.1, lb_X9_clear.2, ini_X9, Or.inl ml_L_98⟩, im_X9_clear, se_X9_clear⟩
theorem ml_L_99 : Cond.methodLink RL 99 yL_many ∈ zW := (zT3 162 (by decide +kernel) rfl)
theorem ml_L_102 : Cond.methodLink RL 102 yX9_many ∈ zW := (zT5 64 (by decide +kernel) rfl)
theorem lb_X9_many : (yX9_many.cls ≠ "java/lang/invoke/MethodHandle" ∧ yX9_many.cls ≠ "java/lang/invoke/VarHandle" ∧ (parseMethodDescriptor yX9_many.desc).map (fun d => d.parameters.length) = some 1) ∧ Cond.code yX9_many cX9_many 2 (some .int) ∈ zW := ⟨⟨by decide +kernel, by decide +kernel, by decide +kernel⟩, (zT5 67 rfl rfl)⟩
theorem im_X9_many : Cond.instanceMethod yX9_many ∈ zW := (zT5 65 (by decide +kernel) rfl)
theorem se_X9_many : Cond.selects yX9_many.cls yX9_many yX9_many ∈ zW := (zT5 66 (by decide +kernel) rfl)
theorem lk_L_102 : zLkV RL 102 yX9_many cX9_many 2 (some .int) 1 := ⟨⟨lb_X9_many.1, lb_X9_many.2, ini_X9, Or.inl ml_L_102⟩, im_X9_many, se_X9_many⟩
theorem ml_L_103 : Cond.methodLink RL 103 yL_at ∈ zW := (zT3 174 (by decide +kernel) rfl)
theorem ml_L_105 : Cond.methodLink RL 105 yX9_at ∈ zW := (zT5 68 (by decide +kernel) rfl)
theorem lb_X9_at : (yX9_at.cls ≠ "java/lang/invoke/MethodHandle" ∧ yX9_at.cls ≠ "java/lang/invoke/VarHandle" ∧ (parseMethodDescriptor yX9_at.desc).map (fun d => d.parameters.length) = some 3) ∧ Cond.code yX9_at cX9_at 4 (some .int) ∈ zW := ⟨⟨by decide +kernel, by decide +kernel, by decide +kernel⟩, (zT5 71 rfl rfl)⟩
theorem im_X9_at : Cond.instanceMethod yX9_at ∈ zW := (zT5 69 (by decide +kernel) rfl)
theorem se_X9_at : Cond.selects yX9_at.cls yX9_at yX9_at ∈ zW := (zT5 70 (by decide +kernel) rfl)
theorem lk_L_105 : zLkV RL 105 yX9_at cX9_at 4 (some .int) 3 := ⟨⟨lb_X9_at.1, lb_X9_at.2, ini_X9, Or.inl ml_L_105⟩, im_X9_at, se_X9_at⟩
theorem ml_L_106 : Cond.methodLink RL 106 yL_has ∈ zW := (zT3 184 (by decide +kernel) rfl)
theorem ml_L_108 : Cond.methodLink RL 108 yX9_has ∈ zW := (zT5 72 (by decide +kernel) rfl)
theorem lb_X9_has : (yX9_has.cls ≠ "java/lang/invoke/MethodHandle" ∧ yX9_has.cls ≠ "java/lang/invoke/VarHandle" ∧ (parseMethodDescriptor yX9_has.desc).map (fun d => d.parameters.length) = some 4) ∧ Cond.code yX9_has cX9_has 5 (some .boolean) ∈ zW := ⟨⟨by decide +kernel, by decide +kernel, by decide +kernel⟩, (zT5 75 rfl rfl)⟩
theorem im_X9_has : Cond.instanceMethod yX9_has ∈ zW := (zT5 73 (by decide +kernel) rfl)
theorem se_X9_has : Cond.selects yX9_has.cls yX9_has yX9_has ∈ zW := (zT5 74 (by decide +kernel) rfl)
theorem lk_L_108 : zLkV RL 108 yX9_has cX9_has 5 (some .boolean) 4 := ⟨⟨lb_X9_has.1, lb_X9_has.2, ini_X9, Or.inl ml_L_108⟩, im_X9_has, se_X9_has⟩
theorem ml_L_109 : Cond.methodLink RL 109 yL_changed ∈ zW := (zT3 196 (by decide +kernel) rfl)
theorem ml_L_112 : Cond.methodLink RL 112 yX9_changed ∈ zW := (zT5 76 (by decide +kernel) rfl)
theorem lb_X9_changed : (yX9_changed.cls ≠ "java/lang/invoke/MethodHandle" ∧ yX9_changed.cls ≠ "java/lang/invoke/VarHandle" ∧ (parseMethodDescriptor yX9_changed.desc).map (fun d => d.parameters.length) = some 2) ∧ Cond.code yX9_changed cX9_changed 3 (some .int) ∈ zW := ⟨⟨by decide +kernel, by decide +kernel, by decide +kernel⟩, (zT5 79 rfl rfl)⟩
theorem im_X9_changed : Cond.instanceMethod yX9_changed ∈ zW := (zT5 77 (by decide +kernel) rfl)
theorem se_X9_changed : Cond.selects yX9_changed.cls yX9_changed yX9_changed ∈ zW := (zT5 78 (by decide +kernel) rfl)
theorem lk_L_112 : zLkV RL 112 yX9_changed cX9_changed 3 (some .int) 2 := ⟨⟨lb_X9_changed.1, lb_X9_changed.2, ini_X9, Or.inl ml_L_112⟩, im_X9_changed, se_X9_changed⟩
theorem ml_L_113 : Cond.methodLink RL 113 yL_solutions ∈ zW := (zT3 205 (by decide +kernel) rfl)
theorem ml_L_115 : Cond.methodLink RL 115 yX9_solutions ∈ zW := (zT5 80 (by decide +kernel) rfl)
theorem lb_X9_solutions : (yX9_solutions.cls ≠ "java/lang/invoke/MethodHandle" ∧ yX9_solutions.cls ≠ "java/lang/invoke/VarHandle" ∧ (parseMethodDescriptor yX9_solutions.desc).map (fun d => d.parameters.length) = some 1) ∧ Cond.code yX9_solutions cX9_solutions 2 (some .int) ∈ zW := ⟨⟨by decide +kernel, by decide +kernel, by decide +kernel⟩, (zT5 83 rfl rfl)⟩
theorem im_X9_solutions : Cond.instanceMethod yX9_solutions ∈ zW := (zT5 81 (by decide +kernel) rfl)
theorem se_X9_solutions : Cond.selects yX9_solutions.cls yX9_solutions yX9_solutions ∈ zW := (zT5 82 (by decide +kernel) rfl)
theorem lk_L_115 : zLkV RL 115 yX9_solutions cX9_solutions 2 (some .int) 1 := ⟨⟨lb_X9_solutions.1, lb_X9_solutions.2, ini_X9, Or.inl ml_L_115⟩, im_X9_solutions, se_X9_solutions⟩
theorem ml_L_116 : Cond.methodLink RL 116 yL_told ∈ zW := (zT3 212 (by decide +kernel) rfl)
theorem ml_L_118 : Cond.methodLink RL 118 yX9_told ∈ zW := (zT5 84 (by decide +kernel) rfl)
theorem lb_X9_told : (yX9_told.cls ≠ "java/lang/invoke/MethodHandle" ∧ yX9_told.cls ≠ "java/lang/invoke/VarHandle" ∧ (parseMethodDescriptor yX9_told.desc).map (fun d => d.parameters.length) = some 1) ∧ Cond.code yX9_told cX9_told 2 (some .int) ∈ zW := ⟨⟨by decide +kernel, by decide +kernel, by decide +kernel⟩, (zT5 87 rfl rfl)⟩
theorem im_X9_told : Cond.instanceMethod yX9_told ∈ zW := (zT5 85 (by decide +kernel) rfl)
theorem se_X9_told : Cond.selects yX9_told.cls yX9_told yX9_told ∈ zW := (zT5 86 (by decide +kernel) rfl)
theorem lk_L_118 : zLkV RL 118 yX9_told cX9_told 2 (some .int) 1 := ⟨⟨lb_X9_told.1, lb_X9_told.2, ini_X9, Or.inl ml_L_118⟩, im_X9_told, se_X9_told⟩
theorem ml_L_119 : Cond.methodLink RL 119 yX9_thrown ∈ zW := (zT4 138 (by decide +kernel) rfl)
theorem lb_X9_thrown : (yX9_thrown.cls ≠ "java/lang/invoke/MethodHandle" ∧ yX9_thrown.cls ≠ "java/lang/invoke/VarHandle" ∧ (parseMethodDescriptor yX9_thrown.desc).map (fun d => d.parameters.length) = some 0) ∧ Cond.code yX9_thrown cX9_thrown 1 (some .int) ∈ zW := ⟨⟨by decide +kernel, by decide +kernel, by decide +kernel⟩, (zT4 141 rfl rfl)⟩
theorem im_X9_thrown : Cond.instanceMethod yX9_thrown ∈ zW := (zT4 139 (by decide +kernel) rfl)
theorem se_X9_thrown : Cond.selects yX9_thrown.cls yX9_thrown yX9_thrown ∈ zW := (zT4 140 (by decide +kernel) rfl)
theorem lk_L_119 : zLkV RL 119 yX9_thrown cX9_thrown 1 (some .int) 0 := ⟨⟨lb_X9_thrown.1, lb_X9_thrown.2, ini_X9, Or.inl ml_L_119⟩, im_X9_thrown, se_X9_thrown⟩
theorem aw_int : Cond.arrayClass .int ∈ zW := (zT1 70 (by decide +kernel) rfl)
theorem aw_boolean : Cond.arrayClass .boolean ∈ zW := (zT1 230 (by decide +kernel) rfl)
theorem aw_long : Cond.arrayClass .long ∈ zW := (zT5 88 (by decide +kernel) rfl)
end
section
theorem ta_X8_62 : ∀ w ∈ vx_atS RX8 62 "java/lang/IllegalArgumentException" ["java/lang/RuntimeException", "java/lang/Exception"], w ∈ lw_tbl ∧ (goodWord w = true ∨ zNest w = true) := by decide +kernel
theorem tb_X8_62 : ∀ w ∈ Cond.classLink RX8 58 "java/lang/IllegalArgumentException" :: Cond.initialized "java/lang/IllegalArgumentException" :: vx_atS RX8 62 "java/lang/IllegalArgumentException" ["java/lang/RuntimeException", "java/lang/Exception"], vx_ot w = true := by decide +kernel
theorem th_X8_60 : zTh RX8 58 60 62 "java/lang/IllegalArgumentException" "no such kind, or not with this FROM or TO" := ⟨by decide +kernel, (zT2 220 (by decide +kernel) rfl), (zT1 14 (by decide +kernel) rfl), by decide +kernel, fun w hw => (ta_X8_62 w hw).2.elim (fun g => Or.inl (List.mem_filter.mpr ⟨(ta_X8_62 w hw).1, g⟩)) (fun g => Or.inr (List.mem_filter.mpr ⟨(ta_X8_62 w hw).1, g⟩)), tb_X8_62⟩
theorem ta_X8_69 : ∀ w ∈ vx_atS RX8 69 "java/lang/IllegalStateException" ["java/lang/RuntimeException", "java/lang/Exception"], w ∈ lw_tbl ∧ (goodWord w = true ∨ zNest w = true) := by decide +kernel
theorem tb_X8_69 : ∀ w ∈ Cond.classLink RX8 65 "java/lang/IllegalStateException" :: Cond.initialized "java/lang/IllegalStateException" :: vx_atS RX8 69 "java/lang/IllegalStateException" ["java/lang/RuntimeException", "java/lang/Exception"], vx_ot w = true := by decide +kernel
theorem th_X8_67 : zTh RX8 65 67 69 "java/lang/IllegalStateException" "no more steps" := ⟨by decide +kernel, (zT3 48 (by decide +kernel) rfl), (zT1 15 (by decide +kernel) rfl), by decide +kernel, fun w hw => (ta_X8_69 w hw).2.elim (fun g => Or.inl (List.mem_filter.mpr ⟨(ta_X8_69 w hw).1, g⟩)) (fun g => Or.inr (List.mem_filter.mpr ⟨(ta_X8_69 w hw).1, g⟩)), tb_X8_69⟩
theorem th_X8_100 : zTh RX8 58 100 62 "java/lang/IllegalArgumentException" "no such template in this step" := ⟨by decide +kernel, (zT2 220 (by decide +kernel) rfl), (zT1 14 (by decide +kernel) rfl), by decide +kernel, fun w hw => (ta_X8_62 w hw).2.elim (fun g => Or.inl (List.mem_filter.mpr ⟨(ta_X8_62 w hw).1, g⟩)) (fun g => Or.inr (List.mem_filter.mpr ⟨(ta_X8_62 w hw).1, g⟩)), tb_X8_62⟩
theorem th_X8_112 : zTh RX8 65 112 69 "java/lang/IllegalStateException" "no more templates" := ⟨by decide +kernel, (zT3 48 (by decide +kernel) rfl), (zT1 15 (by decide +kernel) rfl), by decide +kernel, fun w hw => (ta_X8_69 w hw).2.elim (fun g => Or.inl (List.mem_filter.mpr ⟨(ta_X8_69 w hw).1, g⟩)) (fun g => Or.inr (List.mem_filter.mpr ⟨(ta_X8_69 w hw).1, g⟩)), tb_X8_69⟩
theorem th_X8_121 : zTh RX8 58 121 62 "java/lang/IllegalArgumentException" "no such pattern in this step" := ⟨by decide +kernel, (zT2 220 (by decide +kernel) rfl), (zT1 14 (by decide +kernel) rfl), by decide +kernel, fun w hw => (ta_X8_62 w hw).2.elim (fun g => Or.inl (List.mem_filter.mpr ⟨(ta_X8_62 w hw).1, g⟩)) (fun g => Or.inr (List.mem_filter.mpr ⟨(ta_X8_62 w hw).1, g⟩)), tb_X8_62⟩
theorem th_X8_126 : zTh RX8 65 126 69 "java/lang/IllegalStateException" "no more rows of the pattern" := ⟨by decide +kernel, (zT3 48 (by decide +kernel) rfl), (zT1 15 (by decide +kernel) rfl), by decide +kernel, fun w hw => (ta_X8_69 w hw).2.elim (fun g => Or.inl (List.mem_filter.mpr ⟨(ta_X8_69 w hw).1, g⟩)) (fun g => Or.inr (List.mem_filter.mpr ⟨(ta_X8_69 w hw).1, g⟩)), tb_X8_69⟩
theorem th_X8_139 : zTh RX8 58 139 62 "java/lang/IllegalArgumentException" "a file has names alone" := ⟨by decide +kernel, (zT2 220 (by decide +kernel) rfl), (zT1 14 (by decide +kernel) rfl), by decide +kernel, fun w hw => (ta_X8_62 w hw).2.elim (fun g => Or.inl (List.mem_filter.mpr ⟨(ta_X8_62 w hw).1, g⟩)) (fun g => Or.inr (List.mem_filter.mpr ⟨(ta_X8_62 w hw).1, g⟩)), tb_X8_62⟩
theorem th_X8_146 : zTh RX8 65 146 69 "java/lang/IllegalStateException" "no more rows of the file" := ⟨by decide +kernel, (zT3 48 (by decide +kernel) rfl), (zT1 15 (by decide +kernel) rfl), by decide +kernel, fun w hw => (ta_X8_69 w hw).2.elim (fun g => Or.inl (List.mem_filter.mpr ⟨(ta_X8_69 w hw).1, g⟩)) (fun g => Or.inr (List.mem_filter.mpr ⟨(ta_X8_69 w hw).1, g⟩)), tb_X8_69⟩
theorem ta_X8_192 : ∀ w ∈ vx_atS RX8 192 "java/lang/IndexOutOfBoundsException" ["java/lang/RuntimeException", "java/lang/Exception"], w ∈ lw_tbl ∧ (goodWord w = true ∨ zNest w = true) := by decide +kernel
theorem tb_X8_192 : ∀ w ∈ Cond.classLink RX8 188 "java/lang/IndexOutOfBoundsException" :: Cond.initialized "java/lang/IndexOutOfBoundsException" :: vx_atS RX8 192 "java/lang/IndexOutOfBoundsException" ["java/lang/RuntimeException", "java/lang/Exception"], vx_ot w = true := by decide +kernel
theorem th_X8_190 : zTh RX8 188 190 192 "java/lang/IndexOutOfBoundsException" "no such fact" := ⟨by decide +kernel, (zT3 80 (by decide +kernel) rfl), (zT1 16 (by decide +kernel) rfl), by decide +kernel, fun w hw => (ta_X8_192 w hw).2.elim (fun g => Or.inl (List.mem_filter.mpr ⟨(ta_X8_192 w hw).1, g⟩)) (fun g => Or.inr (List.mem_filter.mpr ⟨(ta_X8_192 w hw).1, g⟩)), tb_X8_192⟩
theorem th_X8_193 : zTh RX8 58 193 62 "java/lang/IllegalArgumentException" "a fact has parts 0 to 2" := ⟨by decide +kernel, (zT2 220 (by decide +kernel) rfl), (zT1 14 (by decide +kernel) rfl), by decide +kernel, fun w hw => (ta_X8_62 w hw).2.elim (fun g => Or.inl (List.mem_filter.mpr ⟨(ta_X8_62 w hw).1, g⟩)) (fun g => Or.inr (List.mem_filter.mpr ⟨(ta_X8_62 w hw).1, g⟩)), tb_X8_62⟩
theorem th_X8_212 : zTh RX8 188 212 192 "java/lang/IndexOutOfBoundsException" "no such change" := ⟨by decide +kernel, (zT3 80 (by decide +kernel) rfl), (zT1 16 (by decide +kernel) rfl), by decide +kernel, fun w hw => (ta_X8_192 w hw).2.elim (fun g => Or.inl (List.mem_filter.mpr ⟨(ta_X8_192 w hw).1, g⟩)) (fun g => Or.inr (List.mem_filter.mpr ⟨(ta_X8_192 w hw).1, g⟩)), tb_X8_192⟩
theorem th_X8_214 : zTh RX8 58 214 62 "java/lang/IllegalArgumentException" "a change has parts 0 to 4" := ⟨by decide +kernel, (zT2 220 (by decide +kernel) rfl), (zT1 14 (by decide +kernel) rfl), by decide +kernel, fun w hw => (ta_X8_62 w hw).2.elim (fun g => Or.inl (List.mem_filter.mpr ⟨(ta_X8_62 w hw).1, g⟩)) (fun g => Or.inr (List.mem_filter.mpr ⟨(ta_X8_62 w hw).1, g⟩)), tb_X8_62⟩
theorem th_X8_232 : zTh RX8 58 232 62 "java/lang/IllegalArgumentException" "what is 0 to 4" := ⟨by decide +kernel, (zT2 220 (by decide +kernel) rfl), (zT1 14 (by decide +kernel) rfl), by decide +kernel, fun w hw => (ta_X8_62 w hw).2.elim (fun g => Or.inl (List.mem_filter.mpr ⟨(ta_X8_62 w hw).1, g⟩)) (fun g => Or.inr (List.mem_filter.mpr ⟨(ta_X8_62 w hw).1, g⟩)), tb_X8_62⟩
theorem th_X8_234 : zTh RX8 188 234 192 "java/lang/IndexOutOfBoundsException" "no such step" := ⟨by decide +kernel, (zT3 80 (by decide +kernel) rfl), (zT1 16 (by decide +kernel) rfl), by decide +kernel, fun w hw => (ta_X8_192 w hw).2.elim (fun g => Or.inl (List.mem_filter.mpr ⟨(ta_X8_192 w hw).1, g⟩)) (fun g => Or.inr (List.mem_filter.mpr ⟨(ta_X8_192 w hw).1, g⟩)), tb_X8_192⟩
theorem th_X8_236 : zTh RX8 188 236 192 "java/lang/IndexOutOfBoundsException" "no such file" := ⟨by decide +kernel, (zT3 80 (by decide +kernel) rfl), (zT1 16 (by decide +kernel) rfl), by decide +kernel, fun w hw => (ta_X8_192 w hw).2.elim (fun g => Or.inl (List.mem_filter.mpr ⟨(ta_X8_192 w hw).1, g⟩)) (fun g => Or.inr (List.mem_filter.mpr ⟨(ta_X8_192 w hw).1, g⟩)), tb_X8_192⟩
theorem th_X8_245 : zTh RX8 188 245 192 "java/lang/IndexOutOfBoundsException" "no such graph" := ⟨by decide +kernel, (zT3 80 (by decide +kernel) rfl), (zT1 16 (by decide +kernel) rfl), by decide +kernel, fun w hw => (ta_X8_192 w hw).2.elim (fun g => Or.inl (List.mem_filter.mpr ⟨(ta_X8_192 w hw).1, g⟩)) (fun g => Or.inr (List.mem_filter.mpr ⟨(ta_X8_192 w hw).1, g⟩)), tb_X8_192⟩
end
