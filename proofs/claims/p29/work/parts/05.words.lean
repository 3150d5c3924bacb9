set_option maxRecDepth 100000 in
theorem kin_0 : ∀ w ∈ u_ws RX0 TX0 3, w ∈ lw_g := by decide +kernel
theorem kcl_0 : ks_Cls 0 RX0 TX0 3 tyX0 := ⟨rfl, kin_0, tyX0_ok, nmX0⟩
set_option maxRecDepth 100000 in
theorem kin_1 : ∀ w ∈ u_ws RX1 TX1 4, w ∈ lw_g := by decide +kernel
theorem kcl_1 : ks_Cls 1 RX1 TX1 4 tyX1 := ⟨rfl, kin_1, tyX1_ok, nmX1⟩
set_option maxRecDepth 100000 in
theorem kin_2 : ∀ w ∈ u_ws RX2 TX2 2, w ∈ lw_g := by decide +kernel
theorem kcl_2 : ks_Cls 2 RX2 TX2 2 tyX2 := ⟨rfl, kin_2, tyX2_ok, nmX2⟩
set_option maxRecDepth 100000 in
theorem kin_3 : ∀ w ∈ u_ws RX3 TX3 4, w ∈ lw_g := by decide +kernel
theorem kcl_3 : ks_Cls 3 RX3 TX3 4 tyX3 := ⟨rfl, kin_3, tyX3_ok, nmX3⟩
set_option maxRecDepth 100000 in
theorem kin_4 : ∀ w ∈ u_ws RX4 TX4 14, w ∈ lw_g := by decide +kernel
theorem kcl_4 : ks_Cls 4 RX4 TX4 14 tyX4 := ⟨rfl, kin_4, tyX4_ok, nmX4⟩
set_option maxRecDepth 100000 in
theorem kin_5 : ∀ w ∈ u_ws RX5 TX5 3, w ∈ lw_g := by decide +kernel
theorem kcl_5 : ks_Cls 5 RX5 TX5 3 tyX5 := ⟨rfl, kin_5, tyX5_ok, nmX5⟩
set_option maxRecDepth 100000 in
theorem kin_6 : ∀ w ∈ u_ws RX6 TX6 6, w ∈ lw_g := by decide +kernel
theorem kcl_6 : ks_Cls 6 RX6 TX6 6 tyX6 := ⟨rfl, kin_6, tyX6_ok, nmX6⟩
set_option maxRecDepth 100000 in
theorem kf_X5_9 : ks_Fld RX5 9 5 0 (.array .int) 2 := ⟨RX5, TX5, 3, tyX5, kcl_5, by decide, ks_mg 40 (by decide +kernel) rfl, rfl, fun h => (by first | rfl | exact absurd h (by decide)), fun h => (by first | exact ⟨rfl, rfl⟩ | exact absurd h (by decide))⟩
set_option maxRecDepth 100000 in
theorem kf_X5_15 : ks_Fld RX5 15 5 1 (.array .int) 2 := ⟨RX5, TX5, 3, tyX5, kcl_5, by decide, ks_mg 41 (by decide +kernel) rfl, rfl, fun h => (by first | rfl | exact absurd h (by decide)), fun h => (by first | exact ⟨rfl, rfl⟩ | exact absurd h (by decide))⟩
set_option maxRecDepth 100000 in
theorem kf_X5_18 : ks_Fld RX5 18 5 2 (.int) 1 := ⟨RX5, TX5, 3, tyX5, kcl_5, by decide, ks_mg 42 (by decide +kernel) rfl, rfl, fun h => (by first | rfl | exact absurd h (by decide)), fun h => (by first | exact ⟨rfl, rfl⟩ | exact absurd h (by decide))⟩
set_option maxRecDepth 100000 in
theorem kf_X6_165 : ks_Fld RX6 165 5 2 (.int) 1 := ⟨RX5, TX5, 3, tyX5, kcl_5, by decide, ks_mg 43 (by decide +kernel) rfl, rfl, fun h => (by first | rfl | exact absurd h (by decide)), fun h => (by first | exact ⟨rfl, rfl⟩ | exact absurd h (by decide))⟩
set_option maxRecDepth 100000 in
theorem kf_X3_9 : ks_Fld RX3 9 3 0 (.array .int) 2 := ⟨RX3, TX3, 4, tyX3, kcl_3, by decide, ks_mg 58 (by decide +kernel) rfl, rfl, fun h => (by first | rfl | exact absurd h (by decide)), fun h => (by first | exact ⟨rfl, rfl⟩ | exact absurd h (by decide))⟩
set_option maxRecDepth 100000 in
theorem kf_X6_147 : ks_Fld RX6 147 3 0 (.array .int) 0 := ⟨RX3, TX3, 4, tyX3, kcl_3, by decide, ks_mg 59 (by decide +kernel) rfl, rfl, fun h => (by first | rfl | exact absurd h (by decide)), fun h => (by first | exact ⟨rfl, rfl⟩ | exact absurd h (by decide))⟩
set_option maxRecDepth 100000 in
theorem kf_X3_15 : ks_Fld RX3 15 3 1 (.array .int) 2 := ⟨RX3, TX3, 4, tyX3, kcl_3, by decide, ks_mg 60 (by decide +kernel) rfl, rfl, fun h => (by first | rfl | exact absurd h (by decide)), fun h => (by first | exact ⟨rfl, rfl⟩ | exact absurd h (by decide))⟩
set_option maxRecDepth 100000 in
theorem kf_X4_126 : ks_Fld RX4 126 3 1 (.array .int) 0 := ⟨RX3, TX3, 4, tyX3, kcl_3, by decide, ks_mg 61 (by decide +kernel) rfl, rfl, fun h => (by first | rfl | exact absurd h (by decide)), fun h => (by first | exact ⟨rfl, rfl⟩ | exact absurd h (by decide))⟩
set_option maxRecDepth 100000 in
theorem kf_X6_150 : ks_Fld RX6 150 3 1 (.array .int) 0 := ⟨RX3, TX3, 4, tyX3, kcl_3, by decide, ks_mg 62 (by decide +kernel) rfl, rfl, fun h => (by first | rfl | exact absurd h (by decide)), fun h => (by first | exact ⟨rfl, rfl⟩ | exact absurd h (by decide))⟩
set_option maxRecDepth 100000 in
theorem kf_X3_18 : ks_Fld RX3 18 3 2 (.array .int) 2 := ⟨RX3, TX3, 4, tyX3, kcl_3, by decide, ks_mg 63 (by decide +kernel) rfl, rfl, fun h => (by first | rfl | exact absurd h (by decide)), fun h => (by first | exact ⟨rfl, rfl⟩ | exact absurd h (by decide))⟩
set_option maxRecDepth 100000 in
theorem kf_X4_128 : ks_Fld RX4 128 3 2 (.array .int) 0 := ⟨RX3, TX3, 4, tyX3, kcl_3, by decide, ks_mg 64 (by decide +kernel) rfl, rfl, fun h => (by first | rfl | exact absurd h (by decide)), fun h => (by first | exact ⟨rfl, rfl⟩ | exact absurd h (by decide))⟩
set_option maxRecDepth 100000 in
theorem kf_X6_153 : ks_Fld RX6 153 3 2 (.array .int) 0 := ⟨RX3, TX3, 4, tyX3, kcl_3, by decide, ks_mg 65 (by decide +kernel) rfl, rfl, fun h => (by first | rfl | exact absurd h (by decide)), fun h => (by first | exact ⟨rfl, rfl⟩ | exact absurd h (by decide))⟩
set_option maxRecDepth 100000 in
theorem kf_X3_21 : ks_Fld RX3 21 3 3 (.int) 1 := ⟨RX3, TX3, 4, tyX3, kcl_3, by decide, ks_mg 66 (by decide +kernel) rfl, rfl, fun h => (by first | rfl | exact absurd h (by decide)), fun h => (by first | exact ⟨rfl, rfl⟩ | exact absurd h (by decide))⟩
set_option maxRecDepth 100000 in
theorem kf_X4_109 : ks_Fld RX4 109 3 3 (.int) 1 := ⟨RX3, TX3, 4, tyX3, kcl_3, by decide, ks_mg 67 (by decide +kernel) rfl, rfl, fun h => (by first | rfl | exact absurd h (by decide)), fun h => (by first | exact ⟨rfl, rfl⟩ | exact absurd h (by decide))⟩
set_option maxRecDepth 100000 in
theorem kf_X6_141 : ks_Fld RX6 141 3 3 (.int) 1 := ⟨RX3, TX3, 4, tyX3, kcl_3, by decide, ks_mg 68 (by decide +kernel) rfl, rfl, fun h => (by first | rfl | exact absurd h (by decide)), fun h => (by first | exact ⟨rfl, rfl⟩ | exact absurd h (by decide))⟩
set_option maxRecDepth 100000 in
theorem kf_X4_9 : ks_Fld RX4 9 4 0 (.array .int) 2 := ⟨RX4, TX4, 14, tyX4, kcl_4, by decide, ks_mg 83 (by decide +kernel) rfl, rfl, fun h => (by first | rfl | exact absurd h (by decide)), fun h => (by first | exact ⟨rfl, rfl⟩ | exact absurd h (by decide))⟩
set_option maxRecDepth 100000 in
theorem kf_X6_178 : ks_Fld RX6 178 4 0 (.array .int) 0 := ⟨RX4, TX4, 14, tyX4, kcl_4, by decide, ks_mg 84 (by decide +kernel) rfl, rfl, fun h => (by first | rfl | exact absurd h (by decide)), fun h => (by first | exact ⟨rfl, rfl⟩ | exact absurd h (by decide))⟩
set_option maxRecDepth 100000 in
theorem kf_X4_15 : ks_Fld RX4 15 4 1 (.int) 1 := ⟨RX4, TX4, 14, tyX4, kcl_4, by decide, ks_mg 85 (by decide +kernel) rfl, rfl, fun h => (by first | rfl | exact absurd h (by decide)), fun h => (by first | exact ⟨rfl, rfl⟩ | exact absurd h (by decide))⟩
set_option maxRecDepth 100000 in
theorem kf_X6_156 : ks_Fld RX6 156 4 1 (.int) 1 := ⟨RX4, TX4, 14, tyX4, kcl_4, by decide, ks_mg 86 (by decide +kernel) rfl, rfl, fun h => (by first | rfl | exact absurd h (by decide)), fun h => (by first | exact ⟨rfl, rfl⟩ | exact absurd h (by decide))⟩
set_option maxRecDepth 100000 in
theorem kf_X4_19 : ks_Fld RX4 19 4 2 (.int) 1 := ⟨RX4, TX4, 14, tyX4, kcl_4, by decide, ks_mg 87 (by decide +kernel) rfl, rfl, fun h => (by first | rfl | exact absurd h (by decide)), fun h => (by first | exact ⟨rfl, rfl⟩ | exact absurd h (by decide))⟩
set_option maxRecDepth 100000 in
theorem kf_X6_159 : ks_Fld RX6 159 4 2 (.int) 1 := ⟨RX4, TX4, 14, tyX4, kcl_4, by decide, ks_mg 88 (by decide +kernel) rfl, rfl, fun h => (by first | rfl | exact absurd h (by decide)), fun h => (by first | exact ⟨rfl, rfl⟩ | exact absurd h (by decide))⟩
set_option maxRecDepth 100000 in
theorem kf_X4_22 : ks_Fld RX4 22 4 3 (.int) 1 := ⟨RX4, TX4, 14, tyX4, kcl_4, by decide, ks_mg 89 (by decide +kernel) rfl, rfl, fun h => (by first | rfl | exact absurd h (by decide)), fun h => (by first | exact ⟨rfl, rfl⟩ | exact absurd h (by decide))⟩
set_option maxRecDepth 100000 in
theorem kf_X6_172 : ks_Fld RX6 172 4 3 (.int) 1 := ⟨RX4, TX4, 14, tyX4, kcl_4, by decide, ks_mg 90 (by decide +kernel) rfl, rfl, fun h => (by first | rfl | exact absurd h (by decide)), fun h => (by first | exact ⟨rfl, rfl⟩ | exact absurd h (by decide))⟩
set_option maxRecDepth 100000 in
theorem kf_X4_25 : ks_Fld RX4 25 4 4 (.int) 1 := ⟨RX4, TX4, 14, tyX4, kcl_4, by decide, ks_mg 91 (by decide +kernel) rfl, rfl, fun h => (by first | rfl | exact absurd h (by decide)), fun h => (by first | exact ⟨rfl, rfl⟩ | exact absurd h (by decide))⟩
set_option maxRecDepth 100000 in
theorem kf_X6_175 : ks_Fld RX6 175 4 4 (.int) 1 := ⟨RX4, TX4, 14, tyX4, kcl_4, by decide, ks_mg 92 (by decide +kernel) rfl, rfl, fun h => (by first | rfl | exact absurd h (by decide)), fun h => (by first | exact ⟨rfl, rfl⟩ | exact absurd h (by decide))⟩
set_option maxRecDepth 100000 in
theorem kf_X4_28 : ks_Fld RX4 28 4 5 (.array .int) 2 := ⟨RX4, TX4, 14, tyX4, kcl_4, by decide, ks_mg 93 (by decide +kernel) rfl, rfl, fun h => (by first | rfl | exact absurd h (by decide)), fun h => (by first | exact ⟨rfl, rfl⟩ | exact absurd h (by decide))⟩
set_option maxRecDepth 100000 in
theorem kf_X6_79 : ks_Fld RX6 79 4 5 (.array .int) 0 := ⟨RX4, TX4, 14, tyX4, kcl_4, by decide, ks_mg 94 (by decide +kernel) rfl, rfl, fun h => (by first | rfl | exact absurd h (by decide)), fun h => (by first | exact ⟨rfl, rfl⟩ | exact absurd h (by decide))⟩
set_option maxRecDepth 100000 in
theorem kf_X4_31 : ks_Fld RX4 31 4 6 (.array .int) 2 := ⟨RX4, TX4, 14, tyX4, kcl_4, by decide, ks_mg 95 (by decide +kernel) rfl, rfl, fun h => (by first | rfl | exact absurd h (by decide)), fun h => (by first | exact ⟨rfl, rfl⟩ | exact absurd h (by decide))⟩
set_option maxRecDepth 100000 in
theorem kf_X6_83 : ks_Fld RX6 83 4 6 (.array .int) 0 := ⟨RX4, TX4, 14, tyX4, kcl_4, by decide, ks_mg 96 (by decide +kernel) rfl, rfl, fun h => (by first | rfl | exact absurd h (by decide)), fun h => (by first | exact ⟨rfl, rfl⟩ | exact absurd h (by decide))⟩
set_option maxRecDepth 100000 in
theorem kf_X4_34 : ks_Fld RX4 34 4 7 (.array .int) 2 := ⟨RX4, TX4, 14, tyX4, kcl_4, by decide, ks_mg 97 (by decide +kernel) rfl, rfl, fun h => (by first | rfl | exact absurd h (by decide)), fun h => (by first | exact ⟨rfl, rfl⟩ | exact absurd h (by decide))⟩
set_option maxRecDepth 100000 in
theorem kf_X6_86 : ks_Fld RX6 86 4 7 (.array .int) 0 := ⟨RX4, TX4, 14, tyX4, kcl_4, by decide, ks_mg 98 (by decide +kernel) rfl, rfl, fun h => (by first | rfl | exact absurd h (by decide)), fun h => (by first | exact ⟨rfl, rfl⟩ | exact absurd h (by decide))⟩
set_option maxRecDepth 100000 in
theorem kf_X4_37 : ks_Fld RX4 37 4 8 (.array .int) 2 := ⟨RX4, TX4, 14, tyX4, kcl_4, by decide, ks_mg 99 (by decide +kernel) rfl, rfl, fun h => (by first | rfl | exact absurd h (by decide)), fun h => (by first | exact ⟨rfl, rfl⟩ | exact absurd h (by decide))⟩
set_option maxRecDepth 100000 in
theorem kf_X6_89 : ks_Fld RX6 89 4 8 (.array .int) 0 := ⟨RX4, TX4, 14, tyX4, kcl_4, by decide, ks_mg 100 (by decide +kernel) rfl, rfl, fun h => (by first | rfl | exact absurd h (by decide)), fun h => (by first | exact ⟨rfl, rfl⟩ | exact absurd h (by decide))⟩
set_option maxRecDepth 100000 in
theorem kf_X4_40 : ks_Fld RX4 40 4 9 (.array .int) 2 := ⟨RX4, TX4, 14, tyX4, kcl_4, by decide, ks_mg 101 (by decide +kernel) rfl, rfl, fun h => (by first | rfl | exact absurd h (by decide)), fun h => (by first | exact ⟨rfl, rfl⟩ | exact absurd h (by decide))⟩
set_option maxRecDepth 100000 in
theorem kf_X6_101 : ks_Fld RX6 101 4 9 (.array .int) 0 := ⟨RX4, TX4, 14, tyX4, kcl_4, by decide, ks_mg 102 (by decide +kernel) rfl, rfl, fun h => (by first | rfl | exact absurd h (by decide)), fun h => (by first | exact ⟨rfl, rfl⟩ | exact absurd h (by decide))⟩
set_option maxRecDepth 100000 in
theorem kf_X4_43 : ks_Fld RX4 43 4 10 (.array .int) 2 := ⟨RX4, TX4, 14, tyX4, kcl_4, by decide, ks_mg 103 (by decide +kernel) rfl, rfl, fun h => (by first | rfl | exact absurd h (by decide)), fun h => (by first | exact ⟨rfl, rfl⟩ | exact absurd h (by decide))⟩
set_option maxRecDepth 100000 in
theorem kf_X6_104 : ks_Fld RX6 104 4 10 (.array .int) 0 := ⟨RX4, TX4, 14, tyX4, kcl_4, by decide, ks_mg 104 (by decide +kernel) rfl, rfl, fun h => (by first | rfl | exact absurd h (by decide)), fun h => (by first | exact ⟨rfl, rfl⟩ | exact absurd h (by decide))⟩
set_option maxRecDepth 100000 in
theorem kf_X4_46 : ks_Fld RX4 46 4 11 (.array .int) 2 := ⟨RX4, TX4, 14, tyX4, kcl_4, by decide, ks_mg 105 (by decide +kernel) rfl, rfl, fun h => (by first | rfl | exact absurd h (by decide)), fun h => (by first | exact ⟨rfl, rfl⟩ | exact absurd h (by decide))⟩
set_option maxRecDepth 100000 in
theorem kf_X6_107 : ks_Fld RX6 107 4 11 (.array .int) 0 := ⟨RX4, TX4, 14, tyX4, kcl_4, by decide, ks_mg 106 (by decide +kernel) rfl, rfl, fun h => (by first | rfl | exact absurd h (by decide)), fun h => (by first | exact ⟨rfl, rfl⟩ | exact absurd h (by decide))⟩
set_option maxRecDepth 100000 in
theorem kf_X4_52 : ks_Fld RX4 52 4 12 (.object "KittenStairs$Yarn") 2 := ⟨RX4, TX4, 14, tyX4, kcl_4, by decide, ks_mg 107 (by decide +kernel) rfl, rfl, fun h => (by first | rfl | exact absurd h (by decide)), fun h => (by first | exact ⟨rfl, rfl⟩ | exact absurd h (by decide))⟩
set_option maxRecDepth 100000 in
theorem kf_X6_92 : ks_Fld RX6 92 4 12 (.object "KittenStairs$Yarn") 0 := ⟨RX4, TX4, 14, tyX4, kcl_4, by decide, ks_mg 108 (by decide +kernel) rfl, rfl, fun h => (by first | rfl | exact absurd h (by decide)), fun h => (by first | exact ⟨rfl, rfl⟩ | exact absurd h (by decide))⟩
set_option maxRecDepth 100000 in
theorem kf_X4_59 : ks_Fld RX4 59 4 13 (.object "KittenStairs$Plans") 2 := ⟨RX4, TX4, 14, tyX4, kcl_4, by decide, ks_mg 109 (by decide +kernel) rfl, rfl, fun h => (by first | rfl | exact absurd h (by decide)), fun h => (by first | exact ⟨rfl, rfl⟩ | exact absurd h (by decide))⟩
set_option maxRecDepth 100000 in
theorem kf_X6_137 : ks_Fld RX6 137 4 13 (.object "KittenStairs$Plans") 0 := ⟨RX4, TX4, 14, tyX4, kcl_4, by decide, ks_mg 110 (by decide +kernel) rfl, rfl, fun h => (by first | rfl | exact absurd h (by decide)), fun h => (by first | exact ⟨rfl, rfl⟩ | exact absurd h (by decide))⟩
set_option maxRecDepth 100000 in
theorem kf_X0_13 : ks_Fld RX0 13 0 0 (.array (.object "KittenStairs$Stairs")) 2 := ⟨RX0, TX0, 3, tyX0, kcl_0, by decide, ks_mg 148 (by decide +kernel) rfl, rfl, fun h => (by first | rfl | exact absurd h (by decide)), fun h => (by first | exact ⟨rfl, rfl⟩ | exact absurd h (by decide))⟩
set_option maxRecDepth 100000 in
theorem kf_X0_17 : ks_Fld RX0 17 0 1 (.int) 1 := ⟨RX0, TX0, 3, tyX0, kcl_0, by decide, ks_mg 149 (by decide +kernel) rfl, rfl, fun h => (by first | rfl | exact absurd h (by decide)), fun h => (by first | exact ⟨rfl, rfl⟩ | exact absurd h (by decide))⟩
set_option maxRecDepth 100000 in
theorem kf_X0_21 : ks_Fld RX0 21 0 2 (.int) 1 := ⟨RX0, TX0, 3, tyX0, kcl_0, by decide, ks_mg 150 (by decide +kernel) rfl, rfl, fun h => (by first | rfl | exact absurd h (by decide)), fun h => (by first | exact ⟨rfl, rfl⟩ | exact absurd h (by decide))⟩
set_option maxRecDepth 100000 in
theorem kf_X6_184 : ks_Fld RX6 184 0 2 (.int) 1 := ⟨RX0, TX0, 3, tyX0, kcl_0, by decide, ks_mg 151 (by decide +kernel) rfl, rfl, fun h => (by first | rfl | exact absurd h (by decide)), fun h => (by first | exact ⟨rfl, rfl⟩ | exact absurd h (by decide))⟩
set_option maxRecDepth 100000 in
theorem kf_X2_9 : ks_Fld RX2 9 2 0 (.array .int) 2 := ⟨RX2, TX2, 2, tyX2, kcl_2, by decide, ks_mg 165 (by decide +kernel) rfl, rfl, fun h => (by first | rfl | exact absurd h (by decide)), fun h => (by first | exact ⟨rfl, rfl⟩ | exact absurd h (by decide))⟩
set_option maxRecDepth 100000 in
theorem kf_X2_15 : ks_Fld RX2 15 2 1 (.int) 1 := ⟨RX2, TX2, 2, tyX2, kcl_2, by decide, ks_mg 166 (by decide +kernel) rfl, rfl, fun h => (by first | rfl | exact absurd h (by decide)), fun h => (by first | exact ⟨rfl, rfl⟩ | exact absurd h (by decide))⟩
set_option maxRecDepth 100000 in
theorem kf_X6_181 : ks_Fld RX6 181 2 1 (.int) 1 := ⟨RX2, TX2, 2, tyX2, kcl_2, by decide, ks_mg 167 (by decide +kernel) rfl, rfl, fun h => (by first | rfl | exact absurd h (by decide)), fun h => (by first | exact ⟨rfl, rfl⟩ | exact absurd h (by decide))⟩
set_option maxRecDepth 100000 in
theorem kf_X1_9 : ks_Fld RX1 9 1 0 (.array .int) 2 := ⟨RX1, TX1, 4, tyX1, kcl_1, by decide, ks_mg 179 (by decide +kernel) rfl, rfl, fun h => (by first | rfl | exact absurd h (by decide)), fun h => (by first | exact ⟨rfl, rfl⟩ | exact absurd h (by decide))⟩
set_option maxRecDepth 100000 in
theorem kf_X1_15 : ks_Fld RX1 15 1 1 (.array .int) 2 := ⟨RX1, TX1, 4, tyX1, kcl_1, by decide, ks_mg 180 (by decide +kernel) rfl, rfl, fun h => (by first | rfl | exact absurd h (by decide)), fun h => (by first | exact ⟨rfl, rfl⟩ | exact absurd h (by decide))⟩
set_option maxRecDepth 100000 in
theorem kf_X1_18 : ks_Fld RX1 18 1 2 (.int) 1 := ⟨RX1, TX1, 4, tyX1, kcl_1, by decide, ks_mg 181 (by decide +kernel) rfl, rfl, fun h => (by first | rfl | exact absurd h (by decide)), fun h => (by first | exact ⟨rfl, rfl⟩ | exact absurd h (by decide))⟩
set_option maxRecDepth 100000 in
theorem kf_X1_22 : ks_Fld RX1 22 1 3 (.int) 1 := ⟨RX1, TX1, 4, tyX1, kcl_1, by decide, ks_mg 182 (by decide +kernel) rfl, rfl, fun h => (by first | rfl | exact absurd h (by decide)), fun h => (by first | exact ⟨rfl, rfl⟩ | exact absurd h (by decide))⟩
set_option maxRecDepth 100000 in
theorem kf_X6_12 : ks_Fld RX6 12 6 0 (.object "KittenStairs$Stairs") 2 := ⟨RX6, TX6, 6, tyX6, kcl_6, by decide, ks_mg 192 (by decide +kernel) rfl, rfl, fun h => (by first | rfl | exact absurd h (by decide)), fun h => (by first | exact ⟨rfl, rfl⟩ | exact absurd h (by decide))⟩
set_option maxRecDepth 100000 in
theorem kf_X6_16 : ks_Fld RX6 16 6 1 (.object "KittenStairs$Stairs") 2 := ⟨RX6, TX6, 6, tyX6, kcl_6, by decide, ks_mg 193 (by decide +kernel) rfl, rfl, fun h => (by first | rfl | exact absurd h (by decide)), fun h => (by first | exact ⟨rfl, rfl⟩ | exact absurd h (by decide))⟩
set_option maxRecDepth 100000 in
theorem kf_X6_22 : ks_Fld RX6 22 6 2 (.object "KittenStairs$History") 2 := ⟨RX6, TX6, 6, tyX6, kcl_6, by decide, ks_mg 194 (by decide +kernel) rfl, rfl, fun h => (by first | rfl | exact absurd h (by decide)), fun h => (by first | exact ⟨rfl, rfl⟩ | exact absurd h (by decide))⟩
set_option maxRecDepth 100000 in
theorem kf_X6_26 : ks_Fld RX6 26 6 3 (.array (.object "KittenStairs$Stairs")) 2 := ⟨RX6, TX6, 6, tyX6, kcl_6, by decide, ks_mg 195 (by decide +kernel) rfl, rfl, fun h => (by first | rfl | exact absurd h (by decide)), fun h => (by first | exact ⟨rfl, rfl⟩ | exact absurd h (by decide))⟩
set_option maxRecDepth 100000 in
theorem kf_X6_33 : ks_Fld RX6 33 6 4 (.object "KittenStairs$Pad") 2 := ⟨RX6, TX6, 6, tyX6, kcl_6, by decide, ks_mg 196 (by decide +kernel) rfl, rfl, fun h => (by first | rfl | exact absurd h (by decide)), fun h => (by first | exact ⟨rfl, rfl⟩ | exact absurd h (by decide))⟩
set_option maxRecDepth 100000 in
theorem kf_X6_40 : ks_Fld RX6 40 6 5 (.object "KittenStairs$Orders") 2 := ⟨RX6, TX6, 6, tyX6, kcl_6, by decide, ks_mg 197 (by decide +kernel) rfl, rfl, fun h => (by first | rfl | exact absurd h (by decide)), fun h => (by first | exact ⟨rfl, rfl⟩ | exact absurd h (by decide))⟩
set_option maxRecDepth 100000 in
theorem kb_X6_init : ks_CB yX6_init cX6_init 1 none 0 := ⟨ks_mg 11 (by decide +kernel) rfl, ks_mg 24 (by decide +kernel) rfl, ⟨by decide +kernel, by decide +kernel⟩, by decide +kernel, by decide⟩
set_option maxRecDepth 100000 in
theorem kb_X4_init : ks_CB yX4_init cX4_init 1 none 0 := ⟨ks_mg 12 (by decide +kernel) rfl, ks_mg 32 (by decide +kernel) rfl, ⟨by decide +kernel, by decide +kernel⟩, by decide +kernel, by decide⟩
set_option maxRecDepth 100000 in
theorem kb_X5_init : ks_CB yX5_init cX5_init 1 none 0 := ⟨ks_mg 13 (by decide +kernel) rfl, ks_mg 38 (by decide +kernel) rfl, ⟨by decide +kernel, by decide +kernel⟩, by decide +kernel, by decide⟩
set_option maxRecDepth 100000 in
theorem kb_X3_init : ks_CB yX3_init cX3_init 1 none 0 := ⟨ks_mg 14 (by decide +kernel) rfl, ks_mg 56 (by decide +kernel) rfl, ⟨by decide +kernel, by decide +kernel⟩, by decide +kernel, by decide⟩
set_option maxRecDepth 100000 in
theorem kb_X0_init : ks_CB yX0_init cX0_init 1 none 0 := ⟨ks_mg 16 (by decide +kernel) rfl, ks_mg 144 (by decide +kernel) rfl, ⟨by decide +kernel, by decide +kernel⟩, by decide +kernel, by decide⟩
set_option maxRecDepth 100000 in
theorem kb_X2_init : ks_CB yX2_init cX2_init 1 none 0 := ⟨ks_mg 17 (by decide +kernel) rfl, ks_mg 163 (by decide +kernel) rfl, ⟨by decide +kernel, by decide +kernel⟩, by decide +kernel, by decide⟩
set_option maxRecDepth 100000 in
theorem kb_X1_init : ks_CB yX1_init cX1_init 1 none 0 := ⟨ks_mg 18 (by decide +kernel) rfl, ks_mg 177 (by decide +kernel) rfl, ⟨by decide +kernel, by decide +kernel⟩, by decide +kernel, by decide⟩
set_option maxRecDepth 100000 in
theorem kb_X6_kitten : ks_CB yX6_kitten cX6_kitten 2 (some .int) 1 := ⟨ks_mg 11 (by decide +kernel) rfl, ks_mg 214 (by decide +kernel) rfl, ⟨by decide +kernel, by decide +kernel⟩, by decide +kernel, by decide⟩
set_option maxRecDepth 100000 in
theorem kb_X0_draft : ks_CB yX0_draft cX0_draft 2 none 1 := ⟨ks_mg 16 (by decide +kernel) rfl, ks_mg 218 (by decide +kernel) rfl, ⟨by decide +kernel, by decide +kernel⟩, by decide +kernel, by decide⟩
set_option maxRecDepth 100000 in
theorem kb_X6_roomAt : ks_CB yX6_roomAt cX6_roomAt 3 (some (.object "KittenStairs$Stairs")) 2 := ⟨ks_mg 11 (by decide +kernel) rfl, ks_mg 221 (by decide +kernel) rfl, ⟨by decide +kernel, by decide +kernel⟩, by decide +kernel, by decide⟩
set_option maxRecDepth 100000 in
theorem kb_X4_copyFrom : ks_CB yX4_copyFrom cX4_copyFrom 2 none 1 := ⟨ks_mg 12 (by decide +kernel) rfl, ks_mg 225 (by decide +kernel) rfl, ⟨by decide +kernel, by decide +kernel⟩, by decide +kernel, by decide⟩
set_option maxRecDepth 100000 in
theorem kb_X5_copyFrom : ks_CB yX5_copyFrom cX5_copyFrom 2 none 1 := ⟨ks_mg 13 (by decide +kernel) rfl, ks_mg 229 (by decide +kernel) rfl, ⟨by decide +kernel, by decide +kernel⟩, by decide +kernel, by decide⟩
set_option maxRecDepth 100000 in
theorem kb_X3_copyFrom : ks_CB yX3_copyFrom cX3_copyFrom 2 none 1 := ⟨ks_mg 14 (by decide +kernel) rfl, ks_mg 234 (by decide +kernel) rfl, ⟨by decide +kernel, by decide +kernel⟩, by decide +kernel, by decide⟩
set_option maxRecDepth 100000 in
theorem kb_X4_addKitten : ks_CB yX4_addKitten cX4_addKitten 3 (some .int) 1 := ⟨ks_mg 12 (by decide +kernel) rfl, ks_mg 239 (by decide +kernel) rfl, ⟨by decide +kernel, by decide +kernel⟩, by decide +kernel, by decide⟩
set_option maxRecDepth 100000 in
theorem kb_X6_settled : ks_CB yX6_settled cX6_settled 2 (some .int) 1 := ⟨ks_mg 11 (by decide +kernel) rfl, ks_mg 243 (by decide +kernel) rfl, ⟨by decide +kernel, by decide +kernel⟩, by decide +kernel, by decide⟩
set_option maxRecDepth 100000 in
theorem kb_X0_keepDraft : ks_CB yX0_keepDraft cX0_keepDraft 1 none 0 := ⟨ks_mg 16 (by decide +kernel) rfl, ks_mg 247 (by decide +kernel) rfl, ⟨by decide +kernel, by decide +kernel⟩, by decide +kernel, by decide⟩
set_option maxRecDepth 100000 in
theorem kb_X6_count : ks_CB yX6_count cX6_count 2 (some .int) 1 := ⟨ks_mg 11 (by decide +kernel) rfl, ks_mg 251 (by decide +kernel) rfl, ⟨by decide +kernel, by decide +kernel⟩, by decide +kernel, by decide⟩
set_option maxRecDepth 100000 in
theorem kb_X4_nappingSet : ks_CB yX4_nappingSet cX4_nappingSet 3 (some .int) 0 := ⟨ks_mg 12 (by decide +kernel) rfl, ks_mg 255 (by decide +kernel) rfl, ⟨by decide +kernel, by decide +kernel⟩, by decide +kernel, by decide⟩
set_option maxRecDepth 100000 in
theorem kb_X4_naps : ks_CB yX4_naps cX4_naps 2 (some .boolean) 1 := ⟨ks_mg 12 (by decide +kernel) rfl, ks_mg 259 (by decide +kernel) rfl, ⟨by decide +kernel, by decide +kernel⟩, by decide +kernel, by decide⟩
set_option maxRecDepth 100000 in
theorem kb_X4_sumOfAll : ks_CB yX4_sumOfAll cX4_sumOfAll 4 (some .int) 1 := ⟨ks_mg 12 (by decide +kernel) rfl, ks_mg 263 (by decide +kernel) rfl, ⟨by decide +kernel, by decide +kernel⟩, by decide +kernel, by decide⟩
set_option maxRecDepth 100000 in
theorem kb_X4_boundPairs : ks_CB yX4_boundPairs cX4_boundPairs 5 (some .int) 1 := ⟨ks_mg 12 (by decide +kernel) rfl, ks_mg 267 (by decide +kernel) rfl, ⟨by decide +kernel, by decide +kernel⟩, by decide +kernel, by decide⟩
set_option maxRecDepth 100000 in
theorem kb_X5_boundEdgeSet : ks_CB yX5_boundEdgeSet cX5_boundEdgeSet 9 (some .int) 2 := ⟨ks_mg 13 (by decide +kernel) rfl, ks_mg 271 (by decide +kernel) rfl, ⟨by decide +kernel, by decide +kernel⟩, by decide +kernel, by decide⟩
set_option maxRecDepth 100000 in
theorem kb_X6_undo : ks_CB yX6_undo cX6_undo 1 (some .int) 0 := ⟨ks_mg 11 (by decide +kernel) rfl, ks_mg 275 (by decide +kernel) rfl, ⟨by decide +kernel, by decide +kernel⟩, by decide +kernel, by decide⟩
set_option maxRecDepth 100000 in
theorem kb_X0_takeBack : ks_CB yX0_takeBack cX0_takeBack 2 none 1 := ⟨ks_mg 16 (by decide +kernel) rfl, ks_mg 279 (by decide +kernel) rfl, ⟨by decide +kernel, by decide +kernel⟩, by decide +kernel, by decide⟩
set_option maxRecDepth 100000 in
theorem kb_X6_of : ks_CB yX6_of cX6_of 3 (some .int) 2 := ⟨ks_mg 11 (by decide +kernel) rfl, ks_mg 295 (by decide +kernel) rfl, ⟨by decide +kernel, by decide +kernel⟩, by decide +kernel, by decide⟩
set_option maxRecDepth 100000 in
theorem kb_X4_hasKitten : ks_CB yX4_hasKitten cX4_hasKitten 2 (some .boolean) 1 := ⟨ks_mg 12 (by decide +kernel) rfl, ks_mg 299 (by decide +kernel) rfl, ⟨by decide +kernel, by decide +kernel⟩, by decide +kernel, by decide⟩
set_option maxRecDepth 100000 in
theorem kb_X5_lyingOf : ks_CB yX5_lyingOf cX5_lyingOf 4 (some .int) 1 := ⟨ks_mg 13 (by decide +kernel) rfl, ks_mg 303 (by decide +kernel) rfl, ⟨by decide +kernel, by decide +kernel⟩, by decide +kernel, by decide⟩
set_option maxRecDepth 100000 in
theorem kb_X4_boundSet : ks_CB yX4_boundSet cX4_boundSet 4 (some .int) 1 := ⟨ks_mg 12 (by decide +kernel) rfl, ks_mg 307 (by decide +kernel) rfl, ⟨by decide +kernel, by decide +kernel⟩, by decide +kernel, by decide⟩
set_option maxRecDepth 100000 in
theorem kb_X4_reachSet : ks_CB yX4_reachSet cX4_reachSet 5 (some .int) 1 := ⟨ks_mg 12 (by decide +kernel) rfl, ks_mg 311 (by decide +kernel) rfl, ⟨by decide +kernel, by decide +kernel⟩, by decide +kernel, by decide⟩
set_option maxRecDepth 100000 in
theorem kb_X4_refusal : ks_CB yX4_refusal cX4_refusal 4 (some .int) 2 := ⟨ks_mg 12 (by decide +kernel) rfl, ks_mg 315 (by decide +kernel) rfl, ⟨by decide +kernel, by decide +kernel⟩, by decide +kernel, by decide⟩
set_option maxRecDepth 100000 in
theorem kb_X4_cost : ks_CB yX4_cost cX4_cost 1 (some .int) 1 := ⟨ks_mg 12 (by decide +kernel) rfl, ks_mg 318 (by decide +kernel) rfl, ⟨by decide +kernel, by decide +kernel⟩, by decide +kernel, by decide⟩
set_option maxRecDepth 100000 in
theorem kb_X4_isHeldBack : ks_CB yX4_isHeldBack cX4_isHeldBack 6 (some .boolean) 2 := ⟨ks_mg 12 (by decide +kernel) rfl, ks_mg 322 (by decide +kernel) rfl, ⟨by decide +kernel, by decide +kernel⟩, by decide +kernel, by decide⟩
set_option maxRecDepth 100000 in
theorem kb_X4_ballLasts : ks_CB yX4_ballLasts cX4_ballLasts 7 (some .boolean) 2 := ⟨ks_mg 12 (by decide +kernel) rfl, ks_mg 329 (by decide +kernel) rfl, ⟨by decide +kernel, by decide +kernel⟩, by decide +kernel, by decide⟩
set_option maxRecDepth 100000 in
theorem kb_X4_edgeOnWay : ks_CB yX4_edgeOnWay cX4_edgeOnWay 3 (some .int) 3 := ⟨ks_mg 12 (by decide +kernel) rfl, ks_mg 332 (by decide +kernel) rfl, ⟨by decide +kernel, by decide +kernel⟩, by decide +kernel, by decide⟩
set_option maxRecDepth 100000 in
theorem kb_X5_topOwner : ks_CB yX5_topOwner cX5_topOwner 3 (some .int) 1 := ⟨ks_mg 13 (by decide +kernel) rfl, ks_mg 336 (by decide +kernel) rfl, ⟨by decide +kernel, by decide +kernel⟩, by decide +kernel, by decide⟩
set_option maxRecDepth 100000 in
theorem kb_X6_bound : ks_CB yX6_bound cX6_bound 3 (some .int) 2 := ⟨ks_mg 11 (by decide +kernel) rfl, ks_mg 343 (by decide +kernel) rfl, ⟨by decide +kernel, by decide +kernel⟩, by decide +kernel, by decide⟩
set_option maxRecDepth 100000 in
theorem kb_X6_frees : ks_CB yX6_frees cX6_frees 5 (some .int) 2 := ⟨ks_mg 11 (by decide +kernel) rfl, ks_mg 348 (by decide +kernel) rfl, ⟨by decide +kernel, by decide +kernel⟩, by decide +kernel, by decide⟩
set_option maxRecDepth 100000 in
theorem kb_X5_fewestGone : ks_CB yX5_fewestGone cX5_fewestGone 6 (some .int) 3 := ⟨ks_mg 13 (by decide +kernel) rfl, ks_mg 352 (by decide +kernel) rfl, ⟨by decide +kernel, by decide +kernel⟩, by decide +kernel, by decide⟩
set_option maxRecDepth 100000 in
theorem kb_X5_mostKept : ks_CB yX5_mostKept cX5_mostKept 7 (some .int) 3 := ⟨ks_mg 13 (by decide +kernel) rfl, ks_mg 356 (by decide +kernel) rfl, ⟨by decide +kernel, by decide +kernel⟩, by decide +kernel, by decide⟩
set_option maxRecDepth 100000 in
theorem kb_X6_ofEdge : ks_CB yX6_ofEdge cX6_ofEdge 3 (some .int) 2 := ⟨ks_mg 11 (by decide +kernel) rfl, ks_mg 366 (by decide +kernel) rfl, ⟨by decide +kernel, by decide +kernel⟩, by decide +kernel, by decide⟩
set_option maxRecDepth 100000 in
theorem kb_X6_isEdge : ks_CB yX6_isEdge cX6_isEdge 1 (some .boolean) 1 := ⟨ks_mg 11 (by decide +kernel) rfl, ks_mg 369 (by decide +kernel) rfl, ⟨by decide +kernel, by decide +kernel⟩, by decide +kernel, by decide⟩
set_option maxRecDepth 100000 in
theorem kb_X5_lyingAt : ks_CB yX5_lyingAt cX5_lyingAt 4 (some .int) 1 := ⟨ks_mg 13 (by decide +kernel) rfl, ks_mg 373 (by decide +kernel) rfl, ⟨by decide +kernel, by decide +kernel⟩, by decide +kernel, by decide⟩
set_option maxRecDepth 100000 in
theorem kb_X5_ownerSetAt : ks_CB yX5_ownerSetAt cX5_ownerSetAt 4 (some .int) 1 := ⟨ks_mg 13 (by decide +kernel) rfl, ks_mg 378 (by decide +kernel) rfl, ⟨by decide +kernel, by decide +kernel⟩, by decide +kernel, by decide⟩
set_option maxRecDepth 100000 in
theorem kb_X6_strand : ks_CB yX6_strand cX6_strand 3 (some .int) 2 := ⟨ks_mg 11 (by decide +kernel) rfl, ks_mg 382 (by decide +kernel) rfl, ⟨by decide +kernel, by decide +kernel⟩, by decide +kernel, by decide⟩
set_option maxRecDepth 100000 in
theorem kb_X5_ownerAt : ks_CB yX5_ownerAt cX5_ownerAt 5 (some .int) 2 := ⟨ks_mg 13 (by decide +kernel) rfl, ks_mg 386 (by decide +kernel) rfl, ⟨by decide +kernel, by decide +kernel⟩, by decide +kernel, by decide⟩
set_option maxRecDepth 100000 in
theorem kb_X6_thickest : ks_CB yX6_thickest cX6_thickest 5 (some .int) 0 := ⟨ks_mg 11 (by decide +kernel) rfl, ks_mg 390 (by decide +kernel) rfl, ⟨by decide +kernel, by decide +kernel⟩, by decide +kernel, by decide⟩
set_option maxRecDepth 100000 in
theorem kb_X6_planned : ks_CB yX6_planned cX6_planned 3 (some .int) 2 := ⟨ks_mg 11 (by decide +kernel) rfl, ks_mg 397 (by decide +kernel) rfl, ⟨by decide +kernel, by decide +kernel⟩, by decide +kernel, by decide⟩
set_option maxRecDepth 100000 in
theorem kb_X6_quietIn : ks_CB yX6_quietIn cX6_quietIn 2 (some .int) 0 := ⟨ks_mg 11 (by decide +kernel) rfl, ks_mg 401 (by decide +kernel) rfl, ⟨by decide +kernel, by decide +kernel⟩, by decide +kernel, by decide⟩
set_option maxRecDepth 100000 in
theorem kb_X4_lastWaking : ks_CB yX4_lastWaking cX4_lastWaking 3 (some .int) 0 := ⟨ks_mg 12 (by decide +kernel) rfl, ks_mg 405 (by decide +kernel) rfl, ⟨by decide +kernel, by decide +kernel⟩, by decide +kernel, by decide⟩
set_option maxRecDepth 100000 in
theorem kb_X3_lastTurn : ks_CB yX3_lastTurn cX3_lastTurn 1 (some .int) 0 := ⟨ks_mg 14 (by decide +kernel) rfl, ks_mg 410 (by decide +kernel) rfl, ⟨by decide +kernel, by decide +kernel⟩, by decide +kernel, by decide⟩
set_option maxRecDepth 100000 in
theorem kb_X6_why : ks_CB yX6_why cX6_why 3 (some .int) 2 := ⟨ks_mg 11 (by decide +kernel) rfl, ks_mg 423 (by decide +kernel) rfl, ⟨by decide +kernel, by decide +kernel⟩, by decide +kernel, by decide⟩
set_option maxRecDepth 100000 in
theorem kb_X6_isLeap : ks_CB yX6_isLeap cX6_isLeap 1 (some .boolean) 1 := ⟨ks_mg 11 (by decide +kernel) rfl, ks_mg 426 (by decide +kernel) rfl, ⟨by decide +kernel, by decide +kernel⟩, by decide +kernel, by decide⟩
set_option maxRecDepth 100000 in
theorem kb_X6_ifLeapt : ks_CB yX6_ifLeapt cX6_ifLeapt 4 (some .int) 3 := ⟨ks_mg 11 (by decide +kernel) rfl, ks_mg 431 (by decide +kernel) rfl, ⟨by decide +kernel, by decide +kernel⟩, by decide +kernel, by decide⟩
set_option maxRecDepth 100000 in
theorem kb_X4_makeLeap : ks_CB yX4_makeLeap cX4_makeLeap 5 none 2 := ⟨ks_mg 12 (by decide +kernel) rfl, ks_mg 436 (by decide +kernel) rfl, ⟨by decide +kernel, by decide +kernel⟩, by decide +kernel, by decide⟩
set_option maxRecDepth 100000 in
theorem kb_X4_comeOver : ks_CB yX4_comeOver cX4_comeOver 3 none 2 := ⟨ks_mg 12 (by decide +kernel) rfl, ks_mg 440 (by decide +kernel) rfl, ⟨by decide +kernel, by decide +kernel⟩, by decide +kernel, by decide⟩
set_option maxRecDepth 100000 in
theorem kb_X5_removeTop : ks_CB yX5_removeTop cX5_removeTop 4 none 1 := ⟨ks_mg 13 (by decide +kernel) rfl, ks_mg 444 (by decide +kernel) rfl, ⟨by decide +kernel, by decide +kernel⟩, by decide +kernel, by decide⟩
set_option maxRecDepth 100000 in
theorem kb_X5_lay : ks_CB yX5_lay cX5_lay 3 none 2 := ⟨ks_mg 13 (by decide +kernel) rfl, ks_mg 448 (by decide +kernel) rfl, ⟨by decide +kernel, by decide +kernel⟩, by decide +kernel, by decide⟩
set_option maxRecDepth 100000 in
theorem kb_X6_leap : ks_CB yX6_leap cX6_leap 3 (some .int) 2 := ⟨ks_mg 11 (by decide +kernel) rfl, ks_mg 452 (by decide +kernel) rfl, ⟨by decide +kernel, by decide +kernel⟩, by decide +kernel, by decide⟩
set_option maxRecDepth 100000 in
theorem kb_X4_tryLeap : ks_CB yX4_tryLeap cX4_tryLeap 3 (some .int) 2 := ⟨ks_mg 12 (by decide +kernel) rfl, ks_mg 456 (by decide +kernel) rfl, ⟨by decide +kernel, by decide +kernel⟩, by decide +kernel, by decide⟩
set_option maxRecDepth 100000 in
theorem kb_X6_stepIn : ks_CB yX6_stepIn cX6_stepIn 4 (some .int) 2 := ⟨ks_mg 11 (by decide +kernel) rfl, ks_mg 466 (by decide +kernel) rfl, ⟨by decide +kernel, by decide +kernel⟩, by decide +kernel, by decide⟩
set_option maxRecDepth 100000 in
theorem kb_X4_passOneTurn : ks_CB yX4_passOneTurn cX4_passOneTurn 5 (some .int) 0 := ⟨ks_mg 12 (by decide +kernel) rfl, ks_mg 470 (by decide +kernel) rfl, ⟨by decide +kernel, by decide +kernel⟩, by decide +kernel, by decide⟩
set_option maxRecDepth 100000 in
theorem kb_X4_wakeKittens : ks_CB yX4_wakeKittens cX4_wakeKittens 2 none 0 := ⟨ks_mg 12 (by decide +kernel) rfl, ks_mg 474 (by decide +kernel) rfl, ⟨by decide +kernel, by decide +kernel⟩, by decide +kernel, by decide⟩
set_option maxRecDepth 100000 in
theorem kb_X3_firstTurn : ks_CB yX3_firstTurn cX3_firstTurn 1 (some .int) 0 := ⟨ks_mg 14 (by decide +kernel) rfl, ks_mg 478 (by decide +kernel) rfl, ⟨by decide +kernel, by decide +kernel⟩, by decide +kernel, by decide⟩
set_option maxRecDepth 100000 in
theorem kb_X3_removeFirst : ks_CB yX3_removeFirst cX3_removeFirst 2 none 0 := ⟨ks_mg 14 (by decide +kernel) rfl, ks_mg 482 (by decide +kernel) rfl, ⟨by decide +kernel, by decide +kernel⟩, by decide +kernel, by decide⟩
set_option maxRecDepth 100000 in
theorem kb_X3_move : ks_CB yX3_move cX3_move 3 none 2 := ⟨ks_mg 14 (by decide +kernel) rfl, ks_mg 486 (by decide +kernel) rfl, ⟨by decide +kernel, by decide +kernel⟩, by decide +kernel, by decide⟩
set_option maxRecDepth 100000 in
theorem kb_X4_refreshKittens : ks_CB yX4_refreshKittens cX4_refreshKittens 2 none 0 := ⟨ks_mg 12 (by decide +kernel) rfl, ks_mg 490 (by decide +kernel) rfl, ⟨by decide +kernel, by decide +kernel⟩, by decide +kernel, by decide⟩
set_option maxRecDepth 100000 in
theorem kb_X6_pass : ks_CB yX6_pass cX6_pass 2 (some .int) 1 := ⟨ks_mg 11 (by decide +kernel) rfl, ks_mg 494 (by decide +kernel) rfl, ⟨by decide +kernel, by decide +kernel⟩, by decide +kernel, by decide⟩
set_option maxRecDepth 100000 in
theorem kb_X4_passTurns : ks_CB yX4_passTurns cX4_passTurns 4 (some .int) 1 := ⟨ks_mg 12 (by decide +kernel) rfl, ks_mg 498 (by decide +kernel) rfl, ⟨by decide +kernel, by decide +kernel⟩, by decide +kernel, by decide⟩
set_option maxRecDepth 100000 in
theorem kb_X6_set : ks_CB yX6_set cX6_set 3 (some .int) 2 := ⟨ks_mg 11 (by decide +kernel) rfl, ks_mg 506 (by decide +kernel) rfl, ⟨by decide +kernel, by decide +kernel⟩, by decide +kernel, by decide⟩
set_option maxRecDepth 100000 in
theorem kb_X4_changeSetting : ks_CB yX4_changeSetting cX4_changeSetting 4 (some .int) 2 := ⟨ks_mg 12 (by decide +kernel) rfl, ks_mg 510 (by decide +kernel) rfl, ⟨by decide +kernel, by decide +kernel⟩, by decide +kernel, by decide⟩
set_option maxRecDepth 100000 in
theorem kb_X6_nap : ks_CB yX6_nap cX6_nap 2 (some .int) 1 := ⟨ks_mg 11 (by decide +kernel) rfl, ks_mg 518 (by decide +kernel) rfl, ⟨by decide +kernel, by decide +kernel⟩, by decide +kernel, by decide⟩
set_option maxRecDepth 100000 in
theorem kb_X4_beginNap : ks_CB yX4_beginNap cX4_beginNap 2 (some .int) 1 := ⟨ks_mg 12 (by decide +kernel) rfl, ks_mg 522 (by decide +kernel) rfl, ⟨by decide +kernel, by decide +kernel⟩, by decide +kernel, by decide⟩
set_option maxRecDepth 100000 in
theorem kb_X6_snip : ks_CB yX6_snip cX6_snip 3 (some .int) 2 := ⟨ks_mg 11 (by decide +kernel) rfl, ks_mg 526 (by decide +kernel) rfl, ⟨by decide +kernel, by decide +kernel⟩, by decide +kernel, by decide⟩
set_option maxRecDepth 100000 in
theorem kb_X4_snipStrands : ks_CB yX4_snipStrands cX4_snipStrands 4 (some .int) 2 := ⟨ks_mg 12 (by decide +kernel) rfl, ks_mg 530 (by decide +kernel) rfl, ⟨by decide +kernel, by decide +kernel⟩, by decide +kernel, by decide⟩
set_option maxRecDepth 100000 in
theorem kb_X5_removeAll : ks_CB yX5_removeAll cX5_removeAll 5 (some .int) 2 := ⟨ks_mg 13 (by decide +kernel) rfl, ks_mg 535 (by decide +kernel) rfl, ⟨by decide +kernel, by decide +kernel⟩, by decide +kernel, by decide⟩
set_option maxRecDepth 100000 in
theorem kb_X6_plan : ks_CB yX6_plan cX6_plan 4 (some .int) 3 := ⟨ks_mg 11 (by decide +kernel) rfl, ks_mg 539 (by decide +kernel) rfl, ⟨by decide +kernel, by decide +kernel⟩, by decide +kernel, by decide⟩
set_option maxRecDepth 100000 in
theorem kb_X4_planLeap : ks_CB yX4_planLeap cX4_planLeap 4 (some .int) 3 := ⟨ks_mg 12 (by decide +kernel) rfl, ks_mg 543 (by decide +kernel) rfl, ⟨by decide +kernel, by decide +kernel⟩, by decide +kernel, by decide⟩
set_option maxRecDepth 100000 in
theorem kb_X3_insert : ks_CB yX3_insert cX3_insert 5 none 3 := ⟨ks_mg 14 (by decide +kernel) rfl, ks_mg 547 (by decide +kernel) rfl, ⟨by decide +kernel, by decide +kernel⟩, by decide +kernel, by decide⟩
set_option maxRecDepth 100000 in
theorem kb_X3_isLater : ks_CB yX3_isLater cX3_isLater 4 (some .boolean) 3 := ⟨ks_mg 14 (by decide +kernel) rfl, ks_mg 551 (by decide +kernel) rfl, ⟨by decide +kernel, by decide +kernel⟩, by decide +kernel, by decide⟩
set_option maxRecDepth 100000 in
theorem kc_L_96 : ks_CI RL 96 yX6_init cX6_init 1 0 := ⟨kb_X6_init, Or.inl (ks_mg 22 (by decide +kernel) rfl), ks_mg 23 (by decide +kernel) rfl, rfl⟩
set_option maxRecDepth 100000 in
theorem kc_X6_11 : ks_CI RX6 11 yX4_init cX4_init 1 0 := ⟨kb_X4_init, Or.inl (ks_mg 30 (by decide +kernel) rfl), ks_mg 31 (by decide +kernel) rfl, rfl⟩
set_option maxRecDepth 100000 in
theorem kc_X4_51 : ks_CI RX4 51 yX5_init cX5_init 1 0 := ⟨kb_X5_init, Or.inr ⟨RX6, by decide +kernel⟩, ks_mg 37 (by decide +kernel) rfl, rfl⟩
set_option maxRecDepth 100000 in
theorem kc_X4_58 : ks_CI RX4 58 yX3_init cX3_init 1 0 := ⟨kb_X3_init, Or.inr ⟨RX6, by decide +kernel⟩, ks_mg 55 (by decide +kernel) rfl, rfl⟩
set_option maxRecDepth 100000 in
theorem kc_X6_21 : ks_CI RX6 21 yX0_init cX0_init 1 0 := ⟨kb_X0_init, Or.inr ⟨RX6, by decide +kernel⟩, ks_mg 143 (by decide +kernel) rfl, rfl⟩
set_option maxRecDepth 100000 in
theorem kc_X6_32 : ks_CI RX6 32 yX2_init cX2_init 1 0 := ⟨kb_X2_init, Or.inr ⟨RX6, by decide +kernel⟩, ks_mg 162 (by decide +kernel) rfl, rfl⟩
set_option maxRecDepth 100000 in
theorem kc_X6_39 : ks_CI RX6 39 yX1_init cX1_init 1 0 := ⟨kb_X1_init, Or.inr ⟨RX6, by decide +kernel⟩, ks_mg 176 (by decide +kernel) rfl, rfl⟩
set_option maxRecDepth 100000 in
theorem kc_L_81 : ks_CV RL 81 yX6_kitten cX6_kitten 2 (some .int) 1 := ⟨kb_X6_kitten, ks_mg 211 (by decide +kernel) rfl, ks_mg 212 (by decide +kernel) rfl, ks_mg 213 (by decide +kernel) rfl⟩
set_option maxRecDepth 100000 in
theorem kc_X6_44 : ks_CV RX6 44 yX0_draft cX0_draft 2 none 1 := ⟨kb_X0_draft, ks_mg 215 (by decide +kernel) rfl, ks_mg 216 (by decide +kernel) rfl, ks_mg 217 (by decide +kernel) rfl⟩
set_option maxRecDepth 100000 in
theorem kc_X0_24 : ks_CS RX0 24 yX6_roomAt cX6_roomAt 3 (some (.object "KittenStairs$Stairs")) 2 := ⟨kb_X6_roomAt, Or.inr ⟨RX6, by decide +kernel⟩, ks_mg 220 (by decide +kernel) rfl⟩
set_option maxRecDepth 100000 in
theorem kc_X0_28 : ks_CV RX0 28 yX4_copyFrom cX4_copyFrom 2 none 1 := ⟨kb_X4_copyFrom, ks_mg 222 (by decide +kernel) rfl, ks_mg 223 (by decide +kernel) rfl, ks_mg 224 (by decide +kernel) rfl⟩
set_option maxRecDepth 100000 in
theorem kc_X4_72 : ks_CV RX4 72 yX5_copyFrom cX5_copyFrom 2 none 1 := ⟨kb_X5_copyFrom, ks_mg 226 (by decide +kernel) rfl, ks_mg 227 (by decide +kernel) rfl, ks_mg 228 (by decide +kernel) rfl⟩
set_option maxRecDepth 100000 in
theorem kc_X4_76 : ks_CV RX4 76 yX3_copyFrom cX3_copyFrom 2 none 1 := ⟨kb_X3_copyFrom, ks_mg 231 (by decide +kernel) rfl, ks_mg 232 (by decide +kernel) rfl, ks_mg 233 (by decide +kernel) rfl⟩
set_option maxRecDepth 100000 in
theorem kc_X6_56 : ks_CV RX6 56 yX4_addKitten cX4_addKitten 3 (some .int) 1 := ⟨kb_X4_addKitten, ks_mg 236 (by decide +kernel) rfl, ks_mg 237 (by decide +kernel) rfl, ks_mg 238 (by decide +kernel) rfl⟩
set_option maxRecDepth 100000 in
theorem kc_X6_52 : ks_CV RX6 52 yX6_settled cX6_settled 2 (some .int) 1 := ⟨kb_X6_settled, ks_mg 240 (by decide +kernel) rfl, ks_mg 242 (by decide +kernel) rfl, ks_mg 0 (by decide +kernel) rfl⟩
set_option maxRecDepth 100000 in
theorem kc_X6_237 : ks_CV RX6 237 yX0_keepDraft cX0_keepDraft 1 none 0 := ⟨kb_X0_keepDraft, ks_mg 244 (by decide +kernel) rfl, ks_mg 245 (by decide +kernel) rfl, ks_mg 246 (by decide +kernel) rfl⟩
set_option maxRecDepth 100000 in
theorem kc_L_10 : ks_CV RL 10 yX6_count cX6_count 2 (some .int) 1 := ⟨kb_X6_count, ks_mg 248 (by decide +kernel) rfl, ks_mg 249 (by decide +kernel) rfl, ks_mg 250 (by decide +kernel) rfl⟩
set_option maxRecDepth 100000 in
theorem kc_X6_161 : ks_CV RX6 161 yX4_nappingSet cX4_nappingSet 3 (some .int) 0 := ⟨kb_X4_nappingSet, ks_mg 252 (by decide +kernel) rfl, ks_mg 253 (by decide +kernel) rfl, ks_mg 254 (by decide +kernel) rfl⟩
set_option maxRecDepth 100000 in
theorem kc_X4_100 : ks_CV RX4 100 yX4_naps cX4_naps 2 (some .boolean) 1 := ⟨kb_X4_naps, ks_mg 256 (by decide +kernel) rfl, ks_mg 258 (by decide +kernel) rfl, ks_mg 1 (by decide +kernel) rfl⟩
set_option maxRecDepth 100000 in
theorem kc_X6_168 : ks_CV RX6 168 yX4_sumOfAll cX4_sumOfAll 4 (some .int) 1 := ⟨kb_X4_sumOfAll, ks_mg 260 (by decide +kernel) rfl, ks_mg 261 (by decide +kernel) rfl, ks_mg 262 (by decide +kernel) rfl⟩
set_option maxRecDepth 100000 in
theorem kc_X6_128 : ks_CV RX6 128 yX4_boundPairs cX4_boundPairs 5 (some .int) 1 := ⟨kb_X4_boundPairs, ks_mg 264 (by decide +kernel) rfl, ks_mg 265 (by decide +kernel) rfl, ks_mg 266 (by decide +kernel) rfl⟩
set_option maxRecDepth 100000 in
theorem kc_X4_153 : ks_CV RX4 153 yX5_boundEdgeSet cX5_boundEdgeSet 9 (some .int) 2 := ⟨kb_X5_boundEdgeSet, ks_mg 268 (by decide +kernel) rfl, ks_mg 269 (by decide +kernel) rfl, ks_mg 270 (by decide +kernel) rfl⟩
set_option maxRecDepth 100000 in
theorem kc_L_61 : ks_CV RL 61 yX6_undo cX6_undo 1 (some .int) 0 := ⟨kb_X6_undo, ks_mg 272 (by decide +kernel) rfl, ks_mg 273 (by decide +kernel) rfl, ks_mg 274 (by decide +kernel) rfl⟩
set_option maxRecDepth 100000 in
theorem kc_X6_230 : ks_CV RX6 230 yX0_takeBack cX0_takeBack 2 none 1 := ⟨kb_X0_takeBack, ks_mg 276 (by decide +kernel) rfl, ks_mg 277 (by decide +kernel) rfl, ks_mg 278 (by decide +kernel) rfl⟩
set_option maxRecDepth 100000 in
theorem kc_L_16 : ks_CV RL 16 yX6_of cX6_of 3 (some .int) 2 := ⟨kb_X6_of, ks_mg 292 (by decide +kernel) rfl, ks_mg 293 (by decide +kernel) rfl, ks_mg 294 (by decide +kernel) rfl⟩
set_option maxRecDepth 100000 in
theorem kc_X6_75 : ks_CV RX6 75 yX4_hasKitten cX4_hasKitten 2 (some .boolean) 1 := ⟨kb_X4_hasKitten, ks_mg 296 (by decide +kernel) rfl, ks_mg 297 (by decide +kernel) rfl, ks_mg 298 (by decide +kernel) rfl⟩
set_option maxRecDepth 100000 in
theorem kc_X6_96 : ks_CV RX6 96 yX5_lyingOf cX5_lyingOf 4 (some .int) 1 := ⟨kb_X5_lyingOf, ks_mg 300 (by decide +kernel) rfl, ks_mg 301 (by decide +kernel) rfl, ks_mg 302 (by decide +kernel) rfl⟩
set_option maxRecDepth 100000 in
theorem kc_X6_110 : ks_CV RX6 110 yX4_boundSet cX4_boundSet 4 (some .int) 1 := ⟨kb_X4_boundSet, ks_mg 304 (by decide +kernel) rfl, ks_mg 305 (by decide +kernel) rfl, ks_mg 306 (by decide +kernel) rfl⟩
set_option maxRecDepth 100000 in
theorem kc_X6_113 : ks_CV RX6 113 yX4_reachSet cX4_reachSet 5 (some .int) 1 := ⟨kb_X4_reachSet, ks_mg 308 (by decide +kernel) rfl, ks_mg 309 (by decide +kernel) rfl, ks_mg 310 (by decide +kernel) rfl⟩
set_option maxRecDepth 100000 in
theorem kc_X4_92 : ks_CV RX4 92 yX4_refusal cX4_refusal 4 (some .int) 2 := ⟨kb_X4_refusal, ks_mg 312 (by decide +kernel) rfl, ks_mg 313 (by decide +kernel) rfl, ks_mg 314 (by decide +kernel) rfl⟩
set_option maxRecDepth 100000 in
theorem kc_X4_137 : ks_CS RX4 137 yX4_cost cX4_cost 1 (some .int) 1 := ⟨kb_X4_cost, Or.inl (ks_mg 316 (by decide +kernel) rfl), ks_mg 317 (by decide +kernel) rfl⟩
set_option maxRecDepth 100000 in
theorem kc_X4_141 : ks_CV RX4 141 yX4_isHeldBack cX4_isHeldBack 6 (some .boolean) 2 := ⟨kb_X4_isHeldBack, ks_mg 319 (by decide +kernel) rfl, ks_mg 321 (by decide +kernel) rfl, ks_mg 2 (by decide +kernel) rfl⟩
set_option maxRecDepth 100000 in
theorem kc_X4_145 : ks_CV RX4 145 yX4_ballLasts cX4_ballLasts 7 (some .boolean) 2 := ⟨kb_X4_ballLasts, ks_mg 326 (by decide +kernel) rfl, ks_mg 328 (by decide +kernel) rfl, ks_mg 3 (by decide +kernel) rfl⟩
set_option maxRecDepth 100000 in
theorem kc_X4_156 : ks_CS RX4 156 yX4_edgeOnWay cX4_edgeOnWay 3 (some .int) 3 := ⟨kb_X4_edgeOnWay, Or.inl (ks_mg 330 (by decide +kernel) rfl), ks_mg 331 (by decide +kernel) rfl⟩
set_option maxRecDepth 100000 in
theorem kc_X4_160 : ks_CV RX4 160 yX5_topOwner cX5_topOwner 3 (some .int) 1 := ⟨kb_X5_topOwner, ks_mg 333 (by decide +kernel) rfl, ks_mg 334 (by decide +kernel) rfl, ks_mg 335 (by decide +kernel) rfl⟩
set_option maxRecDepth 100000 in
theorem kc_L_25 : ks_CV RL 25 yX6_bound cX6_bound 3 (some .int) 2 := ⟨kb_X6_bound, ks_mg 340 (by decide +kernel) rfl, ks_mg 341 (by decide +kernel) rfl, ks_mg 342 (by decide +kernel) rfl⟩
set_option maxRecDepth 100000 in
theorem kc_X6_134 : ks_CV RX6 134 yX5_boundEdgeSet cX5_boundEdgeSet 9 (some .int) 2 := ⟨kb_X5_boundEdgeSet, ks_mg 344 (by decide +kernel) rfl, ks_mg 269 (by decide +kernel) rfl, ks_mg 270 (by decide +kernel) rfl⟩
set_option maxRecDepth 100000 in
theorem kc_L_28 : ks_CV RL 28 yX6_frees cX6_frees 5 (some .int) 2 := ⟨kb_X6_frees, ks_mg 345 (by decide +kernel) rfl, ks_mg 346 (by decide +kernel) rfl, ks_mg 347 (by decide +kernel) rfl⟩
set_option maxRecDepth 100000 in
theorem kc_X6_198 : ks_CV RX6 198 yX5_fewestGone cX5_fewestGone 6 (some .int) 3 := ⟨kb_X5_fewestGone, ks_mg 349 (by decide +kernel) rfl, ks_mg 350 (by decide +kernel) rfl, ks_mg 351 (by decide +kernel) rfl⟩
set_option maxRecDepth 100000 in
theorem kc_X5_28 : ks_CV RX5 28 yX5_mostKept cX5_mostKept 7 (some .int) 3 := ⟨kb_X5_mostKept, ks_mg 353 (by decide +kernel) rfl, ks_mg 355 (by decide +kernel) rfl, ks_mg 4 (by decide +kernel) rfl⟩
set_option maxRecDepth 100000 in
theorem kc_L_31 : ks_CV RL 31 yX6_ofEdge cX6_ofEdge 3 (some .int) 2 := ⟨kb_X6_ofEdge, ks_mg 363 (by decide +kernel) rfl, ks_mg 364 (by decide +kernel) rfl, ks_mg 365 (by decide +kernel) rfl⟩
set_option maxRecDepth 100000 in
theorem kc_X6_116 : ks_CS RX6 116 yX6_isEdge cX6_isEdge 1 (some .boolean) 1 := ⟨kb_X6_isEdge, Or.inl (ks_mg 367 (by decide +kernel) rfl), ks_mg 368 (by decide +kernel) rfl⟩
set_option maxRecDepth 100000 in
theorem kc_X6_119 : ks_CV RX6 119 yX5_lyingAt cX5_lyingAt 4 (some .int) 1 := ⟨kb_X5_lyingAt, ks_mg 370 (by decide +kernel) rfl, ks_mg 371 (by decide +kernel) rfl, ks_mg 372 (by decide +kernel) rfl⟩
set_option maxRecDepth 100000 in
theorem kc_X6_122 : ks_CV RX6 122 yX5_topOwner cX5_topOwner 3 (some .int) 1 := ⟨kb_X5_topOwner, ks_mg 374 (by decide +kernel) rfl, ks_mg 334 (by decide +kernel) rfl, ks_mg 335 (by decide +kernel) rfl⟩
set_option maxRecDepth 100000 in
theorem kc_X6_125 : ks_CV RX6 125 yX5_ownerSetAt cX5_ownerSetAt 4 (some .int) 1 := ⟨kb_X5_ownerSetAt, ks_mg 375 (by decide +kernel) rfl, ks_mg 376 (by decide +kernel) rfl, ks_mg 377 (by decide +kernel) rfl⟩
set_option maxRecDepth 100000 in
theorem kc_L_34 : ks_CV RL 34 yX6_strand cX6_strand 3 (some .int) 2 := ⟨kb_X6_strand, ks_mg 379 (by decide +kernel) rfl, ks_mg 380 (by decide +kernel) rfl, ks_mg 381 (by decide +kernel) rfl⟩
set_option maxRecDepth 100000 in
theorem kc_X6_131 : ks_CV RX6 131 yX5_ownerAt cX5_ownerAt 5 (some .int) 2 := ⟨kb_X5_ownerAt, ks_mg 383 (by decide +kernel) rfl, ks_mg 384 (by decide +kernel) rfl, ks_mg 385 (by decide +kernel) rfl⟩
set_option maxRecDepth 100000 in
theorem kc_L_37 : ks_CV RL 37 yX6_thickest cX6_thickest 5 (some .int) 0 := ⟨kb_X6_thickest, ks_mg 387 (by decide +kernel) rfl, ks_mg 388 (by decide +kernel) rfl, ks_mg 389 (by decide +kernel) rfl⟩
set_option maxRecDepth 100000 in
theorem kc_L_41 : ks_CV RL 41 yX6_planned cX6_planned 3 (some .int) 2 := ⟨kb_X6_planned, ks_mg 394 (by decide +kernel) rfl, ks_mg 395 (by decide +kernel) rfl, ks_mg 396 (by decide +kernel) rfl⟩
set_option maxRecDepth 100000 in
theorem kc_L_44 : ks_CV RL 44 yX6_quietIn cX6_quietIn 2 (some .int) 0 := ⟨kb_X6_quietIn, ks_mg 398 (by decide +kernel) rfl, ks_mg 399 (by decide +kernel) rfl, ks_mg 400 (by decide +kernel) rfl⟩
set_option maxRecDepth 100000 in
theorem kc_X6_201 : ks_CV RX6 201 yX4_lastWaking cX4_lastWaking 3 (some .int) 0 := ⟨kb_X4_lastWaking, ks_mg 402 (by decide +kernel) rfl, ks_mg 403 (by decide +kernel) rfl, ks_mg 404 (by decide +kernel) rfl⟩
set_option maxRecDepth 100000 in
theorem kc_X6_204 : ks_CV RX6 204 yX3_lastTurn cX3_lastTurn 1 (some .int) 0 := ⟨kb_X3_lastTurn, ks_mg 407 (by decide +kernel) rfl, ks_mg 408 (by decide +kernel) rfl, ks_mg 409 (by decide +kernel) rfl⟩
set_option maxRecDepth 100000 in
theorem kc_L_51 : ks_CV RL 51 yX6_why cX6_why 3 (some .int) 2 := ⟨kb_X6_why, ks_mg 420 (by decide +kernel) rfl, ks_mg 421 (by decide +kernel) rfl, ks_mg 422 (by decide +kernel) rfl⟩
set_option maxRecDepth 100000 in
theorem kc_X6_185 : ks_CS RX6 185 yX6_isLeap cX6_isLeap 1 (some .boolean) 1 := ⟨kb_X6_isLeap, Or.inl (ks_mg 424 (by decide +kernel) rfl), ks_mg 425 (by decide +kernel) rfl⟩
set_option maxRecDepth 100000 in
theorem kc_X6_188 : ks_CV RX6 188 yX4_refusal cX4_refusal 4 (some .int) 2 := ⟨kb_X4_refusal, ks_mg 427 (by decide +kernel) rfl, ks_mg 313 (by decide +kernel) rfl, ks_mg 314 (by decide +kernel) rfl⟩
set_option maxRecDepth 100000 in
theorem kc_L_54 : ks_CV RL 54 yX6_ifLeapt cX6_ifLeapt 4 (some .int) 3 := ⟨kb_X6_ifLeapt, ks_mg 428 (by decide +kernel) rfl, ks_mg 429 (by decide +kernel) rfl, ks_mg 430 (by decide +kernel) rfl⟩
set_option maxRecDepth 100000 in
theorem kc_X6_191 : ks_CV RX6 191 yX4_copyFrom cX4_copyFrom 2 none 1 := ⟨kb_X4_copyFrom, ks_mg 432 (by decide +kernel) rfl, ks_mg 223 (by decide +kernel) rfl, ks_mg 224 (by decide +kernel) rfl⟩
set_option maxRecDepth 100000 in
theorem kc_X6_194 : ks_CV RX6 194 yX4_makeLeap cX4_makeLeap 5 none 2 := ⟨kb_X4_makeLeap, ks_mg 433 (by decide +kernel) rfl, ks_mg 434 (by decide +kernel) rfl, ks_mg 435 (by decide +kernel) rfl⟩
set_option maxRecDepth 100000 in
theorem kc_X4_163 : ks_CV RX4 163 yX4_comeOver cX4_comeOver 3 none 2 := ⟨kb_X4_comeOver, ks_mg 437 (by decide +kernel) rfl, ks_mg 439 (by decide +kernel) rfl, ks_mg 5 (by decide +kernel) rfl⟩
set_option maxRecDepth 100000 in
theorem kc_X4_166 : ks_CV RX4 166 yX5_removeTop cX5_removeTop 4 none 1 := ⟨kb_X5_removeTop, ks_mg 441 (by decide +kernel) rfl, ks_mg 442 (by decide +kernel) rfl, ks_mg 443 (by decide +kernel) rfl⟩
set_option maxRecDepth 100000 in
theorem kc_X4_170 : ks_CV RX4 170 yX5_lay cX5_lay 3 none 2 := ⟨kb_X5_lay, ks_mg 445 (by decide +kernel) rfl, ks_mg 446 (by decide +kernel) rfl, ks_mg 447 (by decide +kernel) rfl⟩
set_option maxRecDepth 100000 in
theorem kc_L_58 : ks_CV RL 58 yX6_leap cX6_leap 3 (some .int) 2 := ⟨kb_X6_leap, ks_mg 449 (by decide +kernel) rfl, ks_mg 450 (by decide +kernel) rfl, ks_mg 451 (by decide +kernel) rfl⟩
set_option maxRecDepth 100000 in
theorem kc_X6_59 : ks_CV RX6 59 yX4_tryLeap cX4_tryLeap 3 (some .int) 2 := ⟨kb_X4_tryLeap, ks_mg 453 (by decide +kernel) rfl, ks_mg 454 (by decide +kernel) rfl, ks_mg 455 (by decide +kernel) rfl⟩
set_option maxRecDepth 100000 in
theorem kc_X4_85 : ks_CV RX4 85 yX4_hasKitten cX4_hasKitten 2 (some .boolean) 1 := ⟨kb_X4_hasKitten, ks_mg 457 (by decide +kernel) rfl, ks_mg 297 (by decide +kernel) rfl, ks_mg 298 (by decide +kernel) rfl⟩
set_option maxRecDepth 100000 in
theorem kc_X4_89 : ks_CS RX4 89 yX6_isLeap cX6_isLeap 1 (some .boolean) 1 := ⟨kb_X6_isLeap, Or.inr ⟨RX6, by decide +kernel⟩, ks_mg 425 (by decide +kernel) rfl⟩
set_option maxRecDepth 100000 in
theorem kc_X4_96 : ks_CV RX4 96 yX4_makeLeap cX4_makeLeap 5 none 2 := ⟨kb_X4_makeLeap, ks_mg 459 (by decide +kernel) rfl, ks_mg 434 (by decide +kernel) rfl, ks_mg 435 (by decide +kernel) rfl⟩
set_option maxRecDepth 100000 in
theorem kc_L_64 : ks_CV RL 64 yX6_stepIn cX6_stepIn 4 (some .int) 2 := ⟨kb_X6_stepIn, ks_mg 463 (by decide +kernel) rfl, ks_mg 464 (by decide +kernel) rfl, ks_mg 465 (by decide +kernel) rfl⟩
set_option maxRecDepth 100000 in
theorem kc_X6_212 : ks_CV RX6 212 yX4_passOneTurn cX4_passOneTurn 5 (some .int) 0 := ⟨kb_X4_passOneTurn, ks_mg 467 (by decide +kernel) rfl, ks_mg 468 (by decide +kernel) rfl, ks_mg 469 (by decide +kernel) rfl⟩
set_option maxRecDepth 100000 in
theorem kc_X4_120 : ks_CV RX4 120 yX4_wakeKittens cX4_wakeKittens 2 none 0 := ⟨kb_X4_wakeKittens, ks_mg 471 (by decide +kernel) rfl, ks_mg 473 (by decide +kernel) rfl, ks_mg 6 (by decide +kernel) rfl⟩
set_option maxRecDepth 100000 in
theorem kc_X4_123 : ks_CV RX4 123 yX3_firstTurn cX3_firstTurn 1 (some .int) 0 := ⟨kb_X3_firstTurn, ks_mg 475 (by decide +kernel) rfl, ks_mg 476 (by decide +kernel) rfl, ks_mg 477 (by decide +kernel) rfl⟩
set_option maxRecDepth 100000 in
theorem kc_X4_131 : ks_CV RX4 131 yX3_removeFirst cX3_removeFirst 2 none 0 := ⟨kb_X3_removeFirst, ks_mg 479 (by decide +kernel) rfl, ks_mg 480 (by decide +kernel) rfl, ks_mg 481 (by decide +kernel) rfl⟩
set_option maxRecDepth 100000 in
theorem kc_X3_35 : ks_CV RX3 35 yX3_move cX3_move 3 none 2 := ⟨kb_X3_move, ks_mg 483 (by decide +kernel) rfl, ks_mg 485 (by decide +kernel) rfl, ks_mg 7 (by decide +kernel) rfl⟩
set_option maxRecDepth 100000 in
theorem kc_X4_134 : ks_CV RX4 134 yX4_refreshKittens cX4_refreshKittens 2 none 0 := ⟨kb_X4_refreshKittens, ks_mg 487 (by decide +kernel) rfl, ks_mg 489 (by decide +kernel) rfl, ks_mg 8 (by decide +kernel) rfl⟩
set_option maxRecDepth 100000 in
theorem kc_L_71 : ks_CV RL 71 yX6_pass cX6_pass 2 (some .int) 1 := ⟨kb_X6_pass, ks_mg 491 (by decide +kernel) rfl, ks_mg 492 (by decide +kernel) rfl, ks_mg 493 (by decide +kernel) rfl⟩
set_option maxRecDepth 100000 in
theorem kc_X6_72 : ks_CV RX6 72 yX4_passTurns cX4_passTurns 4 (some .int) 1 := ⟨kb_X4_passTurns, ks_mg 495 (by decide +kernel) rfl, ks_mg 496 (by decide +kernel) rfl, ks_mg 497 (by decide +kernel) rfl⟩
set_option maxRecDepth 100000 in
theorem kc_X4_116 : ks_CV RX4 116 yX4_passOneTurn cX4_passOneTurn 5 (some .int) 0 := ⟨kb_X4_passOneTurn, ks_mg 499 (by decide +kernel) rfl, ks_mg 468 (by decide +kernel) rfl, ks_mg 469 (by decide +kernel) rfl⟩
set_option maxRecDepth 100000 in
theorem kc_L_84 : ks_CV RL 84 yX6_set cX6_set 3 (some .int) 2 := ⟨kb_X6_set, ks_mg 503 (by decide +kernel) rfl, ks_mg 504 (by decide +kernel) rfl, ks_mg 505 (by decide +kernel) rfl⟩
set_option maxRecDepth 100000 in
theorem kc_X6_48 : ks_CV RX6 48 yX4_changeSetting cX4_changeSetting 4 (some .int) 2 := ⟨kb_X4_changeSetting, ks_mg 507 (by decide +kernel) rfl, ks_mg 508 (by decide +kernel) rfl, ks_mg 509 (by decide +kernel) rfl⟩
set_option maxRecDepth 100000 in
theorem kc_L_87 : ks_CV RL 87 yX6_nap cX6_nap 2 (some .int) 1 := ⟨kb_X6_nap, ks_mg 515 (by decide +kernel) rfl, ks_mg 516 (by decide +kernel) rfl, ks_mg 517 (by decide +kernel) rfl⟩
set_option maxRecDepth 100000 in
theorem kc_X6_62 : ks_CV RX6 62 yX4_beginNap cX4_beginNap 2 (some .int) 1 := ⟨kb_X4_beginNap, ks_mg 519 (by decide +kernel) rfl, ks_mg 520 (by decide +kernel) rfl, ks_mg 521 (by decide +kernel) rfl⟩
set_option maxRecDepth 100000 in
theorem kc_L_90 : ks_CV RL 90 yX6_snip cX6_snip 3 (some .int) 2 := ⟨kb_X6_snip, ks_mg 523 (by decide +kernel) rfl, ks_mg 524 (by decide +kernel) rfl, ks_mg 525 (by decide +kernel) rfl⟩
set_option maxRecDepth 100000 in
theorem kc_X6_65 : ks_CV RX6 65 yX4_snipStrands cX4_snipStrands 4 (some .int) 2 := ⟨kb_X4_snipStrands, ks_mg 527 (by decide +kernel) rfl, ks_mg 528 (by decide +kernel) rfl, ks_mg 529 (by decide +kernel) rfl⟩
set_option maxRecDepth 100000 in
theorem kc_X4_103 : ks_CS RX4 103 yX6_isEdge cX6_isEdge 1 (some .boolean) 1 := ⟨kb_X6_isEdge, Or.inr ⟨RX6, by decide +kernel⟩, ks_mg 368 (by decide +kernel) rfl⟩
set_option maxRecDepth 100000 in
theorem kc_X4_106 : ks_CV RX4 106 yX5_removeAll cX5_removeAll 5 (some .int) 2 := ⟨kb_X5_removeAll, ks_mg 532 (by decide +kernel) rfl, ks_mg 533 (by decide +kernel) rfl, ks_mg 534 (by decide +kernel) rfl⟩
set_option maxRecDepth 100000 in
theorem kc_L_93 : ks_CV RL 93 yX6_plan cX6_plan 4 (some .int) 3 := ⟨kb_X6_plan, ks_mg 536 (by decide +kernel) rfl, ks_mg 537 (by decide +kernel) rfl, ks_mg 538 (by decide +kernel) rfl⟩
set_option maxRecDepth 100000 in
theorem kc_X6_68 : ks_CV RX6 68 yX4_planLeap cX4_planLeap 4 (some .int) 3 := ⟨kb_X4_planLeap, ks_mg 540 (by decide +kernel) rfl, ks_mg 541 (by decide +kernel) rfl, ks_mg 542 (by decide +kernel) rfl⟩
set_option maxRecDepth 100000 in
theorem kc_X4_112 : ks_CV RX4 112 yX3_insert cX3_insert 5 none 3 := ⟨kb_X3_insert, ks_mg 544 (by decide +kernel) rfl, ks_mg 545 (by decide +kernel) rfl, ks_mg 546 (by decide +kernel) rfl⟩
set_option maxRecDepth 100000 in
theorem kc_X3_31 : ks_CV RX3 31 yX3_isLater cX3_isLater 4 (some .boolean) 3 := ⟨kb_X3_isLater, ks_mg 548 (by decide +kernel) rfl, ks_mg 550 (by decide +kernel) rfl, ks_mg 9 (by decide +kernel) rfl⟩
set_option maxRecDepth 100000 in
theorem kw_L_11 : Cond.classLink RL 11 RX6 ∈ lw_g := ks_mg 20 (by decide +kernel) rfl
set_option maxRecDepth 100000 in
theorem kn_L_11 : ks_New RL 11 6 [.null, .null, .null, .null, .null, .null] := ⟨RX6, TX6, 6, tyX6, kcl_6, kw_L_11, ks_mg 21 (by decide +kernel) rfl, ks_mg 11 (by decide +kernel) rfl, (by decide +kernel : ∀ j, j < 6 → defaultValue (tyX6 j) = vp_V [.null, .null, .null, .null, .null, .null] j), rfl⟩
set_option maxRecDepth 100000 in
theorem kw_X6_9 : Cond.classLink RX6 9 RX4 ∈ lw_g := ks_mg 28 (by decide +kernel) rfl
set_option maxRecDepth 100000 in
theorem kn_X6_9 : ks_New RX6 9 4 [.null, .int 0, .int 0, .int 0, .int 0, .null, .null, .null, .null, .null, .null, .null, .null, .null] := ⟨RX4, TX4, 14, tyX4, kcl_4, kw_X6_9, ks_mg 29 (by decide +kernel) rfl, ks_mg 12 (by decide +kernel) rfl, (by decide +kernel : ∀ j, j < 14 → defaultValue (tyX4 j) = vp_V [.null, .int 0, .int 0, .int 0, .int 0, .null, .null, .null, .null, .null, .null, .null, .null, .null] j), rfl⟩
set_option maxRecDepth 100000 in
theorem kw_X4_49 : Cond.classLink RX4 49 RX5 ∈ lw_g := ks_mg 34 (by decide +kernel) rfl
set_option maxRecDepth 100000 in
theorem kn_X4_49 : ks_New RX4 49 5 [.null, .null, .int 0] := ⟨RX5, TX5, 3, tyX5, kcl_5, kw_X4_49, ks_mg 35 (by decide +kernel) rfl, ks_mg 13 (by decide +kernel) rfl, (by decide +kernel : ∀ j, j < 3 → defaultValue (tyX5 j) = vp_V [.null, .null, .int 0] j), rfl⟩
set_option maxRecDepth 100000 in
theorem kw_X4_56 : Cond.classLink RX4 56 RX3 ∈ lw_g := ks_mg 52 (by decide +kernel) rfl
set_option maxRecDepth 100000 in
theorem kn_X4_56 : ks_New RX4 56 3 [.null, .null, .null, .int 0] := ⟨RX3, TX3, 4, tyX3, kcl_3, kw_X4_56, ks_mg 53 (by decide +kernel) rfl, ks_mg 14 (by decide +kernel) rfl, (by decide +kernel : ∀ j, j < 4 → defaultValue (tyX3 j) = vp_V [.null, .null, .null, .int 0] j), rfl⟩
set_option maxRecDepth 100000 in
theorem kw_X6_19 : Cond.classLink RX6 19 RX0 ∈ lw_g := ks_mg 140 (by decide +kernel) rfl
set_option maxRecDepth 100000 in
theorem kn_X6_19 : ks_New RX6 19 0 [.null, .int 0, .int 0] := ⟨RX0, TX0, 3, tyX0, kcl_0, kw_X6_19, ks_mg 141 (by decide +kernel) rfl, ks_mg 16 (by decide +kernel) rfl, (by decide +kernel : ∀ j, j < 3 → defaultValue (tyX0 j) = vp_V [.null, .int 0, .int 0] j), rfl⟩
set_option maxRecDepth 100000 in
theorem kw_X0_11 : Cond.classLink RX0 11 RX4 ∈ lw_g := ks_mg 146 (by decide +kernel) rfl
set_option maxRecDepth 100000 in
theorem kn_X0_11 : ks_New RX0 11 4 [.null, .int 0, .int 0, .int 0, .int 0, .null, .null, .null, .null, .null, .null, .null, .null, .null] := ⟨RX4, TX4, 14, tyX4, kcl_4, kw_X0_11, ks_mg 29 (by decide +kernel) rfl, ks_mg 12 (by decide +kernel) rfl, (by decide +kernel : ∀ j, j < 14 → defaultValue (tyX4 j) = vp_V [.null, .int 0, .int 0, .int 0, .int 0, .null, .null, .null, .null, .null, .null, .null, .null, .null] j), rfl⟩
set_option maxRecDepth 100000 in
theorem kw_X6_30 : Cond.classLink RX6 30 RX2 ∈ lw_g := ks_mg 159 (by decide +kernel) rfl
set_option maxRecDepth 100000 in
theorem kn_X6_30 : ks_New RX6 30 2 [.null, .int 0] := ⟨RX2, TX2, 2, tyX2, kcl_2, kw_X6_30, ks_mg 160 (by decide +kernel) rfl, ks_mg 17 (by decide +kernel) rfl, (by decide +kernel : ∀ j, j < 2 → defaultValue (tyX2 j) = vp_V [.null, .int 0] j), rfl⟩
set_option maxRecDepth 100000 in
theorem kw_X6_37 : Cond.classLink RX6 37 RX1 ∈ lw_g := ks_mg 173 (by decide +kernel) rfl
set_option maxRecDepth 100000 in
theorem kn_X6_37 : ks_New RX6 37 1 [.null, .null, .int 0, .int 0] := ⟨RX1, TX1, 4, tyX1, kcl_1, kw_X6_37, ks_mg 174 (by decide +kernel) rfl, ks_mg 18 (by decide +kernel) rfl, (by decide +kernel : ∀ j, j < 4 → defaultValue (tyX1 j) = vp_V [.null, .null, .int 0, .int 0] j), rfl⟩
set_option maxRecDepth 100000 in
theorem kj_X6_3 : Cond.methodLink RX6 3 Lib.objectInit ∈ lw_g := ks_mg 25 (by decide +kernel) rfl
set_option maxRecDepth 100000 in
theorem kj_X4_3 : Cond.methodLink RX4 3 Lib.objectInit ∈ lw_g := ks_mg 33 (by decide +kernel) rfl
set_option maxRecDepth 100000 in
theorem kj_X5_3 : Cond.methodLink RX5 3 Lib.objectInit ∈ lw_g := ks_mg 39 (by decide +kernel) rfl
set_option maxRecDepth 100000 in
theorem kj_X3_3 : Cond.methodLink RX3 3 Lib.objectInit ∈ lw_g := ks_mg 57 (by decide +kernel) rfl
set_option maxRecDepth 100000 in
theorem kj_X4_66 : Cond.methodLink RX4 66 arraycopyName ∈ lw_g := ks_mg 80 (by decide +kernel) rfl
set_option maxRecDepth 100000 in
theorem kj_X0_3 : Cond.methodLink RX0 3 Lib.objectInit ∈ lw_g := ks_mg 145 (by decide +kernel) rfl
set_option maxRecDepth 100000 in
theorem kj_X2_3 : Cond.methodLink RX2 3 Lib.objectInit ∈ lw_g := ks_mg 164 (by decide +kernel) rfl
set_option maxRecDepth 100000 in
theorem kj_X1_3 : Cond.methodLink RX1 3 Lib.objectInit ∈ lw_g := ks_mg 178 (by decide +kernel) rfl
set_option maxRecDepth 100000 in
theorem kj_X5_22 : Cond.methodLink RX5 22 arraycopyName ∈ lw_g := ks_mg 230 (by decide +kernel) rfl
set_option maxRecDepth 100000 in
theorem kj_X3_25 : Cond.methodLink RX3 25 arraycopyName ∈ lw_g := ks_mg 235 (by decide +kernel) rfl
set_option maxRecDepth 100000 in
theorem kj_X4_148 : Cond.methodLink RX4 148 Lib.Math.abs.name ∈ lw_g := ks_mg 323 (by decide +kernel) rfl
set_option maxRecDepth 100000 in
theorem kj_X5_32 : Cond.methodLink RX5 32 Lib.Math.max.name ∈ lw_g := ks_mg 357 (by decide +kernel) rfl
set_option maxRecDepth 100000 in
theorem kj_X4_173 : Cond.methodLink RX4 173 Lib.Math.max.name ∈ lw_g := ks_mg 406 (by decide +kernel) rfl
set_option maxRecDepth 100000 in
theorem kj_X6_207 : Cond.methodLink RX6 207 Lib.Math.max.name ∈ lw_g := ks_mg 411 (by decide +kernel) rfl
set_option maxRecDepth 100000 in
theorem kl_L_47 : Cond.constantLong RL 47 (31) ∈ lw_g := ks_mg 415 (by decide +kernel) rfl
set_option maxRecDepth 100000 in
theorem kl_L_49 : Cond.constantLong RL 49 (16) ∈ lw_g := ks_mg 416 (by decide +kernel) rfl
set_option maxRecDepth 100000 in
theorem ku_oi : Cond.instanceMethod Lib.objectInit ∈ lw_g := ks_mg 26 (by decide +kernel) rfl
set_option maxRecDepth 100000 in
theorem ku_oc : Cond.code Lib.objectInit ⟨#[0xb1]⟩ 1 none ∈ lw_g := ks_mg 27 (by decide +kernel) rfl
set_option maxRecDepth 100000 in
theorem ku_ai : Cond.arrayClass .int ∈ lw_g := ks_mg 51 (by decide +kernel) rfl
-- none: ku_az (Jvm.Cond.arrayClass Jvm.ClassFile.FieldType.boolean
set_option maxRecDepth 100000 in
theorem ku_cn : Cond.native arraycopyName ∈ lw_g := ks_mg 82 (by decide +kernel) rfl
set_option maxRecDepth 100000 in
theorem ku_cs : Cond.static arraycopyName ∈ lw_g := ks_mg 81 (by decide +kernel) rfl
set_option maxRecDepth 100000 in
theorem ku_ci : Cond.initialized "java/lang/System" ∈ lw_g := ks_mg 15 (by decide +kernel) rfl
set_option maxRecDepth 100000 in
theorem ku_mi : Cond.initialized "java/lang/Math" ∈ lw_g := ks_mg 19 (by decide +kernel) rfl
set_option maxRecDepth 100000 in
theorem ku_maxs : Cond.static Lib.Math.max.name ∈ lw_g := ks_mg 358 (by decide +kernel) rfl
set_option maxRecDepth 100000 in
theorem ku_maxc : Cond.code Lib.Math.max.name Lib.Math.max.code 2 (some .int) ∈ lw_g := ks_mg 359 (by decide +kernel) rfl
set_option maxRecDepth 100000 in
theorem ku_abss : Cond.static Lib.Math.abs.name ∈ lw_g := ks_mg 324 (by decide +kernel) rfl
set_option maxRecDepth 100000 in
theorem ku_absc : Cond.code Lib.Math.abs.name Lib.Math.abs.code 1 (some .int) ∈ lw_g := ks_mg 325 (by decide +kernel) rfl
